set_option maxHeartbeats 4000000 in
set_option maxRecDepth 100000 in
theorem fx_X6_figure_9 (l : Launch) (g : dkG) (z : Nat) (I0 : dkI) (p0 : Int32) (p1 : Int32) (np0 : dkN [(0, 90)] (I0 340 8))  (hO : dkOk I0) : Met l yX6_figure wsX6_figure (dkR 2) (dkPc g z [.ref (z + 340), .int p0, .int p1] I0) (dkQi g z (fun r I1 => dkF [] I0 I1 ∧ dkOk I1 ∧ ((dkN [(0, 0)] r ∧ dkN [(-2147483647, 2147483647)] p0 ∧ dkN [(-2147483648, 2147483646)] (I1 340 12) ∧ dkN [(0, 90)] (I1 340 8) ∧ (0 : Int) + 0 ≤ (I0 340 8).toInt ∧ (I0 340 12).toInt + 1 ≤ p0.toInt ∧ r = 0 ∧ I1 340 7 = I0 340 7 ∧ I1 340 8 = I0 340 8 ∧ I1 340 9 = I0 340 9 ∧ I1 340 10 = I0 340 10 ∧ I1 340 11 = I0 340 11 ∧ I1 340 12 = I0 340 12 ∧ True) ∨ (dkN [(0, 0)] r ∧ dkN [(-2147483648, 2147483646)] p1 ∧ dkN [(-2147483647, 2147483647)] (I1 340 12) ∧ dkN [(0, 90)] (I1 340 8) ∧ (0 : Int) + 0 ≤ (I0 340 8).toInt ∧ p0.toInt + 0 ≤ (I0 340 12).toInt ∧ p1.toInt + 1 ≤ (I0 340 12).toInt ∧ r = 0 ∧ I1 340 7 = I0 340 7 ∧ I1 340 8 = I0 340 8 ∧ I1 340 9 = I0 340 9 ∧ I1 340 10 = I0 340 10 ∧ I1 340 11 = I0 340 11 ∧ I1 340 12 = I0 340 12 ∧ True) ∨ (dkN [(0, 0)] r ∧ dkN [(0, 90)] (I1 340 8) ∧ (0 : Int) + 0 ≤ (I0 340 8).toInt ∧ p0.toInt + 0 ≤ (I0 340 12).toInt ∧ (I0 340 12).toInt + 0 ≤ p1.toInt ∧ r = 0 ∧ I1 340 7 = I0 340 7 ∧ I1 340 8 = I0 340 8 ∧ I1 340 9 = I0 340 9 ∧ I1 340 10 = I0 340 10 ∧ I1 340 11 = I0 340 11 ∧ I1 340 12 = I0 340 12 ∧ True)))) 0 0 (dkA z) := by
  refine Met.ofW (cc := cX6_figure) (maxL := 3) (ret := (some .int)) (by decide) rfl ?_
  intro p e s m args below meth c s₁ B hml hv
  obtain ⟨ha, hW, hK, hT⟩ := hv
  have hx := B.exec
  have hb := B.bytes
  have hr := B.returns
  have hts := atoms_spec (ws := wsX6_figure) B.pre
  have hown : s.vm.findClass RX6 = some m.cls := findClass_of_methodNamed B.named
  have hlocks := B.notSynchronized
  have hS : va_S (dkA z) s.heap s.heap [] := va_S.rf
  have hF : dkF [] I0 I0 := dkF_rf _ _
  have hl := lv_entry ([.ref (z + 340), .int p0, .int p1]) (n := 3) (Nat.le_of_ble_eq_true rfl)
  have hgo : entryFrame m args 3 = entryFrame m ([.ref (z + 340), .int p0, .int p1] : List Value).toArray 3 := by rw [ha]
  rw [hgo, lg_entry_eq]
  generalize (lg_sl ([.ref (z + 340), .int p0, .int p1]) ++ List.replicate (3 - (lg_sl ([.ref (z + 340), .int p0, .int p1])).length) Slot.unset).toArray = ls at hl ⊢
  have hl : lv_has ls 3 [(0, .ref (z + 340)), (1, .int p0), (2, .int p1)] := hl
  refine lv_aload_n hx hb dX6_figure_0 rfl (lv_at hl 0 rfl) ?_
  refine dk_Vi (As := []) (rest := []) ⟨hx, hb, hml, hown, hts⟩ (fx_X6_isWell_7 l g z I0 (show dkN [(0, 90)] (I0 340 8) from dkN_sub np0 rfl) hO) (cwV 0 hts gX6_figure_X6_isWell rfl rfl rfl (by decide +kernel) ⟨Nat.le_of_ble_eq_true rfl, Nat.le_of_ble_eq_true rfl⟩) (dk_at340 hW) rfl hK hT hW hS rfl hl.1 rfl (Nat.le_of_ble_eq_true rfl) dX6_figure_1 ⟨Nat.zero_le _, Nat.zero_le _⟩ (fun v1 I1 H1 L1 hp1 hW hS => ?_)
  obtain ⟨hF1, hO, hc1⟩ := hp1
  have hF := dkF_call hF hF1 rfl
  have eI1 : I0 = I1 := (dkF_nil hF1).symm
  subst eI1
  obtain ⟨dv1, f1_340_8, x1_0, xr1, -⟩ := hc1
  have q2 : (0 : Int) + 0 ≤ (I0 340 8).toInt := x1_0
  have xv1 : v1 = 0 := by have h := xr1; exact h
  refine lv_if_eq (tgt := 22) hx hb dX6_figure_4 (by decide) (fun c3 => ?_) (fun c3 => ?_)
  ·
    refine lv_aload_n hx hb dX6_figure_22 rfl (lv_at hl 0 rfl) ?_
    refine lv_aload_n hx hb dX6_figure_23 rfl (lv_at hl 0 rfl) ?_
    refine dk_get (k := 340) hx hb hts iX6_figure_6 hown hK (dk_at340 hW) rfl 12 (by decide) (hts (.fieldLink RX6 95 "DogKingsModel" "value" "I") (List.mem_of_getElem? (i := 2) rfl)) rfl dX6_figure_24 ?_
    refine lv_topi (fun v4 ev4 => ?_)
    have xv4 : v4 = I0 340 12 := ev4.trans rfl
    refine lv_iload_n hx hb dX6_figure_27 rfl (lv_at hl 1 rfl) ?_
    refine lv_iload_n hx hb dX6_figure_28 rfl (lv_at hl 2 rfl) ?_
    refine dk_Si (As := [.int v4, .int p0, .int p1]) (rest := [.ref (z + 340)]) ⟨hx, hb, hml, hown, hts⟩ (fx_X6_in_27 l g z I0 v4 p0 p1 hO) (va_cwS 3 hts gX6_figure_X6_in rfl rfl rfl (by decide +kernel) ⟨Nat.le_of_ble_eq_true rfl, Nat.le_of_ble_eq_true rfl⟩) hK hT hW hS rfl hl.1 rfl (Nat.le_of_ble_eq_true rfl) dX6_figure_29 ⟨Nat.zero_le _, Nat.zero_le _⟩ (fun v5 I5 H5 L5 hp5 hW hS => ?_)
    obtain ⟨hF5, hO, hc5⟩ := hp5
    have hF := dkF_call hF hF5 rfl
    have eI5 : I0 = I5 := (dkF_nil hF5).symm
    subst eI5
    rcases hc5 with ⟨dv5, a5_0, a5_1, x5_0, xr5, -⟩ | hc5
    ·
      have q6 : (I0 340 12).toInt + 1 ≤ p0.toInt := by have h := x5_0; rw [xv4] at h; exact h
      have xv5 : v5 = 0 := by have h := xr5; exact h
      have e7 : v4 = I0 340 12 := by rw [hF5 340 12 rfl]; exact ev4
      have d8 : dkN [(-2147483648, 2147483646)] v4 := dkN_eq1 (dkN_top v4) a5_0 rfl rfl
      have f9 : dkN [(-2147483648, 2147483646)] (I0 340 12) := by rw [← e7]; exact d8
      have d10 : dkN [(-2147483647, 2147483647)] p0 := dkN_eq1 (dkN_top p0) a5_1 rfl rfl
      refine lv_iconst (v := 2) hx hb dX6_figure_32 (by decide) ?_
      refine dk_Vi (As := [.int v5, .int 2]) (rest := []) ⟨hx, hb, hml, hown, hts⟩ (h_X6_takes_0 l g z I0 v5 2 (show dkN [(0, 90)] (I0 340 8) from dkN_sub (by rw [hF5 340 8 rfl]; exact f1_340_8) rfl) hO) (cwV 2 hts gX6_figure_X6_takes rfl rfl rfl (by decide +kernel) ⟨Nat.le_of_ble_eq_true rfl, Nat.le_of_ble_eq_true rfl⟩) (dk_at340 hW) rfl hK hT hW hS rfl hl.1 rfl (Nat.le_of_ble_eq_true rfl) dX6_figure_33 ⟨Nat.zero_le _, Nat.zero_le _⟩ (fun v11 I11 H11 L11 hp11 hW hS => ?_)
      obtain ⟨hF11, hO, hc11⟩ := hp11
      have hF := dkF_call hF hF11 rfl
      have eI11 : I0 = I11 := (dkF_nil hF11).symm
      subst eI11
      obtain ⟨dv11, xr11, -⟩ := hc11
      have xv11 : v11 = 0 := by have h := xr11; exact h
      exact W.iret (v := v11) hx hb hr (fun t ht hW9 => ⟨⟨v11, I0, rfl, ⟨hF, hO, Or.inl ⟨dkN_sub dv11 rfl, dkN_sub d10 rfl, (show dkN [(-2147483648, 2147483646)] (I0 340 12) from dkN_sub (by rw [hF11 340 12 rfl]; exact f9) rfl), (show dkN [(0, 90)] (I0 340 8) from dkN_sub (by rw [hF11 340 8 rfl]; exact (by rw [hF5 340 8 rfl]; exact f1_340_8)) rfl), q2, q6, xv11, rfl, rfl, rfl, rfl, rfl, rfl, trivial⟩⟩, dkW_eq ht hW⟩, hS.F ht⟩) hS.2.2 dX6_figure_36
    rcases hc5 with ⟨dv5, a5_0, a5_2, x5_0, x5_1, xr5, -⟩ | hc5
    ·
      have q12 : p0.toInt + 0 ≤ (I0 340 12).toInt := by have h := x5_0; rw [xv4] at h; exact h
      have q13 : p1.toInt + 1 ≤ (I0 340 12).toInt := by have h := x5_1; rw [xv4] at h; exact h
      have xv5 : v5 = 0 := by have h := xr5; exact h
      have e14 : v4 = I0 340 12 := by rw [hF5 340 12 rfl]; exact ev4
      have d15 : dkN [(-2147483647, 2147483647)] v4 := dkN_eq1 (dkN_top v4) a5_0 rfl rfl
      have f16 : dkN [(-2147483647, 2147483647)] (I0 340 12) := by rw [← e14]; exact d15
      have d17 : dkN [(-2147483648, 2147483646)] p1 := dkN_eq1 (dkN_top p1) a5_2 rfl rfl
      refine lv_iconst (v := 2) hx hb dX6_figure_32 (by decide) ?_
      refine dk_Vi (As := [.int v5, .int 2]) (rest := []) ⟨hx, hb, hml, hown, hts⟩ (h_X6_takes_0 l g z I0 v5 2 (show dkN [(0, 90)] (I0 340 8) from dkN_sub (by rw [hF5 340 8 rfl]; exact f1_340_8) rfl) hO) (cwV 2 hts gX6_figure_X6_takes rfl rfl rfl (by decide +kernel) ⟨Nat.le_of_ble_eq_true rfl, Nat.le_of_ble_eq_true rfl⟩) (dk_at340 hW) rfl hK hT hW hS rfl hl.1 rfl (Nat.le_of_ble_eq_true rfl) dX6_figure_33 ⟨Nat.zero_le _, Nat.zero_le _⟩ (fun v18 I18 H18 L18 hp18 hW hS => ?_)
      obtain ⟨hF18, hO, hc18⟩ := hp18
      have hF := dkF_call hF hF18 rfl
      have eI18 : I0 = I18 := (dkF_nil hF18).symm
      subst eI18
      obtain ⟨dv18, xr18, -⟩ := hc18
      have xv18 : v18 = 0 := by have h := xr18; exact h
      exact W.iret (v := v18) hx hb hr (fun t ht hW9 => ⟨⟨v18, I0, rfl, ⟨hF, hO, Or.inr (Or.inl ⟨dkN_sub dv18 rfl, dkN_sub d17 rfl, (show dkN [(-2147483647, 2147483647)] (I0 340 12) from dkN_sub (by rw [hF18 340 12 rfl]; exact f16) rfl), (show dkN [(0, 90)] (I0 340 8) from dkN_sub (by rw [hF18 340 8 rfl]; exact (by rw [hF5 340 8 rfl]; exact f1_340_8)) rfl), q2, q12, q13, xv18, rfl, rfl, rfl, rfl, rfl, rfl, trivial⟩)⟩, dkW_eq ht hW⟩, hS.F ht⟩) hS.2.2 dX6_figure_36
    ·
      obtain ⟨dv5, x5_0, x5_1, xr5, -⟩ := hc5
      have q19 : p0.toInt + 0 ≤ (I0 340 12).toInt := by have h := x5_0; rw [xv4] at h; exact h
      have q20 : (I0 340 12).toInt + 0 ≤ p1.toInt := by have h := x5_1; rw [xv4] at h; exact h
      have xv5 : v5 = 1 := by have h := xr5; exact h
      refine lv_iconst (v := 2) hx hb dX6_figure_32 (by decide) ?_
      refine dk_Vi (As := [.int v5, .int 2]) (rest := []) ⟨hx, hb, hml, hown, hts⟩ (h_X6_takes_0 l g z I0 v5 2 (show dkN [(0, 90)] (I0 340 8) from dkN_sub (by rw [hF5 340 8 rfl]; exact f1_340_8) rfl) hO) (cwV 2 hts gX6_figure_X6_takes rfl rfl rfl (by decide +kernel) ⟨Nat.le_of_ble_eq_true rfl, Nat.le_of_ble_eq_true rfl⟩) (dk_at340 hW) rfl hK hT hW hS rfl hl.1 rfl (Nat.le_of_ble_eq_true rfl) dX6_figure_33 ⟨Nat.zero_le _, Nat.zero_le _⟩ (fun v21 I21 H21 L21 hp21 hW hS => ?_)
      obtain ⟨hF21, hO, hc21⟩ := hp21
      have hF := dkF_call hF hF21 rfl
      have eI21 : I0 = I21 := (dkF_nil hF21).symm
      subst eI21
      obtain ⟨dv21, xr21, -⟩ := hc21
      have xv21 : v21 = 0 := by have h := xr21; exact h
      exact W.iret (v := v21) hx hb hr (fun t ht hW9 => ⟨⟨v21, I0, rfl, ⟨hF, hO, Or.inr (Or.inr (⟨dkN_sub dv21 rfl, (show dkN [(0, 90)] (I0 340 8) from dkN_sub (by rw [hF21 340 8 rfl]; exact (by rw [hF5 340 8 rfl]; exact f1_340_8)) rfl), q2, q19, q20, xv21, rfl, rfl, rfl, rfl, rfl, rfl, trivial⟩))⟩, dkW_eq ht hW⟩, hS.F ht⟩) hS.2.2 dX6_figure_36
  ·
    exact absurd ((xv1).trans (rfl).symm) c3
set_option maxHeartbeats 4000000 in
set_option maxRecDepth 100000 in
theorem h_X6_figure_0 (l : Launch) (g : dkG) (z : Nat) (I0 : dkI) (p0 : Int32) (p1 : Int32) (np0 : dkN [(0, 90)] (I0 340 8)) (hO : dkOk I0) : Met l yX6_figure wsX6_figure (dkR 2) (dkPc g z [.ref (z + 340), .int p0, .int p1] I0) (dkQi g z (fun r I1 => dkF [] I0 I1 ∧ dkOk I1 ∧ ((dkN [(0, 0)] r ∧ r = 0 ∧ True)))) 0 0 (dkA z) := by
  refine dk_weakI (fx_X6_figure_9 l g z I0 p0 p1 np0 hO) (fun r I1 h => ?_)
  obtain ⟨hF, hO1, hc⟩ := h
  refine ⟨hF, hO1, ?_⟩
  rcases hc with ⟨d, P0, G0, G1, u0, u1, ER, H340_7, H340_8, H340_9, H340_10, H340_11, H340_12, -⟩ | ⟨d, P1, G0, G1, u0, u1, u2, ER, H340_7, H340_8, H340_9, H340_10, H340_11, H340_12, -⟩ | ⟨d, G0, u0, u1, u2, ER, H340_7, H340_8, H340_9, H340_10, H340_11, H340_12, -⟩
  · exact ⟨dkN_sub d rfl, ER, trivial⟩
  · exact ⟨dkN_sub d rfl, ER, trivial⟩
  · exact ⟨dkN_sub d rfl, ER, trivial⟩
set_option maxHeartbeats 4000000 in
set_option maxRecDepth 100000 in
theorem fx_X6_follows_6 (l : Launch) (g : dkG) (z : Nat) (I0 : dkI) (p0 : Int32) (p1 : Int32) (np0 : dkN [(0, 90)] (I0 340 8))  (hO : dkOk I0) : Met l yX6_follows wsX6_follows (dkR 3) (dkPc g z [.ref (z + 340), .int p0, .int p1] I0) (dkQi g z (fun r I1 => dkF [] I0 I1 ∧ dkOk I1 ∧ ((dkN [(0, 0)] r ∧ dkN [(-2147483648, 2), (4, 2147483647)] (I1 340 11) ∧ dkN [(0, 90)] (I1 340 8) ∧ (I0 340 11).toInt ≠ (3 : Int) ∧ r = 0 ∧ I1 340 7 = I0 340 7 ∧ I1 340 8 = I0 340 8 ∧ I1 340 9 = I0 340 9 ∧ I1 340 10 = I0 340 10 ∧ I1 340 11 = I0 340 11 ∧ I1 340 12 = I0 340 12 ∧ True) ∨ (dkN [(0, 0)] r ∧ dkN [(3, 3)] (I1 340 11) ∧ dkN [(0, 90)] (I1 340 8) ∧ (I0 340 11).toInt = (3 : Int) ∧ r = 0 ∧ I1 340 7 = I0 340 7 ∧ I1 340 8 = I0 340 8 ∧ I1 340 9 = I0 340 9 ∧ I1 340 10 = I0 340 10 ∧ I1 340 11 = I0 340 11 ∧ I1 340 12 = I0 340 12 ∧ True)))) 0 0 (dkA z) := by
  refine Met.ofW (cc := cX6_follows) (maxL := 3) (ret := (some .int)) (by decide) rfl ?_
  intro p e s m args below meth c s₁ B hml hv
  obtain ⟨ha, hW, hK, hT⟩ := hv
  have hx := B.exec
  have hb := B.bytes
  have hr := B.returns
  have hts := atoms_spec (ws := wsX6_follows) B.pre
  have hown : s.vm.findClass RX6 = some m.cls := findClass_of_methodNamed B.named
  have hlocks := B.notSynchronized
  have hS : va_S (dkA z) s.heap s.heap [] := va_S.rf
  have hF : dkF [] I0 I0 := dkF_rf _ _
  have hl := lv_entry ([.ref (z + 340), .int p0, .int p1]) (n := 3) (Nat.le_of_ble_eq_true rfl)
  have hgo : entryFrame m args 3 = entryFrame m ([.ref (z + 340), .int p0, .int p1] : List Value).toArray 3 := by rw [ha]
  rw [hgo, lg_entry_eq]
  generalize (lg_sl ([.ref (z + 340), .int p0, .int p1]) ++ List.replicate (3 - (lg_sl ([.ref (z + 340), .int p0, .int p1])).length) Slot.unset).toArray = ls at hl ⊢
  have hl : lv_has ls 3 [(0, .ref (z + 340)), (1, .int p0), (2, .int p1)] := hl
  refine lv_aload_n hx hb dX6_follows_0 rfl (lv_at hl 0 rfl) ?_
  refine lv_aload_n hx hb dX6_follows_1 rfl (lv_at hl 0 rfl) ?_
  refine dk_get (k := 340) hx hb hts iX6_follows_6 hown hK (dk_at340 hW) rfl 11 (by decide) (hts (.fieldLink RX6 98 "DogKingsModel" "token" "I") (List.mem_of_getElem? (i := 1) rfl)) rfl dX6_follows_2 ?_
  refine lv_topi (fun v1 ev1 => ?_)
  have xv1 : v1 = I0 340 11 := ev1.trans rfl
  refine lv_iconst (v := 3) hx hb dX6_follows_5 (by decide) ?_
  refine lv_icmp_ne (tgt := 13) hx hb dX6_follows_6 (by decide) (fun c2 => ?_) (fun c2 => ?_)
  ·
    have q3 : (I0 340 11).toInt ≠ (3 : Int) := by first | (rw [← xv1]; exact (dk_ne c2)) | (subst xv1; exact (dk_ne c2))
    have d4 : dkN [(-2147483648, 2), (4, 2147483647)] v1 := dkN_ne1 (3) (dkN_top v1) (dkN_lit (x := 3) (3) rfl) (dk_ne c2) rfl
    have f5 : dkN [(-2147483648, 2), (4, 2147483647)] (I0 340 11) := by rw [← ev1]; exact d4
    refine lv_iconst (v := 0) hx hb dX6_follows_13 (by decide) ?_
    refine lv_iconst (v := 1) hx hb dX6_follows_14 (by decide) ?_
    refine dk_Vi (As := [.int 0, .int 1]) (rest := []) ⟨hx, hb, hml, hown, hts⟩ (h_X6_takes_0 l g z I0 0 1 (show dkN [(0, 90)] (I0 340 8) from dkN_sub np0 rfl) hO) (cwV 2 hts gX6_follows_X6_takes rfl rfl rfl (by decide +kernel) ⟨Nat.le_of_ble_eq_true rfl, Nat.le_of_ble_eq_true rfl⟩) (dk_at340 hW) rfl hK hT hW hS rfl hl.1 rfl (Nat.le_of_ble_eq_true rfl) dX6_follows_15 ⟨Nat.zero_le _, Nat.zero_le _⟩ (fun v6 I6 H6 L6 hp6 hW hS => ?_)
    obtain ⟨hF6, hO, hc6⟩ := hp6
    have hF := dkF_call hF hF6 rfl
    have eI6 : I0 = I6 := (dkF_nil hF6).symm
    subst eI6
    obtain ⟨dv6, xr6, -⟩ := hc6
    have xv6 : v6 = 0 := by have h := xr6; exact h
    refine lv_pop hx hb dX6_follows_18 rfl ?_
    refine lv_aload_n hx hb dX6_follows_19 rfl (lv_at hl 0 rfl) ?_
    refine lv_iload_n hx hb dX6_follows_20 rfl (lv_at hl 1 rfl) ?_
    refine lv_iload_n hx hb dX6_follows_21 rfl (lv_at hl 2 rfl) ?_
    refine dk_Vi (As := [.int p0, .int p1]) (rest := []) ⟨hx, hb, hml, hown, hts⟩ (h_X6_figure_0 l g z I0 p0 p1 (show dkN [(0, 90)] (I0 340 8) from dkN_sub (by rw [hF6 340 8 rfl]; exact np0) rfl) hO) (cwV 2 hts gX6_follows_X6_figure rfl rfl rfl (by decide +kernel) ⟨Nat.le_of_ble_eq_true rfl, Nat.le_of_ble_eq_true rfl⟩) (dk_at340 hW) rfl hK hT hW hS rfl hl.1 rfl (Nat.le_of_ble_eq_true rfl) dX6_follows_22 ⟨Nat.zero_le _, Nat.zero_le _⟩ (fun v7 I7 H7 L7 hp7 hW hS => ?_)
    obtain ⟨hF7, hO, hc7⟩ := hp7
    have hF := dkF_call hF hF7 rfl
    have eI7 : I0 = I7 := (dkF_nil hF7).symm
    subst eI7
    obtain ⟨dv7, xr7, -⟩ := hc7
    have xv7 : v7 = 0 := by have h := xr7; exact h
    exact W.iret (v := v7) hx hb hr (fun t ht hW9 => ⟨⟨v7, I0, rfl, ⟨hF, hO, Or.inl ⟨dkN_sub dv7 rfl, (show dkN [(-2147483648, 2), (4, 2147483647)] (I0 340 11) from dkN_sub (by rw [hF7 340 11 rfl]; exact (by rw [hF6 340 11 rfl]; exact f5)) rfl), (show dkN [(0, 90)] (I0 340 8) from dkN_sub (by rw [hF7 340 8 rfl]; exact (by rw [hF6 340 8 rfl]; exact np0)) rfl), q3, xv7, rfl, rfl, rfl, rfl, rfl, rfl, trivial⟩⟩, dkW_eq ht hW⟩, hS.F ht⟩) hS.2.2 dX6_follows_25
  ·
    have q8 : (I0 340 11).toInt = (3 : Int) := by first | (rw [← xv1]; exact (congrArg Int32.toInt c2)) | (subst xv1; exact (congrArg Int32.toInt c2))
    have d9 : dkN [(3, 3)] v1 := dkN_eq1 (dkN_top v1) (dkN_lit (x := 3) (3) rfl) (congrArg Int32.toInt c2) rfl
    have f10 : dkN [(3, 3)] (I0 340 11) := by rw [← ev1]; exact d9
    refine lv_iconst (v := 1) hx hb dX6_follows_9 (by decide) ?_
    refine lv_goto (tgt := 14) hx hb dX6_follows_10 (by decide) ?_
    refine lv_iconst (v := 1) hx hb dX6_follows_14 (by decide) ?_
    refine dk_Vi (As := [.int 1, .int 1]) (rest := []) ⟨hx, hb, hml, hown, hts⟩ (h_X6_takes_0 l g z I0 1 1 (show dkN [(0, 90)] (I0 340 8) from dkN_sub np0 rfl) hO) (cwV 2 hts gX6_follows_X6_takes rfl rfl rfl (by decide +kernel) ⟨Nat.le_of_ble_eq_true rfl, Nat.le_of_ble_eq_true rfl⟩) (dk_at340 hW) rfl hK hT hW hS rfl hl.1 rfl (Nat.le_of_ble_eq_true rfl) dX6_follows_15 ⟨Nat.zero_le _, Nat.zero_le _⟩ (fun v11 I11 H11 L11 hp11 hW hS => ?_)
    obtain ⟨hF11, hO, hc11⟩ := hp11
    have hF := dkF_call hF hF11 rfl
    have eI11 : I0 = I11 := (dkF_nil hF11).symm
    subst eI11
    obtain ⟨dv11, xr11, -⟩ := hc11
    have xv11 : v11 = 0 := by have h := xr11; exact h
    refine lv_pop hx hb dX6_follows_18 rfl ?_
    refine lv_aload_n hx hb dX6_follows_19 rfl (lv_at hl 0 rfl) ?_
    refine lv_iload_n hx hb dX6_follows_20 rfl (lv_at hl 1 rfl) ?_
    refine lv_iload_n hx hb dX6_follows_21 rfl (lv_at hl 2 rfl) ?_
    refine dk_Vi (As := [.int p0, .int p1]) (rest := []) ⟨hx, hb, hml, hown, hts⟩ (h_X6_figure_0 l g z I0 p0 p1 (show dkN [(0, 90)] (I0 340 8) from dkN_sub (by rw [hF11 340 8 rfl]; exact np0) rfl) hO) (cwV 2 hts gX6_follows_X6_figure rfl rfl rfl (by decide +kernel) ⟨Nat.le_of_ble_eq_true rfl, Nat.le_of_ble_eq_true rfl⟩) (dk_at340 hW) rfl hK hT hW hS rfl hl.1 rfl (Nat.le_of_ble_eq_true rfl) dX6_follows_22 ⟨Nat.zero_le _, Nat.zero_le _⟩ (fun v12 I12 H12 L12 hp12 hW hS => ?_)
    obtain ⟨hF12, hO, hc12⟩ := hp12
    have hF := dkF_call hF hF12 rfl
    have eI12 : I0 = I12 := (dkF_nil hF12).symm
    subst eI12
    obtain ⟨dv12, xr12, -⟩ := hc12
    have xv12 : v12 = 0 := by have h := xr12; exact h
    exact W.iret (v := v12) hx hb hr (fun t ht hW9 => ⟨⟨v12, I0, rfl, ⟨hF, hO, Or.inr (⟨dkN_sub dv12 rfl, (show dkN [(3, 3)] (I0 340 11) from dkN_sub (by rw [hF12 340 11 rfl]; exact (by rw [hF11 340 11 rfl]; exact f10)) rfl), (show dkN [(0, 90)] (I0 340 8) from dkN_sub (by rw [hF12 340 8 rfl]; exact (by rw [hF11 340 8 rfl]; exact np0)) rfl), q8, xv12, rfl, rfl, rfl, rfl, rfl, rfl, trivial⟩)⟩, dkW_eq ht hW⟩, hS.F ht⟩) hS.2.2 dX6_follows_25
set_option maxHeartbeats 4000000 in
set_option maxRecDepth 100000 in
theorem h_X6_follows_0 (l : Launch) (g : dkG) (z : Nat) (I0 : dkI) (p0 : Int32) (p1 : Int32) (np0 : dkN [(0, 90)] (I0 340 8)) (hO : dkOk I0) : Met l yX6_follows wsX6_follows (dkR 3) (dkPc g z [.ref (z + 340), .int p0, .int p1] I0) (dkQi g z (fun r I1 => dkF [] I0 I1 ∧ dkOk I1 ∧ ((dkN [(0, 0)] r ∧ r = 0 ∧ True)))) 0 0 (dkA z) := by
  refine dk_weakI (fx_X6_follows_6 l g z I0 p0 p1 np0 hO) (fun r I1 h => ?_)
  obtain ⟨hF, hO1, hc⟩ := h
  refine ⟨hF, hO1, ?_⟩
  rcases hc with ⟨d, G0, G1, u0, ER, H340_7, H340_8, H340_9, H340_10, H340_11, H340_12, -⟩ | ⟨d, G0, G1, u0, ER, H340_7, H340_8, H340_9, H340_10, H340_11, H340_12, -⟩
  · exact ⟨dkN_sub d rfl, ER, trivial⟩
  · exact ⟨dkN_sub d rfl, ER, trivial⟩
set_option maxHeartbeats 4000000 in
set_option maxRecDepth 100000 in
theorem fx_X6_takes_33 (l : Launch) (g : dkG) (z : Nat) (I0 : dkI) (p0 : Int32) (p1 : Int32) (dp0 : dkN [(0, 0)] p0) (dp1 : dkN [(1, 1)] p1) (np0 : dkN [(-2147483648, 115), (117, 2147483647)] (I0 340 12)) (np1 : dkN [(-1, -1)] (I0 340 8))  (hO : dkOk I0) : Met l yX6_takes wsX6_takes (dkR 1) (dkPc g z [.ref (z + 340), .int p0, .int p1] I0) (dkQi g z (fun r I1 => dkF [(340, 340, 7, 8)] I0 I1 ∧ dkOk I1 ∧ ((dkN [(0, 0)] r ∧ dkN [(-2147483648, 115), (117, 2147483647)] (I1 340 12) ∧ dkN [(1, 1)] (I1 340 7) ∧ dkN [(0, 90)] (I1 340 8) ∧ (I0 340 8).toInt + 1 ≤ (0 : Int) ∧ p0.toInt = (0 : Int) ∧ r = 0 ∧ I1 340 7 = p1 ∧ I1 340 8 = I0 340 10 ∧ I1 340 9 = I0 340 9 ∧ I1 340 10 = I0 340 10 ∧ I1 340 11 = I0 340 11 ∧ I1 340 12 = I0 340 12 ∧ True)))) 0 0 (dkA z) := by
  refine Met.ofW (cc := cX6_takes) (maxL := 4) (ret := (some .int)) (by decide) rfl ?_
  intro p e s m args below meth c s₁ B hml hv
  obtain ⟨ha, hW, hK, hT⟩ := hv
  have hx := B.exec
  have hb := B.bytes
  have hr := B.returns
  have hts := atoms_spec (ws := wsX6_takes) B.pre
  have hown : s.vm.findClass RX6 = some m.cls := findClass_of_methodNamed B.named
  have hlocks := B.notSynchronized
  have hS : va_S (dkA z) s.heap s.heap [] := va_S.rf
  have hF : dkF [(340, 340, 7, 8)] I0 I0 := dkF_rf _ _
  have hl := lv_entry ([.ref (z + 340), .int p0, .int p1]) (n := 4) (Nat.le_of_ble_eq_true rfl)
  have hgo : entryFrame m args 4 = entryFrame m ([.ref (z + 340), .int p0, .int p1] : List Value).toArray 4 := by rw [ha]
  rw [hgo, lg_entry_eq]
  generalize (lg_sl ([.ref (z + 340), .int p0, .int p1]) ++ List.replicate (4 - (lg_sl ([.ref (z + 340), .int p0, .int p1])).length) Slot.unset).toArray = ls at hl ⊢
  have hl : lv_has ls 4 [(0, .ref (z + 340)), (1, .int p0), (2, .int p1)] := hl
  refine lv_aload_n hx hb dX6_takes_0 rfl (lv_at hl 0 rfl) ?_
  refine dk_Vi (As := []) (rest := []) ⟨hx, hb, hml, hown, hts⟩ (fx_X6_isWell_6 l g z I0 (show dkN [(-1, -1)] (I0 340 8) from dkN_sub np1 rfl) hO) (cwV 0 hts gX6_takes_X6_isWell rfl rfl rfl (by decide +kernel) ⟨Nat.le_of_ble_eq_true rfl, Nat.le_of_ble_eq_true rfl⟩) (dk_at340 hW) rfl hK hT hW hS rfl hl.1 rfl (Nat.le_of_ble_eq_true rfl) dX6_takes_1 ⟨Nat.zero_le _, Nat.zero_le _⟩ (fun v1 I1 H1 L1 hp1 hW hS => ?_)
  obtain ⟨hF1, hO, hc1⟩ := hp1
  have hF := dkF_call hF hF1 rfl
  have eI1 : I0 = I1 := (dkF_nil hF1).symm
  subst eI1
  obtain ⟨dv1, f1_340_8, x1_0, xr1, -⟩ := hc1
  have q2 : (I0 340 8).toInt + 1 ≤ (0 : Int) := x1_0
  have xv1 : v1 = 1 := by have h := xr1; exact h
  refine lv_if_ne (tgt := 9) hx hb dX6_takes_4 (by decide) (fun c3 => ?_) (fun c3 => ?_)
  ·
    refine lv_iload_n hx hb dX6_takes_9 rfl (lv_at hl 1 rfl) ?_
    refine lv_if_ne (tgt := 28) hx hb dX6_takes_10 (by decide) (fun c4 => ?_) (fun c4 => ?_)
    ·
      exact (dkN_nil (show dkN [] p0 from dkN_ne1 (0) dp0 (dkN_lit (x := 0) (0) rfl) (dk_ne c4) rfl)).elim
    ·
      have q5 : p0.toInt = (0 : Int) := (congrArg Int32.toInt c4)
      refine lv_aload_n hx hb dX6_takes_13 rfl (lv_at hl 0 rfl) ?_
      refine lv_aload_n hx hb dX6_takes_14 rfl (lv_at hl 0 rfl) ?_
      refine dk_get (k := 340) hx hb hts iX6_takes_6 hown hK (dk_at340 hW) rfl 10 (by decide) (hts (.fieldLink RX6 89 "DogKingsModel" "start" "I") (List.mem_of_getElem? (i := 1) rfl)) rfl dX6_takes_15 ?_
      refine lv_topi (fun v6 ev6 => ?_)
      have dv6 : dkN [(0, 90)] v6 := by rw [ev6]; exact (hO 340 10)
      have xv6 : v6 = I0 340 10 := ev6.trans rfl
      refine dk_put (k := 340) hx hb hts iX6_takes_6 tyX6 tyX6_ok nmX6 hown hK hW (dk_at340 hW) hS rfl 8 (by decide) (hts (.fieldLink RX6 101 "DogKingsModel" "faultPlace" "I") (List.mem_of_getElem? (i := 2) rfl)) rfl rfl (Nat.le_of_ble_eq_true rfl) rfl dX6_takes_18 (fun I7 H7 L7 eI7 hW hS => ?_)
      have eI7 : I7 = dkU I0 340 8 v6 := eI7
      have hO := dkO_set hO eI7 (dkN_sub dv6 rfl)
      have hF := dkF_set hF eI7 rfl
      refine lv_aload_n hx hb dX6_takes_21 rfl (lv_at hl 0 rfl) ?_
      refine lv_iload_n hx hb dX6_takes_22 rfl (lv_at hl 2 rfl) ?_
      refine dk_put (k := 340) hx hb hts iX6_takes_6 tyX6 tyX6_ok nmX6 hown hK hW (dk_at340 hW) hS rfl 7 (by decide) (hts (.fieldLink RX6 108 "DogKingsModel" "faultKind" "I") (List.mem_of_getElem? (i := 3) rfl)) rfl rfl (Nat.le_of_ble_eq_true rfl) rfl dX6_takes_23 (fun I8 H8 L8 eI8 hW hS => ?_)
      have eI8 : I8 = dkU I7 340 7 p1 := eI8
      have hO := dkO_set hO eI8 (dkN_sub dp1 rfl)
      have hF := dkF_set hF eI8 rfl
      refine lv_iconst (v := 0) hx hb dX6_takes_26 (by decide) ?_
      exact W.iret (v := 0) hx hb hr (fun t ht hW9 => ⟨⟨0, I8, rfl, ⟨hF, hO, ⟨dkN_sub (dkN_lit (x := 0) (0) rfl) rfl, (show dkN [(-2147483648, 115), (117, 2147483647)] (I8 340 12) from dkN_sub (by rw [eI8, dkU_sn (by decide)]; exact (by rw [eI7, dkU_sn (by decide)]; exact (by rw [hF1 340 12 rfl]; exact np0))) rfl), (show dkN [(1, 1)] (I8 340 7) from dkN_sub (by rw [eI8, dkU_ss]; exact dp1) rfl), (show dkN [(0, 90)] (I8 340 8) from dkN_sub (by rw [eI8, dkU_sn (by decide)]; exact (by rw [eI7, dkU_ss]; exact dv6)) rfl), q2, q5, rfl, (by rw [eI8, dkU_ss]), ((by rw [eI8, dkU_sn (by decide)] : I8 340 8 = _).trans (by rw [eI7, dkU_ss, xv6])), ((by rw [eI8, dkU_sn (by decide)] : I8 340 9 = _).trans ((by rw [eI7, dkU_sn (by decide)] : I7 340 9 = _).trans rfl)), ((by rw [eI8, dkU_sn (by decide)] : I8 340 10 = _).trans ((by rw [eI7, dkU_sn (by decide)] : I7 340 10 = _).trans rfl)), ((by rw [eI8, dkU_sn (by decide)] : I8 340 11 = _).trans ((by rw [eI7, dkU_sn (by decide)] : I7 340 11 = _).trans rfl)), ((by rw [eI8, dkU_sn (by decide)] : I8 340 12 = _).trans ((by rw [eI7, dkU_sn (by decide)] : I7 340 12 = _).trans rfl)), trivial⟩⟩, dkW_eq ht hW⟩, hS.F ht⟩) hS.2.2 dX6_takes_27
  ·
    exact (dkN_nil (show dkN [] v1 from dkN_eq1 dv1 (dkN_lit (x := 0) (0) rfl) (congrArg Int32.toInt c3) rfl)).elim
set_option maxHeartbeats 4000000 in
set_option maxRecDepth 100000 in
theorem fx_X6_takes_34 (l : Launch) (g : dkG) (z : Nat) (I0 : dkI) (p0 : Int32) (p1 : Int32) (dp0 : dkN [(1, 1)] p0) (dp1 : dkN [(1, 1)] p1) (np0 : dkN [(116, 116)] (I0 340 12)) (np1 : dkN [(-1, -1)] (I0 340 8))  (hO : dkOk I0) : Met l yX6_takes wsX6_takes (dkR 2) (dkPc g z [.ref (z + 340), .int p0, .int p1] I0) (dkQi g z (fun r I1 => dkF [(340, 340, 9, 12)] I0 I1 ∧ dkOk I1 ∧ ((dkN [(116, 116)] r ∧ dkN [(0, 5)] (I1 340 11) ∧ dkN [(-1, -1)] (I1 340 8) ∧ (I0 340 8).toInt + 1 ≤ (0 : Int) ∧ p0.toInt ≠ (0 : Int) ∧ r = I0 340 12 ∧ I1 340 7 = I0 340 7 ∧ I1 340 8 = I0 340 8 ∧ I1 340 9 = dkTe (I0 345) (I0 340 6) (I0 340 9) ∧ I1 340 10 = I0 340 9 ∧ I1 340 11 = dkTk (I0 345) (I0 340 6) (I0 340 9) ∧ I1 340 12 = dkTv (I0 345) (I0 340 6) (I0 340 9) ∧ True)))) 0 0 (dkA z) := by
  refine Met.ofW (cc := cX6_takes) (maxL := 4) (ret := (some .int)) (by decide) rfl ?_
  intro p e s m args below meth c s₁ B hml hv
  obtain ⟨ha, hW, hK, hT⟩ := hv
  have hx := B.exec
  have hb := B.bytes
  have hr := B.returns
  have hts := atoms_spec (ws := wsX6_takes) B.pre
  have hown : s.vm.findClass RX6 = some m.cls := findClass_of_methodNamed B.named
  have hlocks := B.notSynchronized
  have hS : va_S (dkA z) s.heap s.heap [] := va_S.rf
  have hF : dkF [(340, 340, 9, 12)] I0 I0 := dkF_rf _ _
  have hl := lv_entry ([.ref (z + 340), .int p0, .int p1]) (n := 4) (Nat.le_of_ble_eq_true rfl)
  have hgo : entryFrame m args 4 = entryFrame m ([.ref (z + 340), .int p0, .int p1] : List Value).toArray 4 := by rw [ha]
  rw [hgo, lg_entry_eq]
  generalize (lg_sl ([.ref (z + 340), .int p0, .int p1]) ++ List.replicate (4 - (lg_sl ([.ref (z + 340), .int p0, .int p1])).length) Slot.unset).toArray = ls at hl ⊢
  have hl : lv_has ls 4 [(0, .ref (z + 340)), (1, .int p0), (2, .int p1)] := hl
  refine lv_aload_n hx hb dX6_takes_0 rfl (lv_at hl 0 rfl) ?_
  refine dk_Vi (As := []) (rest := []) ⟨hx, hb, hml, hown, hts⟩ (fx_X6_isWell_6 l g z I0 (show dkN [(-1, -1)] (I0 340 8) from dkN_sub np1 rfl) hO) (cwV 0 hts gX6_takes_X6_isWell rfl rfl rfl (by decide +kernel) ⟨Nat.le_of_ble_eq_true rfl, Nat.le_of_ble_eq_true rfl⟩) (dk_at340 hW) rfl hK hT hW hS rfl hl.1 rfl (Nat.le_of_ble_eq_true rfl) dX6_takes_1 ⟨Nat.zero_le _, Nat.zero_le _⟩ (fun v1 I1 H1 L1 hp1 hW hS => ?_)
  obtain ⟨hF1, hO, hc1⟩ := hp1
  have hF := dkF_call hF hF1 rfl
  have eI1 : I0 = I1 := (dkF_nil hF1).symm
  subst eI1
  obtain ⟨dv1, f1_340_8, x1_0, xr1, -⟩ := hc1
  have q2 : (I0 340 8).toInt + 1 ≤ (0 : Int) := x1_0
  have xv1 : v1 = 1 := by have h := xr1; exact h
  refine lv_if_ne (tgt := 9) hx hb dX6_takes_4 (by decide) (fun c3 => ?_) (fun c3 => ?_)
  ·
    refine lv_iload_n hx hb dX6_takes_9 rfl (lv_at hl 1 rfl) ?_
    refine lv_if_ne (tgt := 28) hx hb dX6_takes_10 (by decide) (fun c4 => ?_) (fun c4 => ?_)
    ·
      have q5 : p0.toInt ≠ (0 : Int) := (dk_ne c4)
      refine lv_aload_n hx hb dX6_takes_28 rfl (lv_at hl 0 rfl) ?_
      refine dk_get (k := 340) hx hb hts iX6_takes_6 hown hK (dk_at340 hW) rfl 12 (by decide) (hts (.fieldLink RX6 95 "DogKingsModel" "value" "I") (List.mem_of_getElem? (i := 4) rfl)) rfl dX6_takes_29 ?_
      refine lv_topi (fun v6 ev6 => ?_)
      have dv6 : dkN [(116, 116)] v6 := by rw [ev6]; exact (by rw [hF1 340 12 rfl]; exact np0)
      have xv6 : v6 = I0 340 12 := ev6.trans rfl
      refine lv_istore_n (lv' := [(3, .int v6), (0, .ref (z + 340)), (1, .int p0), (2, .int p1)]) hx hb dX6_takes_32 rfl hl (by decide) rfl (fun ls hl => ?_)
      refine lv_aload_n hx hb dX6_takes_33 rfl (lv_at hl 1 rfl) ?_
      refine dk_Vv (As := []) (rest := []) ⟨hx, hb, hml, hown, hts⟩ (fx_X6_advances_1 l g z I0 hO) (cwV 0 hts gX6_takes_X6_advances rfl rfl rfl (by decide +kernel) ⟨Nat.le_of_ble_eq_true rfl, Nat.le_of_ble_eq_true rfl⟩) (dk_at340 hW) rfl hK hT hW hS rfl hl.1 rfl (Nat.le_of_ble_eq_true rfl) dX6_takes_34 ⟨Nat.zero_le _, Nat.zero_le _⟩ (fun I7 H7 L7 hp7 hW hS => ?_)
      obtain ⟨hF7, hO, hc7⟩ := hp7
      have hF := dkF_call hF hF7 rfl
      obtain ⟨f7_340_11, xh7_0, xh7_1, xh7_2, xh7_3, -⟩ := hc7
      have y8 : I7 340 9 = dkTe (I0 345) (I0 340 6) (I0 340 9) := by have h := xh7_0; exact h
      have y9 : I7 340 10 = I0 340 9 := by have h := xh7_1; exact h
      have y10 : I7 340 11 = dkTk (I0 345) (I0 340 6) (I0 340 9) := by have h := xh7_2; exact h
      have y11 : I7 340 12 = dkTv (I0 345) (I0 340 6) (I0 340 9) := by have h := xh7_3; exact h
      refine lv_iload_n hx hb dX6_takes_37 rfl (lv_at hl 0 rfl) ?_
      exact W.iret (v := v6) hx hb hr (fun t ht hW9 => ⟨⟨v6, I7, rfl, ⟨hF, hO, ⟨dkN_sub dv6 rfl, (show dkN [(0, 5)] (I7 340 11) from dkN_sub f7_340_11 rfl), (show dkN [(-1, -1)] (I7 340 8) from dkN_sub (by rw [hF7 340 8 rfl]; exact f1_340_8) rfl), q2, q5, xv6, ((hF7 340 7 rfl).trans rfl), ((hF7 340 8 rfl).trans rfl), y8, y9, y10, y11, trivial⟩⟩, dkW_eq ht hW⟩, hS.F ht⟩) hS.2.2 dX6_takes_38
    ·
      exact (dkN_nil (show dkN [] p0 from dkN_eq1 dp0 (dkN_lit (x := 0) (0) rfl) (congrArg Int32.toInt c4) rfl)).elim
  ·
    exact (dkN_nil (show dkN [] v1 from dkN_eq1 dv1 (dkN_lit (x := 0) (0) rfl) (congrArg Int32.toInt c3) rfl)).elim
set_option maxHeartbeats 4000000 in
set_option maxRecDepth 100000 in
theorem fx_X6_in_28 (l : Launch) (g : dkG) (z : Nat) (I0 : dkI) (p0 : Int32) (p1 : Int32) (p2 : Int32) (dp1 : dkN [(3, 3)] p1) (dp2 : dkN [(9, 9)] p2)  (hO : dkOk I0) : Met l yX6_in wsX6_in (dkR 0) (dkPc g z [.int p0, .int p1, .int p2] I0) (dkQi g z (fun r I1 => dkF [] I0 I1 ∧ dkOk I1 ∧ ((dkN [(0, 0)] r ∧ dkN [(-2147483648, 2)] p0 ∧ p0.toInt + 1 ≤ p1.toInt ∧ r = 0 ∧ True) ∨ (dkN [(0, 0)] r ∧ dkN [(10, 2147483647)] p0 ∧ p1.toInt + 0 ≤ p0.toInt ∧ p2.toInt + 1 ≤ p0.toInt ∧ r = 0 ∧ True) ∨ (dkN [(1, 1)] r ∧ dkN [(3, 9)] p0 ∧ p1.toInt + 0 ≤ p0.toInt ∧ p0.toInt + 0 ≤ p2.toInt ∧ r = 1 ∧ True)))) 0 0 (dkA z) := by
  refine Met.ofW (cc := cX6_in) (maxL := 3) (ret := (some .boolean)) (by decide) rfl ?_
  intro p e s m args below meth c s₁ B hml hv
  obtain ⟨ha, hW, hK, hT⟩ := hv
  have hx := B.exec
  have hb := B.bytes
  have hr := B.returns
  have hts := atoms_spec (ws := wsX6_in) B.pre
  have hown : s.vm.findClass RX6 = some m.cls := findClass_of_methodNamed B.named
  have hlocks := B.notSynchronized
  have hS : va_S (dkA z) s.heap s.heap [] := va_S.rf
  have hF : dkF [] I0 I0 := dkF_rf _ _
  have hl := lv_entry ([.int p0, .int p1, .int p2]) (n := 3) (Nat.le_of_ble_eq_true rfl)
  have hgo : entryFrame m args 3 = entryFrame m ([.int p0, .int p1, .int p2] : List Value).toArray 3 := by rw [ha]
  rw [hgo, lg_entry_eq]
  generalize (lg_sl ([.int p0, .int p1, .int p2]) ++ List.replicate (3 - (lg_sl ([.int p0, .int p1, .int p2])).length) Slot.unset).toArray = ls at hl ⊢
  have hl : lv_has ls 3 [(0, .int p0), (1, .int p1), (2, .int p2)] := hl
  refine lv_iload_n hx hb dX6_in_0 rfl (lv_at hl 0 rfl) ?_
  refine lv_iload_n hx hb dX6_in_1 rfl (lv_at hl 1 rfl) ?_
  refine lv_icmp_lt (tgt := 14) hx hb dX6_in_2 (by decide) (fun c1 => ?_) (fun c1 => ?_)
  ·
    have q2 : p0.toInt + 1 ≤ p1.toInt := (dkc_lt c1)
    have d3 : dkN [(-2147483648, 2)] p0 := dkN_le1 1 (dkN_top p0) dp1 (dkc_lt c1) rfl
    refine lv_iconst (v := 0) hx hb dX6_in_14 (by decide) ?_
    exact W.zret (v := 0) (ty := .boolean) hx hb hr rfl (fun t ht hW9 => ⟨⟨0, I0, rfl, ⟨hF, hO, Or.inl ⟨dkN_sub (dkN_lit (x := 0) (0) rfl) rfl, dkN_sub d3 rfl, q2, rfl, trivial⟩⟩, dkW_eq ht hW⟩, hS.F ht⟩) hS.2.2 dX6_in_15
  ·
    have q4 : p1.toInt + 0 ≤ p0.toInt := (dkc_nlt c1)
    have d5 : dkN [(3, 2147483647)] p0 := dkN_le2 0 dp1 (dkN_top p0) (dkc_nlt c1) rfl
    refine lv_iload_n hx hb dX6_in_5 rfl (lv_at hl 0 rfl) ?_
    refine lv_iload_n hx hb dX6_in_6 rfl (lv_at hl 2 rfl) ?_
    refine lv_icmp_gt (tgt := 14) hx hb dX6_in_7 (by decide) (fun c6 => ?_) (fun c6 => ?_)
    ·
      have q7 : p2.toInt + 1 ≤ p0.toInt := (dkc_lt c6)
      have d8 : dkN [(10, 2147483647)] p0 := dkN_le2 1 dp2 d5 (dkc_lt c6) rfl
      refine lv_iconst (v := 0) hx hb dX6_in_14 (by decide) ?_
      exact W.zret (v := 0) (ty := .boolean) hx hb hr rfl (fun t ht hW9 => ⟨⟨0, I0, rfl, ⟨hF, hO, Or.inr (Or.inl ⟨dkN_sub (dkN_lit (x := 0) (0) rfl) rfl, dkN_sub d8 rfl, q4, q7, rfl, trivial⟩)⟩, dkW_eq ht hW⟩, hS.F ht⟩) hS.2.2 dX6_in_15
    ·
      have q9 : p0.toInt + 0 ≤ p2.toInt := (dkc_nlt c6)
      have d10 : dkN [(3, 9)] p0 := dkN_le1 0 d5 dp2 (dkc_nlt c6) rfl
      refine lv_iconst (v := 1) hx hb dX6_in_10 (by decide) ?_
      refine lv_goto (tgt := 15) hx hb dX6_in_11 (by decide) ?_
      exact W.zret (v := 1) (ty := .boolean) hx hb hr rfl (fun t ht hW9 => ⟨⟨1, I0, rfl, ⟨hF, hO, Or.inr (Or.inr (⟨dkN_sub (dkN_lit (x := 1) (1) rfl) rfl, dkN_sub d10 rfl, q4, q9, rfl, trivial⟩))⟩, dkW_eq ht hW⟩, hS.F ht⟩) hS.2.2 dX6_in_15
set_option maxHeartbeats 4000000 in
set_option maxRecDepth 100000 in
theorem fx_X6_takes_35 (l : Launch) (g : dkG) (z : Nat) (I0 : dkI) (p0 : Int32) (p1 : Int32) (dp0 : dkN [(0, 0)] p0) (dp1 : dkN [(2, 2)] p1) (np0 : dkN [(-2147483648, 2)] (I0 340 12)) (np1 : dkN [(-1, -1)] (I0 340 8))  (hO : dkOk I0) : Met l yX6_takes wsX6_takes (dkR 1) (dkPc g z [.ref (z + 340), .int p0, .int p1] I0) (dkQi g z (fun r I1 => dkF [(340, 340, 7, 8)] I0 I1 ∧ dkOk I1 ∧ ((dkN [(0, 0)] r ∧ dkN [(-2147483648, 2)] (I1 340 12) ∧ dkN [(2, 2)] (I1 340 7) ∧ dkN [(0, 90)] (I1 340 8) ∧ (I0 340 8).toInt + 1 ≤ (0 : Int) ∧ p0.toInt = (0 : Int) ∧ r = 0 ∧ I1 340 7 = p1 ∧ I1 340 8 = I0 340 10 ∧ I1 340 9 = I0 340 9 ∧ I1 340 10 = I0 340 10 ∧ I1 340 11 = I0 340 11 ∧ I1 340 12 = I0 340 12 ∧ True)))) 0 0 (dkA z) := by
  refine Met.ofW (cc := cX6_takes) (maxL := 4) (ret := (some .int)) (by decide) rfl ?_
  intro p e s m args below meth c s₁ B hml hv
  obtain ⟨ha, hW, hK, hT⟩ := hv
  have hx := B.exec
  have hb := B.bytes
  have hr := B.returns
  have hts := atoms_spec (ws := wsX6_takes) B.pre
  have hown : s.vm.findClass RX6 = some m.cls := findClass_of_methodNamed B.named
  have hlocks := B.notSynchronized
  have hS : va_S (dkA z) s.heap s.heap [] := va_S.rf
  have hF : dkF [(340, 340, 7, 8)] I0 I0 := dkF_rf _ _
  have hl := lv_entry ([.ref (z + 340), .int p0, .int p1]) (n := 4) (Nat.le_of_ble_eq_true rfl)
  have hgo : entryFrame m args 4 = entryFrame m ([.ref (z + 340), .int p0, .int p1] : List Value).toArray 4 := by rw [ha]
  rw [hgo, lg_entry_eq]
  generalize (lg_sl ([.ref (z + 340), .int p0, .int p1]) ++ List.replicate (4 - (lg_sl ([.ref (z + 340), .int p0, .int p1])).length) Slot.unset).toArray = ls at hl ⊢
  have hl : lv_has ls 4 [(0, .ref (z + 340)), (1, .int p0), (2, .int p1)] := hl
  refine lv_aload_n hx hb dX6_takes_0 rfl (lv_at hl 0 rfl) ?_
  refine dk_Vi (As := []) (rest := []) ⟨hx, hb, hml, hown, hts⟩ (fx_X6_isWell_6 l g z I0 (show dkN [(-1, -1)] (I0 340 8) from dkN_sub np1 rfl) hO) (cwV 0 hts gX6_takes_X6_isWell rfl rfl rfl (by decide +kernel) ⟨Nat.le_of_ble_eq_true rfl, Nat.le_of_ble_eq_true rfl⟩) (dk_at340 hW) rfl hK hT hW hS rfl hl.1 rfl (Nat.le_of_ble_eq_true rfl) dX6_takes_1 ⟨Nat.zero_le _, Nat.zero_le _⟩ (fun v1 I1 H1 L1 hp1 hW hS => ?_)
  obtain ⟨hF1, hO, hc1⟩ := hp1
  have hF := dkF_call hF hF1 rfl
  have eI1 : I0 = I1 := (dkF_nil hF1).symm
  subst eI1
  obtain ⟨dv1, f1_340_8, x1_0, xr1, -⟩ := hc1
  have q2 : (I0 340 8).toInt + 1 ≤ (0 : Int) := x1_0
  have xv1 : v1 = 1 := by have h := xr1; exact h
  refine lv_if_ne (tgt := 9) hx hb dX6_takes_4 (by decide) (fun c3 => ?_) (fun c3 => ?_)
  ·
    refine lv_iload_n hx hb dX6_takes_9 rfl (lv_at hl 1 rfl) ?_
    refine lv_if_ne (tgt := 28) hx hb dX6_takes_10 (by decide) (fun c4 => ?_) (fun c4 => ?_)
    ·
      exact (dkN_nil (show dkN [] p0 from dkN_ne1 (0) dp0 (dkN_lit (x := 0) (0) rfl) (dk_ne c4) rfl)).elim
    ·
      have q5 : p0.toInt = (0 : Int) := (congrArg Int32.toInt c4)
      refine lv_aload_n hx hb dX6_takes_13 rfl (lv_at hl 0 rfl) ?_
      refine lv_aload_n hx hb dX6_takes_14 rfl (lv_at hl 0 rfl) ?_
      refine dk_get (k := 340) hx hb hts iX6_takes_6 hown hK (dk_at340 hW) rfl 10 (by decide) (hts (.fieldLink RX6 89 "DogKingsModel" "start" "I") (List.mem_of_getElem? (i := 1) rfl)) rfl dX6_takes_15 ?_
      refine lv_topi (fun v6 ev6 => ?_)
      have dv6 : dkN [(0, 90)] v6 := by rw [ev6]; exact (hO 340 10)
      have xv6 : v6 = I0 340 10 := ev6.trans rfl
      refine dk_put (k := 340) hx hb hts iX6_takes_6 tyX6 tyX6_ok nmX6 hown hK hW (dk_at340 hW) hS rfl 8 (by decide) (hts (.fieldLink RX6 101 "DogKingsModel" "faultPlace" "I") (List.mem_of_getElem? (i := 2) rfl)) rfl rfl (Nat.le_of_ble_eq_true rfl) rfl dX6_takes_18 (fun I7 H7 L7 eI7 hW hS => ?_)
      have eI7 : I7 = dkU I0 340 8 v6 := eI7
      have hO := dkO_set hO eI7 (dkN_sub dv6 rfl)
      have hF := dkF_set hF eI7 rfl
      refine lv_aload_n hx hb dX6_takes_21 rfl (lv_at hl 0 rfl) ?_
      refine lv_iload_n hx hb dX6_takes_22 rfl (lv_at hl 2 rfl) ?_
      refine dk_put (k := 340) hx hb hts iX6_takes_6 tyX6 tyX6_ok nmX6 hown hK hW (dk_at340 hW) hS rfl 7 (by decide) (hts (.fieldLink RX6 108 "DogKingsModel" "faultKind" "I") (List.mem_of_getElem? (i := 3) rfl)) rfl rfl (Nat.le_of_ble_eq_true rfl) rfl dX6_takes_23 (fun I8 H8 L8 eI8 hW hS => ?_)
      have eI8 : I8 = dkU I7 340 7 p1 := eI8
      have hO := dkO_set hO eI8 (dkN_sub dp1 rfl)
      have hF := dkF_set hF eI8 rfl
      refine lv_iconst (v := 0) hx hb dX6_takes_26 (by decide) ?_
      exact W.iret (v := 0) hx hb hr (fun t ht hW9 => ⟨⟨0, I8, rfl, ⟨hF, hO, ⟨dkN_sub (dkN_lit (x := 0) (0) rfl) rfl, (show dkN [(-2147483648, 2)] (I8 340 12) from dkN_sub (by rw [eI8, dkU_sn (by decide)]; exact (by rw [eI7, dkU_sn (by decide)]; exact (by rw [hF1 340 12 rfl]; exact np0))) rfl), (show dkN [(2, 2)] (I8 340 7) from dkN_sub (by rw [eI8, dkU_ss]; exact dp1) rfl), (show dkN [(0, 90)] (I8 340 8) from dkN_sub (by rw [eI8, dkU_sn (by decide)]; exact (by rw [eI7, dkU_ss]; exact dv6)) rfl), q2, q5, rfl, (by rw [eI8, dkU_ss]), ((by rw [eI8, dkU_sn (by decide)] : I8 340 8 = _).trans (by rw [eI7, dkU_ss, xv6])), ((by rw [eI8, dkU_sn (by decide)] : I8 340 9 = _).trans ((by rw [eI7, dkU_sn (by decide)] : I7 340 9 = _).trans rfl)), ((by rw [eI8, dkU_sn (by decide)] : I8 340 10 = _).trans ((by rw [eI7, dkU_sn (by decide)] : I7 340 10 = _).trans rfl)), ((by rw [eI8, dkU_sn (by decide)] : I8 340 11 = _).trans ((by rw [eI7, dkU_sn (by decide)] : I7 340 11 = _).trans rfl)), ((by rw [eI8, dkU_sn (by decide)] : I8 340 12 = _).trans ((by rw [eI7, dkU_sn (by decide)] : I7 340 12 = _).trans rfl)), trivial⟩⟩, dkW_eq ht hW⟩, hS.F ht⟩) hS.2.2 dX6_takes_27
  ·
    exact (dkN_nil (show dkN [] v1 from dkN_eq1 dv1 (dkN_lit (x := 0) (0) rfl) (congrArg Int32.toInt c3) rfl)).elim
set_option maxHeartbeats 4000000 in
set_option maxRecDepth 100000 in
theorem fx_X6_takes_36 (l : Launch) (g : dkG) (z : Nat) (I0 : dkI) (p0 : Int32) (p1 : Int32) (dp0 : dkN [(0, 0)] p0) (dp1 : dkN [(2, 2)] p1) (np0 : dkN [(10, 2147483647)] (I0 340 12)) (np1 : dkN [(-1, -1)] (I0 340 8))  (hO : dkOk I0) : Met l yX6_takes wsX6_takes (dkR 1) (dkPc g z [.ref (z + 340), .int p0, .int p1] I0) (dkQi g z (fun r I1 => dkF [(340, 340, 7, 8)] I0 I1 ∧ dkOk I1 ∧ ((dkN [(0, 0)] r ∧ dkN [(10, 2147483647)] (I1 340 12) ∧ dkN [(2, 2)] (I1 340 7) ∧ dkN [(0, 90)] (I1 340 8) ∧ (I0 340 8).toInt + 1 ≤ (0 : Int) ∧ p0.toInt = (0 : Int) ∧ r = 0 ∧ I1 340 7 = p1 ∧ I1 340 8 = I0 340 10 ∧ I1 340 9 = I0 340 9 ∧ I1 340 10 = I0 340 10 ∧ I1 340 11 = I0 340 11 ∧ I1 340 12 = I0 340 12 ∧ True)))) 0 0 (dkA z) := by
  refine Met.ofW (cc := cX6_takes) (maxL := 4) (ret := (some .int)) (by decide) rfl ?_
  intro p e s m args below meth c s₁ B hml hv
  obtain ⟨ha, hW, hK, hT⟩ := hv
  have hx := B.exec
  have hb := B.bytes
  have hr := B.returns
  have hts := atoms_spec (ws := wsX6_takes) B.pre
  have hown : s.vm.findClass RX6 = some m.cls := findClass_of_methodNamed B.named
  have hlocks := B.notSynchronized
  have hS : va_S (dkA z) s.heap s.heap [] := va_S.rf
  have hF : dkF [(340, 340, 7, 8)] I0 I0 := dkF_rf _ _
  have hl := lv_entry ([.ref (z + 340), .int p0, .int p1]) (n := 4) (Nat.le_of_ble_eq_true rfl)
  have hgo : entryFrame m args 4 = entryFrame m ([.ref (z + 340), .int p0, .int p1] : List Value).toArray 4 := by rw [ha]
  rw [hgo, lg_entry_eq]
  generalize (lg_sl ([.ref (z + 340), .int p0, .int p1]) ++ List.replicate (4 - (lg_sl ([.ref (z + 340), .int p0, .int p1])).length) Slot.unset).toArray = ls at hl ⊢
  have hl : lv_has ls 4 [(0, .ref (z + 340)), (1, .int p0), (2, .int p1)] := hl
  refine lv_aload_n hx hb dX6_takes_0 rfl (lv_at hl 0 rfl) ?_
  refine dk_Vi (As := []) (rest := []) ⟨hx, hb, hml, hown, hts⟩ (fx_X6_isWell_6 l g z I0 (show dkN [(-1, -1)] (I0 340 8) from dkN_sub np1 rfl) hO) (cwV 0 hts gX6_takes_X6_isWell rfl rfl rfl (by decide +kernel) ⟨Nat.le_of_ble_eq_true rfl, Nat.le_of_ble_eq_true rfl⟩) (dk_at340 hW) rfl hK hT hW hS rfl hl.1 rfl (Nat.le_of_ble_eq_true rfl) dX6_takes_1 ⟨Nat.zero_le _, Nat.zero_le _⟩ (fun v1 I1 H1 L1 hp1 hW hS => ?_)
  obtain ⟨hF1, hO, hc1⟩ := hp1
  have hF := dkF_call hF hF1 rfl
  have eI1 : I0 = I1 := (dkF_nil hF1).symm
  subst eI1
  obtain ⟨dv1, f1_340_8, x1_0, xr1, -⟩ := hc1
  have q2 : (I0 340 8).toInt + 1 ≤ (0 : Int) := x1_0
  have xv1 : v1 = 1 := by have h := xr1; exact h
  refine lv_if_ne (tgt := 9) hx hb dX6_takes_4 (by decide) (fun c3 => ?_) (fun c3 => ?_)
  ·
    refine lv_iload_n hx hb dX6_takes_9 rfl (lv_at hl 1 rfl) ?_
    refine lv_if_ne (tgt := 28) hx hb dX6_takes_10 (by decide) (fun c4 => ?_) (fun c4 => ?_)
    ·
      exact (dkN_nil (show dkN [] p0 from dkN_ne1 (0) dp0 (dkN_lit (x := 0) (0) rfl) (dk_ne c4) rfl)).elim
    ·
      have q5 : p0.toInt = (0 : Int) := (congrArg Int32.toInt c4)
      refine lv_aload_n hx hb dX6_takes_13 rfl (lv_at hl 0 rfl) ?_
      refine lv_aload_n hx hb dX6_takes_14 rfl (lv_at hl 0 rfl) ?_
      refine dk_get (k := 340) hx hb hts iX6_takes_6 hown hK (dk_at340 hW) rfl 10 (by decide) (hts (.fieldLink RX6 89 "DogKingsModel" "start" "I") (List.mem_of_getElem? (i := 1) rfl)) rfl dX6_takes_15 ?_
      refine lv_topi (fun v6 ev6 => ?_)
      have dv6 : dkN [(0, 90)] v6 := by rw [ev6]; exact (hO 340 10)
      have xv6 : v6 = I0 340 10 := ev6.trans rfl
      refine dk_put (k := 340) hx hb hts iX6_takes_6 tyX6 tyX6_ok nmX6 hown hK hW (dk_at340 hW) hS rfl 8 (by decide) (hts (.fieldLink RX6 101 "DogKingsModel" "faultPlace" "I") (List.mem_of_getElem? (i := 2) rfl)) rfl rfl (Nat.le_of_ble_eq_true rfl) rfl dX6_takes_18 (fun I7 H7 L7 eI7 hW hS => ?_)
      have eI7 : I7 = dkU I0 340 8 v6 := eI7
      have hO := dkO_set hO eI7 (dkN_sub dv6 rfl)
      have hF := dkF_set hF eI7 rfl
      refine lv_aload_n hx hb dX6_takes_21 rfl (lv_at hl 0 rfl) ?_
      refine lv_iload_n hx hb dX6_takes_22 rfl (lv_at hl 2 rfl) ?_
      refine dk_put (k := 340) hx hb hts iX6_takes_6 tyX6 tyX6_ok nmX6 hown hK hW (dk_at340 hW) hS rfl 7 (by decide) (hts (.fieldLink RX6 108 "DogKingsModel" "faultKind" "I") (List.mem_of_getElem? (i := 3) rfl)) rfl rfl (Nat.le_of_ble_eq_true rfl) rfl dX6_takes_23 (fun I8 H8 L8 eI8 hW hS => ?_)
      have eI8 : I8 = dkU I7 340 7 p1 := eI8
      have hO := dkO_set hO eI8 (dkN_sub dp1 rfl)
      have hF := dkF_set hF eI8 rfl
      refine lv_iconst (v := 0) hx hb dX6_takes_26 (by decide) ?_
      exact W.iret (v := 0) hx hb hr (fun t ht hW9 => ⟨⟨0, I8, rfl, ⟨hF, hO, ⟨dkN_sub (dkN_lit (x := 0) (0) rfl) rfl, (show dkN [(10, 2147483647)] (I8 340 12) from dkN_sub (by rw [eI8, dkU_sn (by decide)]; exact (by rw [eI7, dkU_sn (by decide)]; exact (by rw [hF1 340 12 rfl]; exact np0))) rfl), (show dkN [(2, 2)] (I8 340 7) from dkN_sub (by rw [eI8, dkU_ss]; exact dp1) rfl), (show dkN [(0, 90)] (I8 340 8) from dkN_sub (by rw [eI8, dkU_sn (by decide)]; exact (by rw [eI7, dkU_ss]; exact dv6)) rfl), q2, q5, rfl, (by rw [eI8, dkU_ss]), ((by rw [eI8, dkU_sn (by decide)] : I8 340 8 = _).trans (by rw [eI7, dkU_ss, xv6])), ((by rw [eI8, dkU_sn (by decide)] : I8 340 9 = _).trans ((by rw [eI7, dkU_sn (by decide)] : I7 340 9 = _).trans rfl)), ((by rw [eI8, dkU_sn (by decide)] : I8 340 10 = _).trans ((by rw [eI7, dkU_sn (by decide)] : I7 340 10 = _).trans rfl)), ((by rw [eI8, dkU_sn (by decide)] : I8 340 11 = _).trans ((by rw [eI7, dkU_sn (by decide)] : I7 340 11 = _).trans rfl)), ((by rw [eI8, dkU_sn (by decide)] : I8 340 12 = _).trans ((by rw [eI7, dkU_sn (by decide)] : I7 340 12 = _).trans rfl)), trivial⟩⟩, dkW_eq ht hW⟩, hS.F ht⟩) hS.2.2 dX6_takes_27
  ·
    exact (dkN_nil (show dkN [] v1 from dkN_eq1 dv1 (dkN_lit (x := 0) (0) rfl) (congrArg Int32.toInt c3) rfl)).elim
set_option maxHeartbeats 4000000 in
set_option maxRecDepth 100000 in
theorem fx_X6_takes_37 (l : Launch) (g : dkG) (z : Nat) (I0 : dkI) (p0 : Int32) (p1 : Int32) (dp0 : dkN [(1, 1)] p0) (dp1 : dkN [(2, 2)] p1) (np0 : dkN [(3, 9)] (I0 340 12)) (np1 : dkN [(-1, -1)] (I0 340 8))  (hO : dkOk I0) : Met l yX6_takes wsX6_takes (dkR 2) (dkPc g z [.ref (z + 340), .int p0, .int p1] I0) (dkQi g z (fun r I1 => dkF [(340, 340, 9, 12)] I0 I1 ∧ dkOk I1 ∧ ((dkN [(3, 9)] r ∧ dkN [(0, 5)] (I1 340 11) ∧ dkN [(-1, -1)] (I1 340 8) ∧ (I0 340 8).toInt + 1 ≤ (0 : Int) ∧ p0.toInt ≠ (0 : Int) ∧ r = I0 340 12 ∧ I1 340 7 = I0 340 7 ∧ I1 340 8 = I0 340 8 ∧ I1 340 9 = dkTe (I0 345) (I0 340 6) (I0 340 9) ∧ I1 340 10 = I0 340 9 ∧ I1 340 11 = dkTk (I0 345) (I0 340 6) (I0 340 9) ∧ I1 340 12 = dkTv (I0 345) (I0 340 6) (I0 340 9) ∧ True)))) 0 0 (dkA z) := by
  refine Met.ofW (cc := cX6_takes) (maxL := 4) (ret := (some .int)) (by decide) rfl ?_
  intro p e s m args below meth c s₁ B hml hv
  obtain ⟨ha, hW, hK, hT⟩ := hv
  have hx := B.exec
  have hb := B.bytes
  have hr := B.returns
  have hts := atoms_spec (ws := wsX6_takes) B.pre
  have hown : s.vm.findClass RX6 = some m.cls := findClass_of_methodNamed B.named
  have hlocks := B.notSynchronized
  have hS : va_S (dkA z) s.heap s.heap [] := va_S.rf
  have hF : dkF [(340, 340, 9, 12)] I0 I0 := dkF_rf _ _
  have hl := lv_entry ([.ref (z + 340), .int p0, .int p1]) (n := 4) (Nat.le_of_ble_eq_true rfl)
  have hgo : entryFrame m args 4 = entryFrame m ([.ref (z + 340), .int p0, .int p1] : List Value).toArray 4 := by rw [ha]
  rw [hgo, lg_entry_eq]
  generalize (lg_sl ([.ref (z + 340), .int p0, .int p1]) ++ List.replicate (4 - (lg_sl ([.ref (z + 340), .int p0, .int p1])).length) Slot.unset).toArray = ls at hl ⊢
  have hl : lv_has ls 4 [(0, .ref (z + 340)), (1, .int p0), (2, .int p1)] := hl
  refine lv_aload_n hx hb dX6_takes_0 rfl (lv_at hl 0 rfl) ?_
  refine dk_Vi (As := []) (rest := []) ⟨hx, hb, hml, hown, hts⟩ (fx_X6_isWell_6 l g z I0 (show dkN [(-1, -1)] (I0 340 8) from dkN_sub np1 rfl) hO) (cwV 0 hts gX6_takes_X6_isWell rfl rfl rfl (by decide +kernel) ⟨Nat.le_of_ble_eq_true rfl, Nat.le_of_ble_eq_true rfl⟩) (dk_at340 hW) rfl hK hT hW hS rfl hl.1 rfl (Nat.le_of_ble_eq_true rfl) dX6_takes_1 ⟨Nat.zero_le _, Nat.zero_le _⟩ (fun v1 I1 H1 L1 hp1 hW hS => ?_)
  obtain ⟨hF1, hO, hc1⟩ := hp1
  have hF := dkF_call hF hF1 rfl
  have eI1 : I0 = I1 := (dkF_nil hF1).symm
  subst eI1
  obtain ⟨dv1, f1_340_8, x1_0, xr1, -⟩ := hc1
  have q2 : (I0 340 8).toInt + 1 ≤ (0 : Int) := x1_0
  have xv1 : v1 = 1 := by have h := xr1; exact h
  refine lv_if_ne (tgt := 9) hx hb dX6_takes_4 (by decide) (fun c3 => ?_) (fun c3 => ?_)
  ·
    refine lv_iload_n hx hb dX6_takes_9 rfl (lv_at hl 1 rfl) ?_
    refine lv_if_ne (tgt := 28) hx hb dX6_takes_10 (by decide) (fun c4 => ?_) (fun c4 => ?_)
    ·
      have q5 : p0.toInt ≠ (0 : Int) := (dk_ne c4)
      refine lv_aload_n hx hb dX6_takes_28 rfl (lv_at hl 0 rfl) ?_
      refine dk_get (k := 340) hx hb hts iX6_takes_6 hown hK (dk_at340 hW) rfl 12 (by decide) (hts (.fieldLink RX6 95 "DogKingsModel" "value" "I") (List.mem_of_getElem? (i := 4) rfl)) rfl dX6_takes_29 ?_
      refine lv_topi (fun v6 ev6 => ?_)
      have dv6 : dkN [(3, 9)] v6 := by rw [ev6]; exact (by rw [hF1 340 12 rfl]; exact np0)
      have xv6 : v6 = I0 340 12 := ev6.trans rfl
      refine lv_istore_n (lv' := [(3, .int v6), (0, .ref (z + 340)), (1, .int p0), (2, .int p1)]) hx hb dX6_takes_32 rfl hl (by decide) rfl (fun ls hl => ?_)
      refine lv_aload_n hx hb dX6_takes_33 rfl (lv_at hl 1 rfl) ?_
      refine dk_Vv (As := []) (rest := []) ⟨hx, hb, hml, hown, hts⟩ (fx_X6_advances_1 l g z I0 hO) (cwV 0 hts gX6_takes_X6_advances rfl rfl rfl (by decide +kernel) ⟨Nat.le_of_ble_eq_true rfl, Nat.le_of_ble_eq_true rfl⟩) (dk_at340 hW) rfl hK hT hW hS rfl hl.1 rfl (Nat.le_of_ble_eq_true rfl) dX6_takes_34 ⟨Nat.zero_le _, Nat.zero_le _⟩ (fun I7 H7 L7 hp7 hW hS => ?_)
      obtain ⟨hF7, hO, hc7⟩ := hp7
      have hF := dkF_call hF hF7 rfl
      obtain ⟨f7_340_11, xh7_0, xh7_1, xh7_2, xh7_3, -⟩ := hc7
      have y8 : I7 340 9 = dkTe (I0 345) (I0 340 6) (I0 340 9) := by have h := xh7_0; exact h
      have y9 : I7 340 10 = I0 340 9 := by have h := xh7_1; exact h
      have y10 : I7 340 11 = dkTk (I0 345) (I0 340 6) (I0 340 9) := by have h := xh7_2; exact h
      have y11 : I7 340 12 = dkTv (I0 345) (I0 340 6) (I0 340 9) := by have h := xh7_3; exact h
      refine lv_iload_n hx hb dX6_takes_37 rfl (lv_at hl 0 rfl) ?_
      exact W.iret (v := v6) hx hb hr (fun t ht hW9 => ⟨⟨v6, I7, rfl, ⟨hF, hO, ⟨dkN_sub dv6 rfl, (show dkN [(0, 5)] (I7 340 11) from dkN_sub f7_340_11 rfl), (show dkN [(-1, -1)] (I7 340 8) from dkN_sub (by rw [hF7 340 8 rfl]; exact f1_340_8) rfl), q2, q5, xv6, ((hF7 340 7 rfl).trans rfl), ((hF7 340 8 rfl).trans rfl), y8, y9, y10, y11, trivial⟩⟩, dkW_eq ht hW⟩, hS.F ht⟩) hS.2.2 dX6_takes_38
    ·
      exact (dkN_nil (show dkN [] p0 from dkN_eq1 dp0 (dkN_lit (x := 0) (0) rfl) (congrArg Int32.toInt c4) rfl)).elim
  ·
    exact (dkN_nil (show dkN [] v1 from dkN_eq1 dv1 (dkN_lit (x := 0) (0) rfl) (congrArg Int32.toInt c3) rfl)).elim
set_option maxHeartbeats 4000000 in
set_option maxRecDepth 100000 in
theorem fx_X6_figure_10 (l : Launch) (g : dkG) (z : Nat) (I0 : dkI) (p0 : Int32) (p1 : Int32) (dp0 : dkN [(3, 3)] p0) (dp1 : dkN [(9, 9)] p1) (np0 : dkN [(-1, -1)] (I0 340 8))  (hO : dkOk I0) : Met l yX6_figure wsX6_figure (dkR 3) (dkPc g z [.ref (z + 340), .int p0, .int p1] I0) (dkQi g z (fun r I1 => dkF [(340, 340, 7, 12)] I0 I1 ∧ dkOk I1 ∧ ((dkN [(0, 0)] r ∧ dkN [(2, 2)] (I1 340 11) ∧ dkN [(-2147483648, 2)] (I1 340 12) ∧ dkN [(2, 2)] (I1 340 7) ∧ dkN [(0, 90)] (I1 340 8) ∧ (I0 340 8).toInt + 1 ≤ (0 : Int) ∧ (I0 340 11).toInt = (2 : Int) ∧ (I0 340 12).toInt + 1 ≤ p0.toInt ∧ r = 0 ∧ I1 340 7 = 2 ∧ I1 340 8 = I0 340 10 ∧ I1 340 9 = I0 340 9 ∧ I1 340 10 = I0 340 10 ∧ I1 340 11 = I0 340 11 ∧ I1 340 12 = I0 340 12 ∧ True) ∨ (dkN [(0, 0)] r ∧ dkN [(2, 2)] (I1 340 11) ∧ dkN [(10, 2147483647)] (I1 340 12) ∧ dkN [(2, 2)] (I1 340 7) ∧ dkN [(0, 90)] (I1 340 8) ∧ (I0 340 8).toInt + 1 ≤ (0 : Int) ∧ (I0 340 11).toInt = (2 : Int) ∧ p0.toInt + 0 ≤ (I0 340 12).toInt ∧ p1.toInt + 1 ≤ (I0 340 12).toInt ∧ r = 0 ∧ I1 340 7 = 2 ∧ I1 340 8 = I0 340 10 ∧ I1 340 9 = I0 340 9 ∧ I1 340 10 = I0 340 10 ∧ I1 340 11 = I0 340 11 ∧ I1 340 12 = I0 340 12 ∧ True) ∨ (dkN [(3, 9)] r ∧ dkN [(0, 5)] (I1 340 11) ∧ dkN [(-1, -1)] (I1 340 8) ∧ (I0 340 8).toInt + 1 ≤ (0 : Int) ∧ (I0 340 11).toInt = (2 : Int) ∧ p0.toInt + 0 ≤ (I0 340 12).toInt ∧ (I0 340 12).toInt + 0 ≤ p1.toInt ∧ r = I0 340 12 ∧ I1 340 7 = I0 340 7 ∧ I1 340 8 = I0 340 8 ∧ I1 340 9 = dkTe (I0 345) (I0 340 6) (I0 340 9) ∧ I1 340 10 = I0 340 9 ∧ I1 340 11 = dkTk (I0 345) (I0 340 6) (I0 340 9) ∧ I1 340 12 = dkTv (I0 345) (I0 340 6) (I0 340 9) ∧ True) ∨ (dkN [(0, 0)] r ∧ dkN [(-2147483648, 1), (3, 2147483647)] (I1 340 11) ∧ dkN [(1, 1)] (I1 340 7) ∧ dkN [(0, 90)] (I1 340 8) ∧ (I0 340 8).toInt + 1 ≤ (0 : Int) ∧ (I0 340 11).toInt ≠ (2 : Int) ∧ r = 0 ∧ I1 340 7 = 1 ∧ I1 340 8 = I0 340 10 ∧ I1 340 9 = I0 340 9 ∧ I1 340 10 = I0 340 10 ∧ I1 340 11 = I0 340 11 ∧ I1 340 12 = I0 340 12 ∧ True)))) 0 0 (dkA z) := by
  refine Met.ofW (cc := cX6_figure) (maxL := 3) (ret := (some .int)) (by decide) rfl ?_
  intro p e s m args below meth c s₁ B hml hv
  obtain ⟨ha, hW, hK, hT⟩ := hv
  have hx := B.exec
  have hb := B.bytes
  have hr := B.returns
  have hts := atoms_spec (ws := wsX6_figure) B.pre
  have hown : s.vm.findClass RX6 = some m.cls := findClass_of_methodNamed B.named
  have hlocks := B.notSynchronized
  have hS : va_S (dkA z) s.heap s.heap [] := va_S.rf
  have hF : dkF [(340, 340, 7, 12)] I0 I0 := dkF_rf _ _
  have hl := lv_entry ([.ref (z + 340), .int p0, .int p1]) (n := 3) (Nat.le_of_ble_eq_true rfl)
  have hgo : entryFrame m args 3 = entryFrame m ([.ref (z + 340), .int p0, .int p1] : List Value).toArray 3 := by rw [ha]
  rw [hgo, lg_entry_eq]
  generalize (lg_sl ([.ref (z + 340), .int p0, .int p1]) ++ List.replicate (3 - (lg_sl ([.ref (z + 340), .int p0, .int p1])).length) Slot.unset).toArray = ls at hl ⊢
  have hl : lv_has ls 3 [(0, .ref (z + 340)), (1, .int p0), (2, .int p1)] := hl
  refine lv_aload_n hx hb dX6_figure_0 rfl (lv_at hl 0 rfl) ?_
  refine dk_Vi (As := []) (rest := []) ⟨hx, hb, hml, hown, hts⟩ (fx_X6_isWell_6 l g z I0 (show dkN [(-1, -1)] (I0 340 8) from dkN_sub np0 rfl) hO) (cwV 0 hts gX6_figure_X6_isWell rfl rfl rfl (by decide +kernel) ⟨Nat.le_of_ble_eq_true rfl, Nat.le_of_ble_eq_true rfl⟩) (dk_at340 hW) rfl hK hT hW hS rfl hl.1 rfl (Nat.le_of_ble_eq_true rfl) dX6_figure_1 ⟨Nat.zero_le _, Nat.zero_le _⟩ (fun v1 I1 H1 L1 hp1 hW hS => ?_)
  obtain ⟨hF1, hO, hc1⟩ := hp1
  have hF := dkF_call hF hF1 rfl
  have eI1 : I0 = I1 := (dkF_nil hF1).symm
  subst eI1
  obtain ⟨dv1, f1_340_8, x1_0, xr1, -⟩ := hc1
  have q2 : (I0 340 8).toInt + 1 ≤ (0 : Int) := x1_0
  have xv1 : v1 = 1 := by have h := xr1; exact h
  refine lv_if_eq (tgt := 22) hx hb dX6_figure_4 (by decide) (fun c3 => ?_) (fun c3 => ?_)
  ·
    exact (dkN_nil (show dkN [] v1 from dkN_eq1 dv1 (dkN_lit (x := 0) (0) rfl) (congrArg Int32.toInt c3) rfl)).elim
  ·
    refine lv_aload_n hx hb dX6_figure_7 rfl (lv_at hl 0 rfl) ?_
    refine dk_get (k := 340) hx hb hts iX6_figure_6 hown hK (dk_at340 hW) rfl 11 (by decide) (hts (.fieldLink RX6 98 "DogKingsModel" "token" "I") (List.mem_of_getElem? (i := 1) rfl)) rfl dX6_figure_8 ?_
    refine lv_topi (fun v4 ev4 => ?_)
    have xv4 : v4 = I0 340 11 := ev4.trans rfl
    refine lv_iconst (v := 2) hx hb dX6_figure_11 (by decide) ?_
    refine lv_icmp_eq (tgt := 22) hx hb dX6_figure_12 (by decide) (fun c5 => ?_) (fun c5 => ?_)
    ·
      have q6 : (I0 340 11).toInt = (2 : Int) := by first | (rw [← xv4]; exact (congrArg Int32.toInt c5)) | (subst xv4; exact (congrArg Int32.toInt c5))
      have d7 : dkN [(2, 2)] v4 := dkN_eq1 (dkN_top v4) (dkN_lit (x := 2) (2) rfl) (congrArg Int32.toInt c5) rfl
      have f8 : dkN [(2, 2)] (I0 340 11) := by rw [← ev4]; exact d7
      refine lv_aload_n hx hb dX6_figure_22 rfl (lv_at hl 0 rfl) ?_
      refine lv_aload_n hx hb dX6_figure_23 rfl (lv_at hl 0 rfl) ?_
      refine dk_get (k := 340) hx hb hts iX6_figure_6 hown hK (dk_at340 hW) rfl 12 (by decide) (hts (.fieldLink RX6 95 "DogKingsModel" "value" "I") (List.mem_of_getElem? (i := 2) rfl)) rfl dX6_figure_24 ?_
      refine lv_topi (fun v9 ev9 => ?_)
      have xv9 : v9 = I0 340 12 := ev9.trans rfl
      refine lv_iload_n hx hb dX6_figure_27 rfl (lv_at hl 1 rfl) ?_
      refine lv_iload_n hx hb dX6_figure_28 rfl (lv_at hl 2 rfl) ?_
      refine dk_Si (As := [.int v9, .int p0, .int p1]) (rest := [.ref (z + 340)]) ⟨hx, hb, hml, hown, hts⟩ (fx_X6_in_28 l g z I0 v9 p0 p1 dp0 dp1 hO) (va_cwS 3 hts gX6_figure_X6_in rfl rfl rfl (by decide +kernel) ⟨Nat.le_of_ble_eq_true rfl, Nat.le_of_ble_eq_true rfl⟩) hK hT hW hS rfl hl.1 rfl (Nat.le_of_ble_eq_true rfl) dX6_figure_29 ⟨Nat.zero_le _, Nat.zero_le _⟩ (fun v10 I10 H10 L10 hp10 hW hS => ?_)
      obtain ⟨hF10, hO, hc10⟩ := hp10
      have hF := dkF_call hF hF10 rfl
      have eI10 : I0 = I10 := (dkF_nil hF10).symm
      subst eI10
      rcases hc10 with ⟨dv10, a10_0, x10_0, xr10, -⟩ | hc10
      ·
        have q11 : (I0 340 12).toInt + 1 ≤ p0.toInt := by have h := x10_0; rw [xv9] at h; exact h
        have xv10 : v10 = 0 := by have h := xr10; exact h
        have e12 : v9 = I0 340 12 := by rw [hF10 340 12 rfl]; exact ev9
        have d13 : dkN [(-2147483648, 2)] v9 := dkN_eq1 (dkN_top v9) a10_0 rfl rfl
        have f14 : dkN [(-2147483648, 2)] (I0 340 12) := by rw [← e12]; exact d13
        refine lv_iconst (v := 2) hx hb dX6_figure_32 (by decide) ?_
        refine dk_Vi (As := [.int v10, .int 2]) (rest := []) ⟨hx, hb, hml, hown, hts⟩ (fx_X6_takes_35 l g z I0 v10 2 dv10 (dkN_lit (x := 2) (2) rfl) (show dkN [(-2147483648, 2)] (I0 340 12) from dkN_sub f14 rfl) (show dkN [(-1, -1)] (I0 340 8) from dkN_sub (by rw [hF10 340 8 rfl]; exact f1_340_8) rfl) hO) (cwV 2 hts gX6_figure_X6_takes rfl rfl rfl (by decide +kernel) ⟨Nat.le_of_ble_eq_true rfl, Nat.le_of_ble_eq_true rfl⟩) (dk_at340 hW) rfl hK hT hW hS rfl hl.1 rfl (Nat.le_of_ble_eq_true rfl) dX6_figure_33 ⟨Nat.zero_le _, Nat.zero_le _⟩ (fun v15 I15 H15 L15 hp15 hW hS => ?_)
        obtain ⟨hF15, hO, hc15⟩ := hp15
        have hF := dkF_call hF hF15 rfl
        obtain ⟨dv15, f15_340_12, f15_340_7, f15_340_8, x15_0, x15_1, xr15, xh15_0, xh15_1, xh15_2, xh15_3, xh15_4, xh15_5, -⟩ := hc15
        have y16 : I15 340 7 = 2 := by have h := xh15_0; exact h
        have y17 : I15 340 8 = I0 340 10 := by have h := xh15_1; exact h
        have y18 : I15 340 9 = I0 340 9 := by have h := xh15_2; exact h
        have y19 : I15 340 10 = I0 340 10 := by have h := xh15_3; exact h
        have y20 : I15 340 11 = I0 340 11 := by have h := xh15_4; exact h
        have y21 : I15 340 12 = I0 340 12 := by have h := xh15_5; exact h
        have xv15 : v15 = 0 := by have h := xr15; exact h
        exact W.iret (v := v15) hx hb hr (fun t ht hW9 => ⟨⟨v15, I15, rfl, ⟨hF, hO, Or.inl ⟨dkN_sub dv15 rfl, (show dkN [(2, 2)] (I15 340 11) from dkN_sub (by rw [hF15 340 11 rfl]; exact (by rw [hF10 340 11 rfl]; exact f8)) rfl), (show dkN [(-2147483648, 2)] (I15 340 12) from dkN_sub f15_340_12 rfl), (show dkN [(2, 2)] (I15 340 7) from dkN_sub f15_340_7 rfl), (show dkN [(0, 90)] (I15 340 8) from dkN_sub f15_340_8 rfl), q2, q6, q11, xv15, y16, y17, y18, y19, y20, y21, trivial⟩⟩, dkW_eq ht hW⟩, hS.F ht⟩) hS.2.2 dX6_figure_36
      rcases hc10 with ⟨dv10, a10_0, x10_0, x10_1, xr10, -⟩ | hc10
      ·
        have q22 : p0.toInt + 0 ≤ (I0 340 12).toInt := by have h := x10_0; rw [xv9] at h; exact h
        have q23 : p1.toInt + 1 ≤ (I0 340 12).toInt := by have h := x10_1; rw [xv9] at h; exact h
        have xv10 : v10 = 0 := by have h := xr10; exact h
        have e24 : v9 = I0 340 12 := by rw [hF10 340 12 rfl]; exact ev9
        have d25 : dkN [(10, 2147483647)] v9 := dkN_eq1 (dkN_top v9) a10_0 rfl rfl
        have f26 : dkN [(10, 2147483647)] (I0 340 12) := by rw [← e24]; exact d25
        refine lv_iconst (v := 2) hx hb dX6_figure_32 (by decide) ?_
        refine dk_Vi (As := [.int v10, .int 2]) (rest := []) ⟨hx, hb, hml, hown, hts⟩ (fx_X6_takes_36 l g z I0 v10 2 dv10 (dkN_lit (x := 2) (2) rfl) (show dkN [(10, 2147483647)] (I0 340 12) from dkN_sub f26 rfl) (show dkN [(-1, -1)] (I0 340 8) from dkN_sub (by rw [hF10 340 8 rfl]; exact f1_340_8) rfl) hO) (cwV 2 hts gX6_figure_X6_takes rfl rfl rfl (by decide +kernel) ⟨Nat.le_of_ble_eq_true rfl, Nat.le_of_ble_eq_true rfl⟩) (dk_at340 hW) rfl hK hT hW hS rfl hl.1 rfl (Nat.le_of_ble_eq_true rfl) dX6_figure_33 ⟨Nat.zero_le _, Nat.zero_le _⟩ (fun v27 I27 H27 L27 hp27 hW hS => ?_)
        obtain ⟨hF27, hO, hc27⟩ := hp27
        have hF := dkF_call hF hF27 rfl
        obtain ⟨dv27, f27_340_12, f27_340_7, f27_340_8, x27_0, x27_1, xr27, xh27_0, xh27_1, xh27_2, xh27_3, xh27_4, xh27_5, -⟩ := hc27
        have y28 : I27 340 7 = 2 := by have h := xh27_0; exact h
        have y29 : I27 340 8 = I0 340 10 := by have h := xh27_1; exact h
        have y30 : I27 340 9 = I0 340 9 := by have h := xh27_2; exact h
        have y31 : I27 340 10 = I0 340 10 := by have h := xh27_3; exact h
        have y32 : I27 340 11 = I0 340 11 := by have h := xh27_4; exact h
        have y33 : I27 340 12 = I0 340 12 := by have h := xh27_5; exact h
        have xv27 : v27 = 0 := by have h := xr27; exact h
        exact W.iret (v := v27) hx hb hr (fun t ht hW9 => ⟨⟨v27, I27, rfl, ⟨hF, hO, Or.inr (Or.inl ⟨dkN_sub dv27 rfl, (show dkN [(2, 2)] (I27 340 11) from dkN_sub (by rw [hF27 340 11 rfl]; exact (by rw [hF10 340 11 rfl]; exact f8)) rfl), (show dkN [(10, 2147483647)] (I27 340 12) from dkN_sub f27_340_12 rfl), (show dkN [(2, 2)] (I27 340 7) from dkN_sub f27_340_7 rfl), (show dkN [(0, 90)] (I27 340 8) from dkN_sub f27_340_8 rfl), q2, q6, q22, q23, xv27, y28, y29, y30, y31, y32, y33, trivial⟩)⟩, dkW_eq ht hW⟩, hS.F ht⟩) hS.2.2 dX6_figure_36
      ·
        obtain ⟨dv10, a10_0, x10_0, x10_1, xr10, -⟩ := hc10
        have q34 : p0.toInt + 0 ≤ (I0 340 12).toInt := by have h := x10_0; rw [xv9] at h; exact h
        have q35 : (I0 340 12).toInt + 0 ≤ p1.toInt := by have h := x10_1; rw [xv9] at h; exact h
        have xv10 : v10 = 1 := by have h := xr10; exact h
        have e36 : v9 = I0 340 12 := by rw [hF10 340 12 rfl]; exact ev9
        have d37 : dkN [(3, 9)] v9 := dkN_eq1 (dkN_top v9) a10_0 rfl rfl
        have f38 : dkN [(3, 9)] (I0 340 12) := by rw [← e36]; exact d37
        refine lv_iconst (v := 2) hx hb dX6_figure_32 (by decide) ?_
        refine dk_Vi (As := [.int v10, .int 2]) (rest := []) ⟨hx, hb, hml, hown, hts⟩ (fx_X6_takes_37 l g z I0 v10 2 dv10 (dkN_lit (x := 2) (2) rfl) (show dkN [(3, 9)] (I0 340 12) from dkN_sub f38 rfl) (show dkN [(-1, -1)] (I0 340 8) from dkN_sub (by rw [hF10 340 8 rfl]; exact f1_340_8) rfl) hO) (cwV 2 hts gX6_figure_X6_takes rfl rfl rfl (by decide +kernel) ⟨Nat.le_of_ble_eq_true rfl, Nat.le_of_ble_eq_true rfl⟩) (dk_at340 hW) rfl hK hT hW hS rfl hl.1 rfl (Nat.le_of_ble_eq_true rfl) dX6_figure_33 ⟨Nat.zero_le _, Nat.zero_le _⟩ (fun v39 I39 H39 L39 hp39 hW hS => ?_)
        obtain ⟨hF39, hO, hc39⟩ := hp39
        have hF := dkF_call hF hF39 rfl
        obtain ⟨dv39, f39_340_11, f39_340_8, x39_0, x39_1, xr39, xh39_0, xh39_1, xh39_2, xh39_3, xh39_4, xh39_5, -⟩ := hc39
        have y40 : I39 340 7 = I0 340 7 := by have h := xh39_0; exact h
        have y41 : I39 340 8 = I0 340 8 := by have h := xh39_1; exact h
        have y42 : I39 340 9 = dkTe (I0 345) (I0 340 6) (I0 340 9) := by have h := xh39_2; exact h
        have y43 : I39 340 10 = I0 340 9 := by have h := xh39_3; exact h
        have y44 : I39 340 11 = dkTk (I0 345) (I0 340 6) (I0 340 9) := by have h := xh39_4; exact h
        have y45 : I39 340 12 = dkTv (I0 345) (I0 340 6) (I0 340 9) := by have h := xh39_5; exact h
        have xv39 : v39 = I0 340 12 := by have h := xr39; exact h
        exact W.iret (v := v39) hx hb hr (fun t ht hW9 => ⟨⟨v39, I39, rfl, ⟨hF, hO, Or.inr (Or.inr (Or.inl ⟨dkN_sub dv39 rfl, (show dkN [(0, 5)] (I39 340 11) from dkN_sub f39_340_11 rfl), (show dkN [(-1, -1)] (I39 340 8) from dkN_sub f39_340_8 rfl), q2, q6, q34, q35, xv39, y40, y41, y42, y43, y44, y45, trivial⟩))⟩, dkW_eq ht hW⟩, hS.F ht⟩) hS.2.2 dX6_figure_36
    ·
      have q46 : (I0 340 11).toInt ≠ (2 : Int) := by first | (rw [← xv4]; exact (dk_ne c5)) | (subst xv4; exact (dk_ne c5))
      have d47 : dkN [(-2147483648, 1), (3, 2147483647)] v4 := dkN_ne1 (2) (dkN_top v4) (dkN_lit (x := 2) (2) rfl) (dk_ne c5) rfl
      have f48 : dkN [(-2147483648, 1), (3, 2147483647)] (I0 340 11) := by rw [← ev4]; exact d47
      refine lv_aload_n hx hb dX6_figure_15 rfl (lv_at hl 0 rfl) ?_
      refine lv_iconst (v := 0) hx hb dX6_figure_16 (by decide) ?_
      refine lv_iconst (v := 1) hx hb dX6_figure_17 (by decide) ?_
      refine dk_Vi (As := [.int 0, .int 1]) (rest := []) ⟨hx, hb, hml, hown, hts⟩ (fx_X6_takes_31 l g z I0 0 1 (dkN_lit (x := 0) (0) rfl) (dkN_lit (x := 1) (1) rfl) (show dkN [(-1, -1)] (I0 340 8) from dkN_sub f1_340_8 rfl) hO) (cwV 2 hts gX6_figure_X6_takes rfl rfl rfl (by decide +kernel) ⟨Nat.le_of_ble_eq_true rfl, Nat.le_of_ble_eq_true rfl⟩) (dk_at340 hW) rfl hK hT hW hS rfl hl.1 rfl (Nat.le_of_ble_eq_true rfl) dX6_figure_18 ⟨Nat.zero_le _, Nat.zero_le _⟩ (fun v49 I49 H49 L49 hp49 hW hS => ?_)
      obtain ⟨hF49, hO, hc49⟩ := hp49
      have hF := dkF_call hF hF49 rfl
      obtain ⟨dv49, f49_340_7, f49_340_8, x49_0, x49_1, xr49, xh49_0, xh49_1, xh49_2, xh49_3, xh49_4, xh49_5, -⟩ := hc49
      have y50 : I49 340 7 = 1 := by have h := xh49_0; exact h
      have y51 : I49 340 8 = I0 340 10 := by have h := xh49_1; exact h
      have y52 : I49 340 9 = I0 340 9 := by have h := xh49_2; exact h
      have y53 : I49 340 10 = I0 340 10 := by have h := xh49_3; exact h
      have y54 : I49 340 11 = I0 340 11 := by have h := xh49_4; exact h
      have y55 : I49 340 12 = I0 340 12 := by have h := xh49_5; exact h
      have xv49 : v49 = 0 := by have h := xr49; exact h
      exact W.iret (v := v49) hx hb hr (fun t ht hW9 => ⟨⟨v49, I49, rfl, ⟨hF, hO, Or.inr (Or.inr (Or.inr (⟨dkN_sub dv49 rfl, (show dkN [(-2147483648, 1), (3, 2147483647)] (I49 340 11) from dkN_sub (by rw [hF49 340 11 rfl]; exact f48) rfl), (show dkN [(1, 1)] (I49 340 7) from dkN_sub f49_340_7 rfl), (show dkN [(0, 90)] (I49 340 8) from dkN_sub f49_340_8 rfl), q2, q46, xv49, y50, y51, y52, y53, y54, y55, trivial⟩)))⟩, dkW_eq ht hW⟩, hS.F ht⟩) hS.2.2 dX6_figure_21
set_option maxHeartbeats 4000000 in
set_option maxRecDepth 100000 in
theorem fx_X6_takes_38 (l : Launch) (g : dkG) (z : Nat) (I0 : dkI) (p0 : Int32) (p1 : Int32) (dp0 : dkN [(1, 1)] p0) (dp1 : dkN [(1, 1)] p1) (np0 : dkN [(-1, -1)] (I0 340 8))  (hO : dkOk I0) : Met l yX6_takes wsX6_takes (dkR 2) (dkPc g z [.ref (z + 340), .int p0, .int p1] I0) (dkQi g z (fun r I1 => dkF [(340, 340, 9, 12)] I0 I1 ∧ dkOk I1 ∧ ((True ∧ dkN [(0, 5)] (I1 340 11) ∧ dkN [(-1, -1)] (I1 340 8) ∧ (I0 340 8).toInt + 1 ≤ (0 : Int) ∧ p0.toInt ≠ (0 : Int) ∧ r = I0 340 12 ∧ I1 340 7 = I0 340 7 ∧ I1 340 8 = I0 340 8 ∧ I1 340 9 = dkTe (I0 345) (I0 340 6) (I0 340 9) ∧ I1 340 10 = I0 340 9 ∧ I1 340 11 = dkTk (I0 345) (I0 340 6) (I0 340 9) ∧ I1 340 12 = dkTv (I0 345) (I0 340 6) (I0 340 9) ∧ True)))) 0 0 (dkA z) := by
  refine Met.ofW (cc := cX6_takes) (maxL := 4) (ret := (some .int)) (by decide) rfl ?_
  intro p e s m args below meth c s₁ B hml hv
  obtain ⟨ha, hW, hK, hT⟩ := hv
  have hx := B.exec
  have hb := B.bytes
  have hr := B.returns
  have hts := atoms_spec (ws := wsX6_takes) B.pre
  have hown : s.vm.findClass RX6 = some m.cls := findClass_of_methodNamed B.named
  have hlocks := B.notSynchronized
  have hS : va_S (dkA z) s.heap s.heap [] := va_S.rf
  have hF : dkF [(340, 340, 9, 12)] I0 I0 := dkF_rf _ _
  have hl := lv_entry ([.ref (z + 340), .int p0, .int p1]) (n := 4) (Nat.le_of_ble_eq_true rfl)
  have hgo : entryFrame m args 4 = entryFrame m ([.ref (z + 340), .int p0, .int p1] : List Value).toArray 4 := by rw [ha]
  rw [hgo, lg_entry_eq]
  generalize (lg_sl ([.ref (z + 340), .int p0, .int p1]) ++ List.replicate (4 - (lg_sl ([.ref (z + 340), .int p0, .int p1])).length) Slot.unset).toArray = ls at hl ⊢
  have hl : lv_has ls 4 [(0, .ref (z + 340)), (1, .int p0), (2, .int p1)] := hl
  refine lv_aload_n hx hb dX6_takes_0 rfl (lv_at hl 0 rfl) ?_
  refine dk_Vi (As := []) (rest := []) ⟨hx, hb, hml, hown, hts⟩ (fx_X6_isWell_6 l g z I0 (show dkN [(-1, -1)] (I0 340 8) from dkN_sub np0 rfl) hO) (cwV 0 hts gX6_takes_X6_isWell rfl rfl rfl (by decide +kernel) ⟨Nat.le_of_ble_eq_true rfl, Nat.le_of_ble_eq_true rfl⟩) (dk_at340 hW) rfl hK hT hW hS rfl hl.1 rfl (Nat.le_of_ble_eq_true rfl) dX6_takes_1 ⟨Nat.zero_le _, Nat.zero_le _⟩ (fun v1 I1 H1 L1 hp1 hW hS => ?_)
  obtain ⟨hF1, hO, hc1⟩ := hp1
  have hF := dkF_call hF hF1 rfl
  have eI1 : I0 = I1 := (dkF_nil hF1).symm
  subst eI1
  obtain ⟨dv1, f1_340_8, x1_0, xr1, -⟩ := hc1
  have q2 : (I0 340 8).toInt + 1 ≤ (0 : Int) := x1_0
  have xv1 : v1 = 1 := by have h := xr1; exact h
  refine lv_if_ne (tgt := 9) hx hb dX6_takes_4 (by decide) (fun c3 => ?_) (fun c3 => ?_)
  ·
    refine lv_iload_n hx hb dX6_takes_9 rfl (lv_at hl 1 rfl) ?_
    refine lv_if_ne (tgt := 28) hx hb dX6_takes_10 (by decide) (fun c4 => ?_) (fun c4 => ?_)
    ·
      have q5 : p0.toInt ≠ (0 : Int) := (dk_ne c4)
      refine lv_aload_n hx hb dX6_takes_28 rfl (lv_at hl 0 rfl) ?_
      refine dk_get (k := 340) hx hb hts iX6_takes_6 hown hK (dk_at340 hW) rfl 12 (by decide) (hts (.fieldLink RX6 95 "DogKingsModel" "value" "I") (List.mem_of_getElem? (i := 4) rfl)) rfl dX6_takes_29 ?_
      refine lv_topi (fun v6 ev6 => ?_)
      have xv6 : v6 = I0 340 12 := ev6.trans rfl
      refine lv_istore_n (lv' := [(3, .int v6), (0, .ref (z + 340)), (1, .int p0), (2, .int p1)]) hx hb dX6_takes_32 rfl hl (by decide) rfl (fun ls hl => ?_)
      refine lv_aload_n hx hb dX6_takes_33 rfl (lv_at hl 1 rfl) ?_
      refine dk_Vv (As := []) (rest := []) ⟨hx, hb, hml, hown, hts⟩ (fx_X6_advances_1 l g z I0 hO) (cwV 0 hts gX6_takes_X6_advances rfl rfl rfl (by decide +kernel) ⟨Nat.le_of_ble_eq_true rfl, Nat.le_of_ble_eq_true rfl⟩) (dk_at340 hW) rfl hK hT hW hS rfl hl.1 rfl (Nat.le_of_ble_eq_true rfl) dX6_takes_34 ⟨Nat.zero_le _, Nat.zero_le _⟩ (fun I7 H7 L7 hp7 hW hS => ?_)
      obtain ⟨hF7, hO, hc7⟩ := hp7
      have hF := dkF_call hF hF7 rfl
      obtain ⟨f7_340_11, xh7_0, xh7_1, xh7_2, xh7_3, -⟩ := hc7
      have y8 : I7 340 9 = dkTe (I0 345) (I0 340 6) (I0 340 9) := by have h := xh7_0; exact h
      have y9 : I7 340 10 = I0 340 9 := by have h := xh7_1; exact h
      have y10 : I7 340 11 = dkTk (I0 345) (I0 340 6) (I0 340 9) := by have h := xh7_2; exact h
      have y11 : I7 340 12 = dkTv (I0 345) (I0 340 6) (I0 340 9) := by have h := xh7_3; exact h
      refine lv_iload_n hx hb dX6_takes_37 rfl (lv_at hl 0 rfl) ?_
      exact W.iret (v := v6) hx hb hr (fun t ht hW9 => ⟨⟨v6, I7, rfl, ⟨hF, hO, ⟨trivial, (show dkN [(0, 5)] (I7 340 11) from dkN_sub f7_340_11 rfl), (show dkN [(-1, -1)] (I7 340 8) from dkN_sub (by rw [hF7 340 8 rfl]; exact f1_340_8) rfl), q2, q5, xv6, ((hF7 340 7 rfl).trans rfl), ((hF7 340 8 rfl).trans rfl), y8, y9, y10, y11, trivial⟩⟩, dkW_eq ht hW⟩, hS.F ht⟩) hS.2.2 dX6_takes_38
    ·
      exact (dkN_nil (show dkN [] p0 from dkN_eq1 dp0 (dkN_lit (x := 0) (0) rfl) (congrArg Int32.toInt c4) rfl)).elim
  ·
    exact (dkN_nil (show dkN [] v1 from dkN_eq1 dv1 (dkN_lit (x := 0) (0) rfl) (congrArg Int32.toInt c3) rfl)).elim
set_option maxHeartbeats 4000000 in
set_option maxRecDepth 100000 in
theorem fx_X6_in_29 (l : Launch) (g : dkG) (z : Nat) (I0 : dkI) (p0 : Int32) (p1 : Int32) (p2 : Int32) (dp1 : dkN [(1, 1)] p1) (dp2 : dkN [(30, 30)] p2)  (hO : dkOk I0) : Met l yX6_in wsX6_in (dkR 0) (dkPc g z [.int p0, .int p1, .int p2] I0) (dkQi g z (fun r I1 => dkF [] I0 I1 ∧ dkOk I1 ∧ ((dkN [(0, 0)] r ∧ dkN [(-2147483648, 0)] p0 ∧ p0.toInt + 1 ≤ p1.toInt ∧ r = 0 ∧ True) ∨ (dkN [(0, 0)] r ∧ dkN [(31, 2147483647)] p0 ∧ p1.toInt + 0 ≤ p0.toInt ∧ p2.toInt + 1 ≤ p0.toInt ∧ r = 0 ∧ True) ∨ (dkN [(1, 1)] r ∧ dkN [(1, 30)] p0 ∧ p1.toInt + 0 ≤ p0.toInt ∧ p0.toInt + 0 ≤ p2.toInt ∧ r = 1 ∧ True)))) 0 0 (dkA z) := by
  refine Met.ofW (cc := cX6_in) (maxL := 3) (ret := (some .boolean)) (by decide) rfl ?_
  intro p e s m args below meth c s₁ B hml hv
  obtain ⟨ha, hW, hK, hT⟩ := hv
  have hx := B.exec
  have hb := B.bytes
  have hr := B.returns
  have hts := atoms_spec (ws := wsX6_in) B.pre
  have hown : s.vm.findClass RX6 = some m.cls := findClass_of_methodNamed B.named
  have hlocks := B.notSynchronized
  have hS : va_S (dkA z) s.heap s.heap [] := va_S.rf
  have hF : dkF [] I0 I0 := dkF_rf _ _
  have hl := lv_entry ([.int p0, .int p1, .int p2]) (n := 3) (Nat.le_of_ble_eq_true rfl)
  have hgo : entryFrame m args 3 = entryFrame m ([.int p0, .int p1, .int p2] : List Value).toArray 3 := by rw [ha]
  rw [hgo, lg_entry_eq]
  generalize (lg_sl ([.int p0, .int p1, .int p2]) ++ List.replicate (3 - (lg_sl ([.int p0, .int p1, .int p2])).length) Slot.unset).toArray = ls at hl ⊢
  have hl : lv_has ls 3 [(0, .int p0), (1, .int p1), (2, .int p2)] := hl
  refine lv_iload_n hx hb dX6_in_0 rfl (lv_at hl 0 rfl) ?_
  refine lv_iload_n hx hb dX6_in_1 rfl (lv_at hl 1 rfl) ?_
  refine lv_icmp_lt (tgt := 14) hx hb dX6_in_2 (by decide) (fun c1 => ?_) (fun c1 => ?_)
  ·
    have q2 : p0.toInt + 1 ≤ p1.toInt := (dkc_lt c1)
    have d3 : dkN [(-2147483648, 0)] p0 := dkN_le1 1 (dkN_top p0) dp1 (dkc_lt c1) rfl
    refine lv_iconst (v := 0) hx hb dX6_in_14 (by decide) ?_
    exact W.zret (v := 0) (ty := .boolean) hx hb hr rfl (fun t ht hW9 => ⟨⟨0, I0, rfl, ⟨hF, hO, Or.inl ⟨dkN_sub (dkN_lit (x := 0) (0) rfl) rfl, dkN_sub d3 rfl, q2, rfl, trivial⟩⟩, dkW_eq ht hW⟩, hS.F ht⟩) hS.2.2 dX6_in_15
  ·
    have q4 : p1.toInt + 0 ≤ p0.toInt := (dkc_nlt c1)
    have d5 : dkN [(1, 2147483647)] p0 := dkN_le2 0 dp1 (dkN_top p0) (dkc_nlt c1) rfl
    refine lv_iload_n hx hb dX6_in_5 rfl (lv_at hl 0 rfl) ?_
    refine lv_iload_n hx hb dX6_in_6 rfl (lv_at hl 2 rfl) ?_
    refine lv_icmp_gt (tgt := 14) hx hb dX6_in_7 (by decide) (fun c6 => ?_) (fun c6 => ?_)
    ·
      have q7 : p2.toInt + 1 ≤ p0.toInt := (dkc_lt c6)
      have d8 : dkN [(31, 2147483647)] p0 := dkN_le2 1 dp2 d5 (dkc_lt c6) rfl
      refine lv_iconst (v := 0) hx hb dX6_in_14 (by decide) ?_
      exact W.zret (v := 0) (ty := .boolean) hx hb hr rfl (fun t ht hW9 => ⟨⟨0, I0, rfl, ⟨hF, hO, Or.inr (Or.inl ⟨dkN_sub (dkN_lit (x := 0) (0) rfl) rfl, dkN_sub d8 rfl, q4, q7, rfl, trivial⟩)⟩, dkW_eq ht hW⟩, hS.F ht⟩) hS.2.2 dX6_in_15
    ·
      have q9 : p0.toInt + 0 ≤ p2.toInt := (dkc_nlt c6)
      have d10 : dkN [(1, 30)] p0 := dkN_le1 0 d5 dp2 (dkc_nlt c6) rfl
      refine lv_iconst (v := 1) hx hb dX6_in_10 (by decide) ?_
      refine lv_goto (tgt := 15) hx hb dX6_in_11 (by decide) ?_
      exact W.zret (v := 1) (ty := .boolean) hx hb hr rfl (fun t ht hW9 => ⟨⟨1, I0, rfl, ⟨hF, hO, Or.inr (Or.inr (⟨dkN_sub (dkN_lit (x := 1) (1) rfl) rfl, dkN_sub d10 rfl, q4, q9, rfl, trivial⟩))⟩, dkW_eq ht hW⟩, hS.F ht⟩) hS.2.2 dX6_in_15
set_option maxHeartbeats 4000000 in
set_option maxRecDepth 100000 in
theorem fx_X6_takes_39 (l : Launch) (g : dkG) (z : Nat) (I0 : dkI) (p0 : Int32) (p1 : Int32) (dp0 : dkN [(0, 0)] p0) (dp1 : dkN [(2, 2)] p1) (np0 : dkN [(-2147483648, 0)] (I0 340 12)) (np1 : dkN [(-1, -1)] (I0 340 8))  (hO : dkOk I0) : Met l yX6_takes wsX6_takes (dkR 1) (dkPc g z [.ref (z + 340), .int p0, .int p1] I0) (dkQi g z (fun r I1 => dkF [(340, 340, 7, 8)] I0 I1 ∧ dkOk I1 ∧ ((dkN [(0, 0)] r ∧ dkN [(-2147483648, 0)] (I1 340 12) ∧ dkN [(2, 2)] (I1 340 7) ∧ dkN [(0, 90)] (I1 340 8) ∧ (I0 340 8).toInt + 1 ≤ (0 : Int) ∧ p0.toInt = (0 : Int) ∧ r = 0 ∧ I1 340 7 = p1 ∧ I1 340 8 = I0 340 10 ∧ I1 340 9 = I0 340 9 ∧ I1 340 10 = I0 340 10 ∧ I1 340 11 = I0 340 11 ∧ I1 340 12 = I0 340 12 ∧ True)))) 0 0 (dkA z) := by
  refine Met.ofW (cc := cX6_takes) (maxL := 4) (ret := (some .int)) (by decide) rfl ?_
  intro p e s m args below meth c s₁ B hml hv
  obtain ⟨ha, hW, hK, hT⟩ := hv
  have hx := B.exec
  have hb := B.bytes
  have hr := B.returns
  have hts := atoms_spec (ws := wsX6_takes) B.pre
  have hown : s.vm.findClass RX6 = some m.cls := findClass_of_methodNamed B.named
  have hlocks := B.notSynchronized
  have hS : va_S (dkA z) s.heap s.heap [] := va_S.rf
  have hF : dkF [(340, 340, 7, 8)] I0 I0 := dkF_rf _ _
  have hl := lv_entry ([.ref (z + 340), .int p0, .int p1]) (n := 4) (Nat.le_of_ble_eq_true rfl)
  have hgo : entryFrame m args 4 = entryFrame m ([.ref (z + 340), .int p0, .int p1] : List Value).toArray 4 := by rw [ha]
  rw [hgo, lg_entry_eq]
  generalize (lg_sl ([.ref (z + 340), .int p0, .int p1]) ++ List.replicate (4 - (lg_sl ([.ref (z + 340), .int p0, .int p1])).length) Slot.unset).toArray = ls at hl ⊢
  have hl : lv_has ls 4 [(0, .ref (z + 340)), (1, .int p0), (2, .int p1)] := hl
  refine lv_aload_n hx hb dX6_takes_0 rfl (lv_at hl 0 rfl) ?_
  refine dk_Vi (As := []) (rest := []) ⟨hx, hb, hml, hown, hts⟩ (fx_X6_isWell_6 l g z I0 (show dkN [(-1, -1)] (I0 340 8) from dkN_sub np1 rfl) hO) (cwV 0 hts gX6_takes_X6_isWell rfl rfl rfl (by decide +kernel) ⟨Nat.le_of_ble_eq_true rfl, Nat.le_of_ble_eq_true rfl⟩) (dk_at340 hW) rfl hK hT hW hS rfl hl.1 rfl (Nat.le_of_ble_eq_true rfl) dX6_takes_1 ⟨Nat.zero_le _, Nat.zero_le _⟩ (fun v1 I1 H1 L1 hp1 hW hS => ?_)
  obtain ⟨hF1, hO, hc1⟩ := hp1
  have hF := dkF_call hF hF1 rfl
  have eI1 : I0 = I1 := (dkF_nil hF1).symm
  subst eI1
  obtain ⟨dv1, f1_340_8, x1_0, xr1, -⟩ := hc1
  have q2 : (I0 340 8).toInt + 1 ≤ (0 : Int) := x1_0
  have xv1 : v1 = 1 := by have h := xr1; exact h
  refine lv_if_ne (tgt := 9) hx hb dX6_takes_4 (by decide) (fun c3 => ?_) (fun c3 => ?_)
  ·
    refine lv_iload_n hx hb dX6_takes_9 rfl (lv_at hl 1 rfl) ?_
    refine lv_if_ne (tgt := 28) hx hb dX6_takes_10 (by decide) (fun c4 => ?_) (fun c4 => ?_)
    ·
      exact (dkN_nil (show dkN [] p0 from dkN_ne1 (0) dp0 (dkN_lit (x := 0) (0) rfl) (dk_ne c4) rfl)).elim
    ·
      have q5 : p0.toInt = (0 : Int) := (congrArg Int32.toInt c4)
      refine lv_aload_n hx hb dX6_takes_13 rfl (lv_at hl 0 rfl) ?_
      refine lv_aload_n hx hb dX6_takes_14 rfl (lv_at hl 0 rfl) ?_
      refine dk_get (k := 340) hx hb hts iX6_takes_6 hown hK (dk_at340 hW) rfl 10 (by decide) (hts (.fieldLink RX6 89 "DogKingsModel" "start" "I") (List.mem_of_getElem? (i := 1) rfl)) rfl dX6_takes_15 ?_
      refine lv_topi (fun v6 ev6 => ?_)
      have dv6 : dkN [(0, 90)] v6 := by rw [ev6]; exact (hO 340 10)
      have xv6 : v6 = I0 340 10 := ev6.trans rfl
      refine dk_put (k := 340) hx hb hts iX6_takes_6 tyX6 tyX6_ok nmX6 hown hK hW (dk_at340 hW) hS rfl 8 (by decide) (hts (.fieldLink RX6 101 "DogKingsModel" "faultPlace" "I") (List.mem_of_getElem? (i := 2) rfl)) rfl rfl (Nat.le_of_ble_eq_true rfl) rfl dX6_takes_18 (fun I7 H7 L7 eI7 hW hS => ?_)
      have eI7 : I7 = dkU I0 340 8 v6 := eI7
      have hO := dkO_set hO eI7 (dkN_sub dv6 rfl)
      have hF := dkF_set hF eI7 rfl
      refine lv_aload_n hx hb dX6_takes_21 rfl (lv_at hl 0 rfl) ?_
      refine lv_iload_n hx hb dX6_takes_22 rfl (lv_at hl 2 rfl) ?_
      refine dk_put (k := 340) hx hb hts iX6_takes_6 tyX6 tyX6_ok nmX6 hown hK hW (dk_at340 hW) hS rfl 7 (by decide) (hts (.fieldLink RX6 108 "DogKingsModel" "faultKind" "I") (List.mem_of_getElem? (i := 3) rfl)) rfl rfl (Nat.le_of_ble_eq_true rfl) rfl dX6_takes_23 (fun I8 H8 L8 eI8 hW hS => ?_)
      have eI8 : I8 = dkU I7 340 7 p1 := eI8
      have hO := dkO_set hO eI8 (dkN_sub dp1 rfl)
      have hF := dkF_set hF eI8 rfl
      refine lv_iconst (v := 0) hx hb dX6_takes_26 (by decide) ?_
      exact W.iret (v := 0) hx hb hr (fun t ht hW9 => ⟨⟨0, I8, rfl, ⟨hF, hO, ⟨dkN_sub (dkN_lit (x := 0) (0) rfl) rfl, (show dkN [(-2147483648, 0)] (I8 340 12) from dkN_sub (by rw [eI8, dkU_sn (by decide)]; exact (by rw [eI7, dkU_sn (by decide)]; exact (by rw [hF1 340 12 rfl]; exact np0))) rfl), (show dkN [(2, 2)] (I8 340 7) from dkN_sub (by rw [eI8, dkU_ss]; exact dp1) rfl), (show dkN [(0, 90)] (I8 340 8) from dkN_sub (by rw [eI8, dkU_sn (by decide)]; exact (by rw [eI7, dkU_ss]; exact dv6)) rfl), q2, q5, rfl, (by rw [eI8, dkU_ss]), ((by rw [eI8, dkU_sn (by decide)] : I8 340 8 = _).trans (by rw [eI7, dkU_ss, xv6])), ((by rw [eI8, dkU_sn (by decide)] : I8 340 9 = _).trans ((by rw [eI7, dkU_sn (by decide)] : I7 340 9 = _).trans rfl)), ((by rw [eI8, dkU_sn (by decide)] : I8 340 10 = _).trans ((by rw [eI7, dkU_sn (by decide)] : I7 340 10 = _).trans rfl)), ((by rw [eI8, dkU_sn (by decide)] : I8 340 11 = _).trans ((by rw [eI7, dkU_sn (by decide)] : I7 340 11 = _).trans rfl)), ((by rw [eI8, dkU_sn (by decide)] : I8 340 12 = _).trans ((by rw [eI7, dkU_sn (by decide)] : I7 340 12 = _).trans rfl)), trivial⟩⟩, dkW_eq ht hW⟩, hS.F ht⟩) hS.2.2 dX6_takes_27
  ·
    exact (dkN_nil (show dkN [] v1 from dkN_eq1 dv1 (dkN_lit (x := 0) (0) rfl) (congrArg Int32.toInt c3) rfl)).elim
set_option maxHeartbeats 4000000 in
set_option maxRecDepth 100000 in
theorem fx_X6_takes_40 (l : Launch) (g : dkG) (z : Nat) (I0 : dkI) (p0 : Int32) (p1 : Int32) (dp0 : dkN [(0, 0)] p0) (dp1 : dkN [(2, 2)] p1) (np0 : dkN [(31, 2147483647)] (I0 340 12)) (np1 : dkN [(-1, -1)] (I0 340 8))  (hO : dkOk I0) : Met l yX6_takes wsX6_takes (dkR 1) (dkPc g z [.ref (z + 340), .int p0, .int p1] I0) (dkQi g z (fun r I1 => dkF [(340, 340, 7, 8)] I0 I1 ∧ dkOk I1 ∧ ((dkN [(0, 0)] r ∧ dkN [(31, 2147483647)] (I1 340 12) ∧ dkN [(2, 2)] (I1 340 7) ∧ dkN [(0, 90)] (I1 340 8) ∧ (I0 340 8).toInt + 1 ≤ (0 : Int) ∧ p0.toInt = (0 : Int) ∧ r = 0 ∧ I1 340 7 = p1 ∧ I1 340 8 = I0 340 10 ∧ I1 340 9 = I0 340 9 ∧ I1 340 10 = I0 340 10 ∧ I1 340 11 = I0 340 11 ∧ I1 340 12 = I0 340 12 ∧ True)))) 0 0 (dkA z) := by
  refine Met.ofW (cc := cX6_takes) (maxL := 4) (ret := (some .int)) (by decide) rfl ?_
  intro p e s m args below meth c s₁ B hml hv
  obtain ⟨ha, hW, hK, hT⟩ := hv
  have hx := B.exec
  have hb := B.bytes
  have hr := B.returns
  have hts := atoms_spec (ws := wsX6_takes) B.pre
  have hown : s.vm.findClass RX6 = some m.cls := findClass_of_methodNamed B.named
  have hlocks := B.notSynchronized
  have hS : va_S (dkA z) s.heap s.heap [] := va_S.rf
  have hF : dkF [(340, 340, 7, 8)] I0 I0 := dkF_rf _ _
  have hl := lv_entry ([.ref (z + 340), .int p0, .int p1]) (n := 4) (Nat.le_of_ble_eq_true rfl)
  have hgo : entryFrame m args 4 = entryFrame m ([.ref (z + 340), .int p0, .int p1] : List Value).toArray 4 := by rw [ha]
  rw [hgo, lg_entry_eq]
  generalize (lg_sl ([.ref (z + 340), .int p0, .int p1]) ++ List.replicate (4 - (lg_sl ([.ref (z + 340), .int p0, .int p1])).length) Slot.unset).toArray = ls at hl ⊢
  have hl : lv_has ls 4 [(0, .ref (z + 340)), (1, .int p0), (2, .int p1)] := hl
  refine lv_aload_n hx hb dX6_takes_0 rfl (lv_at hl 0 rfl) ?_
  refine dk_Vi (As := []) (rest := []) ⟨hx, hb, hml, hown, hts⟩ (fx_X6_isWell_6 l g z I0 (show dkN [(-1, -1)] (I0 340 8) from dkN_sub np1 rfl) hO) (cwV 0 hts gX6_takes_X6_isWell rfl rfl rfl (by decide +kernel) ⟨Nat.le_of_ble_eq_true rfl, Nat.le_of_ble_eq_true rfl⟩) (dk_at340 hW) rfl hK hT hW hS rfl hl.1 rfl (Nat.le_of_ble_eq_true rfl) dX6_takes_1 ⟨Nat.zero_le _, Nat.zero_le _⟩ (fun v1 I1 H1 L1 hp1 hW hS => ?_)
  obtain ⟨hF1, hO, hc1⟩ := hp1
  have hF := dkF_call hF hF1 rfl
  have eI1 : I0 = I1 := (dkF_nil hF1).symm
  subst eI1
  obtain ⟨dv1, f1_340_8, x1_0, xr1, -⟩ := hc1
  have q2 : (I0 340 8).toInt + 1 ≤ (0 : Int) := x1_0
  have xv1 : v1 = 1 := by have h := xr1; exact h
  refine lv_if_ne (tgt := 9) hx hb dX6_takes_4 (by decide) (fun c3 => ?_) (fun c3 => ?_)
  ·
    refine lv_iload_n hx hb dX6_takes_9 rfl (lv_at hl 1 rfl) ?_
    refine lv_if_ne (tgt := 28) hx hb dX6_takes_10 (by decide) (fun c4 => ?_) (fun c4 => ?_)
    ·
      exact (dkN_nil (show dkN [] p0 from dkN_ne1 (0) dp0 (dkN_lit (x := 0) (0) rfl) (dk_ne c4) rfl)).elim
    ·
      have q5 : p0.toInt = (0 : Int) := (congrArg Int32.toInt c4)
      refine lv_aload_n hx hb dX6_takes_13 rfl (lv_at hl 0 rfl) ?_
      refine lv_aload_n hx hb dX6_takes_14 rfl (lv_at hl 0 rfl) ?_
      refine dk_get (k := 340) hx hb hts iX6_takes_6 hown hK (dk_at340 hW) rfl 10 (by decide) (hts (.fieldLink RX6 89 "DogKingsModel" "start" "I") (List.mem_of_getElem? (i := 1) rfl)) rfl dX6_takes_15 ?_
      refine lv_topi (fun v6 ev6 => ?_)
      have dv6 : dkN [(0, 90)] v6 := by rw [ev6]; exact (hO 340 10)
      have xv6 : v6 = I0 340 10 := ev6.trans rfl
      refine dk_put (k := 340) hx hb hts iX6_takes_6 tyX6 tyX6_ok nmX6 hown hK hW (dk_at340 hW) hS rfl 8 (by decide) (hts (.fieldLink RX6 101 "DogKingsModel" "faultPlace" "I") (List.mem_of_getElem? (i := 2) rfl)) rfl rfl (Nat.le_of_ble_eq_true rfl) rfl dX6_takes_18 (fun I7 H7 L7 eI7 hW hS => ?_)
      have eI7 : I7 = dkU I0 340 8 v6 := eI7
      have hO := dkO_set hO eI7 (dkN_sub dv6 rfl)
      have hF := dkF_set hF eI7 rfl
      refine lv_aload_n hx hb dX6_takes_21 rfl (lv_at hl 0 rfl) ?_
      refine lv_iload_n hx hb dX6_takes_22 rfl (lv_at hl 2 rfl) ?_
      refine dk_put (k := 340) hx hb hts iX6_takes_6 tyX6 tyX6_ok nmX6 hown hK hW (dk_at340 hW) hS rfl 7 (by decide) (hts (.fieldLink RX6 108 "DogKingsModel" "faultKind" "I") (List.mem_of_getElem? (i := 3) rfl)) rfl rfl (Nat.le_of_ble_eq_true rfl) rfl dX6_takes_23 (fun I8 H8 L8 eI8 hW hS => ?_)
      have eI8 : I8 = dkU I7 340 7 p1 := eI8
      have hO := dkO_set hO eI8 (dkN_sub dp1 rfl)
      have hF := dkF_set hF eI8 rfl
      refine lv_iconst (v := 0) hx hb dX6_takes_26 (by decide) ?_
      exact W.iret (v := 0) hx hb hr (fun t ht hW9 => ⟨⟨0, I8, rfl, ⟨hF, hO, ⟨dkN_sub (dkN_lit (x := 0) (0) rfl) rfl, (show dkN [(31, 2147483647)] (I8 340 12) from dkN_sub (by rw [eI8, dkU_sn (by decide)]; exact (by rw [eI7, dkU_sn (by decide)]; exact (by rw [hF1 340 12 rfl]; exact np0))) rfl), (show dkN [(2, 2)] (I8 340 7) from dkN_sub (by rw [eI8, dkU_ss]; exact dp1) rfl), (show dkN [(0, 90)] (I8 340 8) from dkN_sub (by rw [eI8, dkU_sn (by decide)]; exact (by rw [eI7, dkU_ss]; exact dv6)) rfl), q2, q5, rfl, (by rw [eI8, dkU_ss]), ((by rw [eI8, dkU_sn (by decide)] : I8 340 8 = _).trans (by rw [eI7, dkU_ss, xv6])), ((by rw [eI8, dkU_sn (by decide)] : I8 340 9 = _).trans ((by rw [eI7, dkU_sn (by decide)] : I7 340 9 = _).trans rfl)), ((by rw [eI8, dkU_sn (by decide)] : I8 340 10 = _).trans ((by rw [eI7, dkU_sn (by decide)] : I7 340 10 = _).trans rfl)), ((by rw [eI8, dkU_sn (by decide)] : I8 340 11 = _).trans ((by rw [eI7, dkU_sn (by decide)] : I7 340 11 = _).trans rfl)), ((by rw [eI8, dkU_sn (by decide)] : I8 340 12 = _).trans ((by rw [eI7, dkU_sn (by decide)] : I7 340 12 = _).trans rfl)), trivial⟩⟩, dkW_eq ht hW⟩, hS.F ht⟩) hS.2.2 dX6_takes_27
  ·
    exact (dkN_nil (show dkN [] v1 from dkN_eq1 dv1 (dkN_lit (x := 0) (0) rfl) (congrArg Int32.toInt c3) rfl)).elim
set_option maxHeartbeats 4000000 in
set_option maxRecDepth 100000 in
theorem fx_X6_takes_41 (l : Launch) (g : dkG) (z : Nat) (I0 : dkI) (p0 : Int32) (p1 : Int32) (dp0 : dkN [(1, 1)] p0) (dp1 : dkN [(2, 2)] p1) (np0 : dkN [(1, 30)] (I0 340 12)) (np1 : dkN [(-1, -1)] (I0 340 8))  (hO : dkOk I0) : Met l yX6_takes wsX6_takes (dkR 2) (dkPc g z [.ref (z + 340), .int p0, .int p1] I0) (dkQi g z (fun r I1 => dkF [(340, 340, 9, 12)] I0 I1 ∧ dkOk I1 ∧ ((dkN [(1, 30)] r ∧ dkN [(0, 5)] (I1 340 11) ∧ dkN [(-1, -1)] (I1 340 8) ∧ (I0 340 8).toInt + 1 ≤ (0 : Int) ∧ p0.toInt ≠ (0 : Int) ∧ r = I0 340 12 ∧ I1 340 7 = I0 340 7 ∧ I1 340 8 = I0 340 8 ∧ I1 340 9 = dkTe (I0 345) (I0 340 6) (I0 340 9) ∧ I1 340 10 = I0 340 9 ∧ I1 340 11 = dkTk (I0 345) (I0 340 6) (I0 340 9) ∧ I1 340 12 = dkTv (I0 345) (I0 340 6) (I0 340 9) ∧ True)))) 0 0 (dkA z) := by
  refine Met.ofW (cc := cX6_takes) (maxL := 4) (ret := (some .int)) (by decide) rfl ?_
  intro p e s m args below meth c s₁ B hml hv
  obtain ⟨ha, hW, hK, hT⟩ := hv
  have hx := B.exec
  have hb := B.bytes
  have hr := B.returns
  have hts := atoms_spec (ws := wsX6_takes) B.pre
  have hown : s.vm.findClass RX6 = some m.cls := findClass_of_methodNamed B.named
  have hlocks := B.notSynchronized
  have hS : va_S (dkA z) s.heap s.heap [] := va_S.rf
  have hF : dkF [(340, 340, 9, 12)] I0 I0 := dkF_rf _ _
  have hl := lv_entry ([.ref (z + 340), .int p0, .int p1]) (n := 4) (Nat.le_of_ble_eq_true rfl)
  have hgo : entryFrame m args 4 = entryFrame m ([.ref (z + 340), .int p0, .int p1] : List Value).toArray 4 := by rw [ha]
  rw [hgo, lg_entry_eq]
  generalize (lg_sl ([.ref (z + 340), .int p0, .int p1]) ++ List.replicate (4 - (lg_sl ([.ref (z + 340), .int p0, .int p1])).length) Slot.unset).toArray = ls at hl ⊢
  have hl : lv_has ls 4 [(0, .ref (z + 340)), (1, .int p0), (2, .int p1)] := hl
  refine lv_aload_n hx hb dX6_takes_0 rfl (lv_at hl 0 rfl) ?_
  refine dk_Vi (As := []) (rest := []) ⟨hx, hb, hml, hown, hts⟩ (fx_X6_isWell_6 l g z I0 (show dkN [(-1, -1)] (I0 340 8) from dkN_sub np1 rfl) hO) (cwV 0 hts gX6_takes_X6_isWell rfl rfl rfl (by decide +kernel) ⟨Nat.le_of_ble_eq_true rfl, Nat.le_of_ble_eq_true rfl⟩) (dk_at340 hW) rfl hK hT hW hS rfl hl.1 rfl (Nat.le_of_ble_eq_true rfl) dX6_takes_1 ⟨Nat.zero_le _, Nat.zero_le _⟩ (fun v1 I1 H1 L1 hp1 hW hS => ?_)
  obtain ⟨hF1, hO, hc1⟩ := hp1
  have hF := dkF_call hF hF1 rfl
  have eI1 : I0 = I1 := (dkF_nil hF1).symm
  subst eI1
  obtain ⟨dv1, f1_340_8, x1_0, xr1, -⟩ := hc1
  have q2 : (I0 340 8).toInt + 1 ≤ (0 : Int) := x1_0
  have xv1 : v1 = 1 := by have h := xr1; exact h
  refine lv_if_ne (tgt := 9) hx hb dX6_takes_4 (by decide) (fun c3 => ?_) (fun c3 => ?_)
  ·
    refine lv_iload_n hx hb dX6_takes_9 rfl (lv_at hl 1 rfl) ?_
    refine lv_if_ne (tgt := 28) hx hb dX6_takes_10 (by decide) (fun c4 => ?_) (fun c4 => ?_)
    ·
      have q5 : p0.toInt ≠ (0 : Int) := (dk_ne c4)
      refine lv_aload_n hx hb dX6_takes_28 rfl (lv_at hl 0 rfl) ?_
      refine dk_get (k := 340) hx hb hts iX6_takes_6 hown hK (dk_at340 hW) rfl 12 (by decide) (hts (.fieldLink RX6 95 "DogKingsModel" "value" "I") (List.mem_of_getElem? (i := 4) rfl)) rfl dX6_takes_29 ?_
      refine lv_topi (fun v6 ev6 => ?_)
      have dv6 : dkN [(1, 30)] v6 := by rw [ev6]; exact (by rw [hF1 340 12 rfl]; exact np0)
      have xv6 : v6 = I0 340 12 := ev6.trans rfl
      refine lv_istore_n (lv' := [(3, .int v6), (0, .ref (z + 340)), (1, .int p0), (2, .int p1)]) hx hb dX6_takes_32 rfl hl (by decide) rfl (fun ls hl => ?_)
      refine lv_aload_n hx hb dX6_takes_33 rfl (lv_at hl 1 rfl) ?_
      refine dk_Vv (As := []) (rest := []) ⟨hx, hb, hml, hown, hts⟩ (fx_X6_advances_1 l g z I0 hO) (cwV 0 hts gX6_takes_X6_advances rfl rfl rfl (by decide +kernel) ⟨Nat.le_of_ble_eq_true rfl, Nat.le_of_ble_eq_true rfl⟩) (dk_at340 hW) rfl hK hT hW hS rfl hl.1 rfl (Nat.le_of_ble_eq_true rfl) dX6_takes_34 ⟨Nat.zero_le _, Nat.zero_le _⟩ (fun I7 H7 L7 hp7 hW hS => ?_)
      obtain ⟨hF7, hO, hc7⟩ := hp7
      have hF := dkF_call hF hF7 rfl
      obtain ⟨f7_340_11, xh7_0, xh7_1, xh7_2, xh7_3, -⟩ := hc7
      have y8 : I7 340 9 = dkTe (I0 345) (I0 340 6) (I0 340 9) := by have h := xh7_0; exact h
      have y9 : I7 340 10 = I0 340 9 := by have h := xh7_1; exact h
      have y10 : I7 340 11 = dkTk (I0 345) (I0 340 6) (I0 340 9) := by have h := xh7_2; exact h
      have y11 : I7 340 12 = dkTv (I0 345) (I0 340 6) (I0 340 9) := by have h := xh7_3; exact h
      refine lv_iload_n hx hb dX6_takes_37 rfl (lv_at hl 0 rfl) ?_
      exact W.iret (v := v6) hx hb hr (fun t ht hW9 => ⟨⟨v6, I7, rfl, ⟨hF, hO, ⟨dkN_sub dv6 rfl, (show dkN [(0, 5)] (I7 340 11) from dkN_sub f7_340_11 rfl), (show dkN [(-1, -1)] (I7 340 8) from dkN_sub (by rw [hF7 340 8 rfl]; exact f1_340_8) rfl), q2, q5, xv6, ((hF7 340 7 rfl).trans rfl), ((hF7 340 8 rfl).trans rfl), y8, y9, y10, y11, trivial⟩⟩, dkW_eq ht hW⟩, hS.F ht⟩) hS.2.2 dX6_takes_38
    ·
      exact (dkN_nil (show dkN [] p0 from dkN_eq1 dp0 (dkN_lit (x := 0) (0) rfl) (congrArg Int32.toInt c4) rfl)).elim
  ·
    exact (dkN_nil (show dkN [] v1 from dkN_eq1 dv1 (dkN_lit (x := 0) (0) rfl) (congrArg Int32.toInt c3) rfl)).elim
set_option maxHeartbeats 4000000 in
set_option maxRecDepth 100000 in
theorem fx_X6_figure_11 (l : Launch) (g : dkG) (z : Nat) (I0 : dkI) (p0 : Int32) (p1 : Int32) (dp0 : dkN [(1, 1)] p0) (dp1 : dkN [(30, 30)] p1) (np0 : dkN [(-1, -1)] (I0 340 8))  (hO : dkOk I0) : Met l yX6_figure wsX6_figure (dkR 3) (dkPc g z [.ref (z + 340), .int p0, .int p1] I0) (dkQi g z (fun r I1 => dkF [(340, 340, 7, 12)] I0 I1 ∧ dkOk I1 ∧ ((dkN [(0, 0)] r ∧ dkN [(2, 2)] (I1 340 11) ∧ dkN [(-2147483648, 0)] (I1 340 12) ∧ dkN [(2, 2)] (I1 340 7) ∧ dkN [(0, 90)] (I1 340 8) ∧ (I0 340 8).toInt + 1 ≤ (0 : Int) ∧ (I0 340 11).toInt = (2 : Int) ∧ (I0 340 12).toInt + 1 ≤ p0.toInt ∧ r = 0 ∧ I1 340 7 = 2 ∧ I1 340 8 = I0 340 10 ∧ I1 340 9 = I0 340 9 ∧ I1 340 10 = I0 340 10 ∧ I1 340 11 = I0 340 11 ∧ I1 340 12 = I0 340 12 ∧ True) ∨ (dkN [(0, 0)] r ∧ dkN [(2, 2)] (I1 340 11) ∧ dkN [(31, 2147483647)] (I1 340 12) ∧ dkN [(2, 2)] (I1 340 7) ∧ dkN [(0, 90)] (I1 340 8) ∧ (I0 340 8).toInt + 1 ≤ (0 : Int) ∧ (I0 340 11).toInt = (2 : Int) ∧ p0.toInt + 0 ≤ (I0 340 12).toInt ∧ p1.toInt + 1 ≤ (I0 340 12).toInt ∧ r = 0 ∧ I1 340 7 = 2 ∧ I1 340 8 = I0 340 10 ∧ I1 340 9 = I0 340 9 ∧ I1 340 10 = I0 340 10 ∧ I1 340 11 = I0 340 11 ∧ I1 340 12 = I0 340 12 ∧ True) ∨ (dkN [(1, 30)] r ∧ dkN [(0, 5)] (I1 340 11) ∧ dkN [(-1, -1)] (I1 340 8) ∧ (I0 340 8).toInt + 1 ≤ (0 : Int) ∧ (I0 340 11).toInt = (2 : Int) ∧ p0.toInt + 0 ≤ (I0 340 12).toInt ∧ (I0 340 12).toInt + 0 ≤ p1.toInt ∧ r = I0 340 12 ∧ I1 340 7 = I0 340 7 ∧ I1 340 8 = I0 340 8 ∧ I1 340 9 = dkTe (I0 345) (I0 340 6) (I0 340 9) ∧ I1 340 10 = I0 340 9 ∧ I1 340 11 = dkTk (I0 345) (I0 340 6) (I0 340 9) ∧ I1 340 12 = dkTv (I0 345) (I0 340 6) (I0 340 9) ∧ True) ∨ (dkN [(0, 0)] r ∧ dkN [(-2147483648, 1), (3, 2147483647)] (I1 340 11) ∧ dkN [(1, 1)] (I1 340 7) ∧ dkN [(0, 90)] (I1 340 8) ∧ (I0 340 8).toInt + 1 ≤ (0 : Int) ∧ (I0 340 11).toInt ≠ (2 : Int) ∧ r = 0 ∧ I1 340 7 = 1 ∧ I1 340 8 = I0 340 10 ∧ I1 340 9 = I0 340 9 ∧ I1 340 10 = I0 340 10 ∧ I1 340 11 = I0 340 11 ∧ I1 340 12 = I0 340 12 ∧ True)))) 0 0 (dkA z) := by
  refine Met.ofW (cc := cX6_figure) (maxL := 3) (ret := (some .int)) (by decide) rfl ?_
  intro p e s m args below meth c s₁ B hml hv
  obtain ⟨ha, hW, hK, hT⟩ := hv
  have hx := B.exec
  have hb := B.bytes
  have hr := B.returns
  have hts := atoms_spec (ws := wsX6_figure) B.pre
  have hown : s.vm.findClass RX6 = some m.cls := findClass_of_methodNamed B.named
  have hlocks := B.notSynchronized
  have hS : va_S (dkA z) s.heap s.heap [] := va_S.rf
  have hF : dkF [(340, 340, 7, 12)] I0 I0 := dkF_rf _ _
  have hl := lv_entry ([.ref (z + 340), .int p0, .int p1]) (n := 3) (Nat.le_of_ble_eq_true rfl)
  have hgo : entryFrame m args 3 = entryFrame m ([.ref (z + 340), .int p0, .int p1] : List Value).toArray 3 := by rw [ha]
  rw [hgo, lg_entry_eq]
  generalize (lg_sl ([.ref (z + 340), .int p0, .int p1]) ++ List.replicate (3 - (lg_sl ([.ref (z + 340), .int p0, .int p1])).length) Slot.unset).toArray = ls at hl ⊢
  have hl : lv_has ls 3 [(0, .ref (z + 340)), (1, .int p0), (2, .int p1)] := hl
  refine lv_aload_n hx hb dX6_figure_0 rfl (lv_at hl 0 rfl) ?_
  refine dk_Vi (As := []) (rest := []) ⟨hx, hb, hml, hown, hts⟩ (fx_X6_isWell_6 l g z I0 (show dkN [(-1, -1)] (I0 340 8) from dkN_sub np0 rfl) hO) (cwV 0 hts gX6_figure_X6_isWell rfl rfl rfl (by decide +kernel) ⟨Nat.le_of_ble_eq_true rfl, Nat.le_of_ble_eq_true rfl⟩) (dk_at340 hW) rfl hK hT hW hS rfl hl.1 rfl (Nat.le_of_ble_eq_true rfl) dX6_figure_1 ⟨Nat.zero_le _, Nat.zero_le _⟩ (fun v1 I1 H1 L1 hp1 hW hS => ?_)
  obtain ⟨hF1, hO, hc1⟩ := hp1
  have hF := dkF_call hF hF1 rfl
  have eI1 : I0 = I1 := (dkF_nil hF1).symm
  subst eI1
  obtain ⟨dv1, f1_340_8, x1_0, xr1, -⟩ := hc1
  have q2 : (I0 340 8).toInt + 1 ≤ (0 : Int) := x1_0
  have xv1 : v1 = 1 := by have h := xr1; exact h
  refine lv_if_eq (tgt := 22) hx hb dX6_figure_4 (by decide) (fun c3 => ?_) (fun c3 => ?_)
  ·
    exact (dkN_nil (show dkN [] v1 from dkN_eq1 dv1 (dkN_lit (x := 0) (0) rfl) (congrArg Int32.toInt c3) rfl)).elim
  ·
    refine lv_aload_n hx hb dX6_figure_7 rfl (lv_at hl 0 rfl) ?_
    refine dk_get (k := 340) hx hb hts iX6_figure_6 hown hK (dk_at340 hW) rfl 11 (by decide) (hts (.fieldLink RX6 98 "DogKingsModel" "token" "I") (List.mem_of_getElem? (i := 1) rfl)) rfl dX6_figure_8 ?_
    refine lv_topi (fun v4 ev4 => ?_)
    have xv4 : v4 = I0 340 11 := ev4.trans rfl
    refine lv_iconst (v := 2) hx hb dX6_figure_11 (by decide) ?_
    refine lv_icmp_eq (tgt := 22) hx hb dX6_figure_12 (by decide) (fun c5 => ?_) (fun c5 => ?_)
    ·
      have q6 : (I0 340 11).toInt = (2 : Int) := by first | (rw [← xv4]; exact (congrArg Int32.toInt c5)) | (subst xv4; exact (congrArg Int32.toInt c5))
      have d7 : dkN [(2, 2)] v4 := dkN_eq1 (dkN_top v4) (dkN_lit (x := 2) (2) rfl) (congrArg Int32.toInt c5) rfl
      have f8 : dkN [(2, 2)] (I0 340 11) := by rw [← ev4]; exact d7
      refine lv_aload_n hx hb dX6_figure_22 rfl (lv_at hl 0 rfl) ?_
      refine lv_aload_n hx hb dX6_figure_23 rfl (lv_at hl 0 rfl) ?_
      refine dk_get (k := 340) hx hb hts iX6_figure_6 hown hK (dk_at340 hW) rfl 12 (by decide) (hts (.fieldLink RX6 95 "DogKingsModel" "value" "I") (List.mem_of_getElem? (i := 2) rfl)) rfl dX6_figure_24 ?_
      refine lv_topi (fun v9 ev9 => ?_)
      have xv9 : v9 = I0 340 12 := ev9.trans rfl
      refine lv_iload_n hx hb dX6_figure_27 rfl (lv_at hl 1 rfl) ?_
      refine lv_iload_n hx hb dX6_figure_28 rfl (lv_at hl 2 rfl) ?_
      refine dk_Si (As := [.int v9, .int p0, .int p1]) (rest := [.ref (z + 340)]) ⟨hx, hb, hml, hown, hts⟩ (fx_X6_in_29 l g z I0 v9 p0 p1 dp0 dp1 hO) (va_cwS 3 hts gX6_figure_X6_in rfl rfl rfl (by decide +kernel) ⟨Nat.le_of_ble_eq_true rfl, Nat.le_of_ble_eq_true rfl⟩) hK hT hW hS rfl hl.1 rfl (Nat.le_of_ble_eq_true rfl) dX6_figure_29 ⟨Nat.zero_le _, Nat.zero_le _⟩ (fun v10 I10 H10 L10 hp10 hW hS => ?_)
      obtain ⟨hF10, hO, hc10⟩ := hp10
      have hF := dkF_call hF hF10 rfl
      have eI10 : I0 = I10 := (dkF_nil hF10).symm
      subst eI10
      rcases hc10 with ⟨dv10, a10_0, x10_0, xr10, -⟩ | hc10
      ·
        have q11 : (I0 340 12).toInt + 1 ≤ p0.toInt := by have h := x10_0; rw [xv9] at h; exact h
        have xv10 : v10 = 0 := by have h := xr10; exact h
        have e12 : v9 = I0 340 12 := by rw [hF10 340 12 rfl]; exact ev9
        have d13 : dkN [(-2147483648, 0)] v9 := dkN_eq1 (dkN_top v9) a10_0 rfl rfl
        have f14 : dkN [(-2147483648, 0)] (I0 340 12) := by rw [← e12]; exact d13
        refine lv_iconst (v := 2) hx hb dX6_figure_32 (by decide) ?_
        refine dk_Vi (As := [.int v10, .int 2]) (rest := []) ⟨hx, hb, hml, hown, hts⟩ (fx_X6_takes_39 l g z I0 v10 2 dv10 (dkN_lit (x := 2) (2) rfl) (show dkN [(-2147483648, 0)] (I0 340 12) from dkN_sub f14 rfl) (show dkN [(-1, -1)] (I0 340 8) from dkN_sub (by rw [hF10 340 8 rfl]; exact f1_340_8) rfl) hO) (cwV 2 hts gX6_figure_X6_takes rfl rfl rfl (by decide +kernel) ⟨Nat.le_of_ble_eq_true rfl, Nat.le_of_ble_eq_true rfl⟩) (dk_at340 hW) rfl hK hT hW hS rfl hl.1 rfl (Nat.le_of_ble_eq_true rfl) dX6_figure_33 ⟨Nat.zero_le _, Nat.zero_le _⟩ (fun v15 I15 H15 L15 hp15 hW hS => ?_)
        obtain ⟨hF15, hO, hc15⟩ := hp15
        have hF := dkF_call hF hF15 rfl
        obtain ⟨dv15, f15_340_12, f15_340_7, f15_340_8, x15_0, x15_1, xr15, xh15_0, xh15_1, xh15_2, xh15_3, xh15_4, xh15_5, -⟩ := hc15
        have y16 : I15 340 7 = 2 := by have h := xh15_0; exact h
        have y17 : I15 340 8 = I0 340 10 := by have h := xh15_1; exact h
        have y18 : I15 340 9 = I0 340 9 := by have h := xh15_2; exact h
        have y19 : I15 340 10 = I0 340 10 := by have h := xh15_3; exact h
        have y20 : I15 340 11 = I0 340 11 := by have h := xh15_4; exact h
        have y21 : I15 340 12 = I0 340 12 := by have h := xh15_5; exact h
        have xv15 : v15 = 0 := by have h := xr15; exact h
        exact W.iret (v := v15) hx hb hr (fun t ht hW9 => ⟨⟨v15, I15, rfl, ⟨hF, hO, Or.inl ⟨dkN_sub dv15 rfl, (show dkN [(2, 2)] (I15 340 11) from dkN_sub (by rw [hF15 340 11 rfl]; exact (by rw [hF10 340 11 rfl]; exact f8)) rfl), (show dkN [(-2147483648, 0)] (I15 340 12) from dkN_sub f15_340_12 rfl), (show dkN [(2, 2)] (I15 340 7) from dkN_sub f15_340_7 rfl), (show dkN [(0, 90)] (I15 340 8) from dkN_sub f15_340_8 rfl), q2, q6, q11, xv15, y16, y17, y18, y19, y20, y21, trivial⟩⟩, dkW_eq ht hW⟩, hS.F ht⟩) hS.2.2 dX6_figure_36
      rcases hc10 with ⟨dv10, a10_0, x10_0, x10_1, xr10, -⟩ | hc10
      ·
        have q22 : p0.toInt + 0 ≤ (I0 340 12).toInt := by have h := x10_0; rw [xv9] at h; exact h
        have q23 : p1.toInt + 1 ≤ (I0 340 12).toInt := by have h := x10_1; rw [xv9] at h; exact h
        have xv10 : v10 = 0 := by have h := xr10; exact h
        have e24 : v9 = I0 340 12 := by rw [hF10 340 12 rfl]; exact ev9
        have d25 : dkN [(31, 2147483647)] v9 := dkN_eq1 (dkN_top v9) a10_0 rfl rfl
        have f26 : dkN [(31, 2147483647)] (I0 340 12) := by rw [← e24]; exact d25
        refine lv_iconst (v := 2) hx hb dX6_figure_32 (by decide) ?_
        refine dk_Vi (As := [.int v10, .int 2]) (rest := []) ⟨hx, hb, hml, hown, hts⟩ (fx_X6_takes_40 l g z I0 v10 2 dv10 (dkN_lit (x := 2) (2) rfl) (show dkN [(31, 2147483647)] (I0 340 12) from dkN_sub f26 rfl) (show dkN [(-1, -1)] (I0 340 8) from dkN_sub (by rw [hF10 340 8 rfl]; exact f1_340_8) rfl) hO) (cwV 2 hts gX6_figure_X6_takes rfl rfl rfl (by decide +kernel) ⟨Nat.le_of_ble_eq_true rfl, Nat.le_of_ble_eq_true rfl⟩) (dk_at340 hW) rfl hK hT hW hS rfl hl.1 rfl (Nat.le_of_ble_eq_true rfl) dX6_figure_33 ⟨Nat.zero_le _, Nat.zero_le _⟩ (fun v27 I27 H27 L27 hp27 hW hS => ?_)
        obtain ⟨hF27, hO, hc27⟩ := hp27
        have hF := dkF_call hF hF27 rfl
        obtain ⟨dv27, f27_340_12, f27_340_7, f27_340_8, x27_0, x27_1, xr27, xh27_0, xh27_1, xh27_2, xh27_3, xh27_4, xh27_5, -⟩ := hc27
        have y28 : I27 340 7 = 2 := by have h := xh27_0; exact h
        have y29 : I27 340 8 = I0 340 10 := by have h := xh27_1; exact h
        have y30 : I27 340 9 = I0 340 9 := by have h := xh27_2; exact h
        have y31 : I27 340 10 = I0 340 10 := by have h := xh27_3; exact h
        have y32 : I27 340 11 = I0 340 11 := by have h := xh27_4; exact h
        have y33 : I27 340 12 = I0 340 12 := by have h := xh27_5; exact h
        have xv27 : v27 = 0 := by have h := xr27; exact h
        exact W.iret (v := v27) hx hb hr (fun t ht hW9 => ⟨⟨v27, I27, rfl, ⟨hF, hO, Or.inr (Or.inl ⟨dkN_sub dv27 rfl, (show dkN [(2, 2)] (I27 340 11) from dkN_sub (by rw [hF27 340 11 rfl]; exact (by rw [hF10 340 11 rfl]; exact f8)) rfl), (show dkN [(31, 2147483647)] (I27 340 12) from dkN_sub f27_340_12 rfl), (show dkN [(2, 2)] (I27 340 7) from dkN_sub f27_340_7 rfl), (show dkN [(0, 90)] (I27 340 8) from dkN_sub f27_340_8 rfl), q2, q6, q22, q23, xv27, y28, y29, y30, y31, y32, y33, trivial⟩)⟩, dkW_eq ht hW⟩, hS.F ht⟩) hS.2.2 dX6_figure_36
      ·
        obtain ⟨dv10, a10_0, x10_0, x10_1, xr10, -⟩ := hc10
        have q34 : p0.toInt + 0 ≤ (I0 340 12).toInt := by have h := x10_0; rw [xv9] at h; exact h
        have q35 : (I0 340 12).toInt + 0 ≤ p1.toInt := by have h := x10_1; rw [xv9] at h; exact h
        have xv10 : v10 = 1 := by have h := xr10; exact h
        have e36 : v9 = I0 340 12 := by rw [hF10 340 12 rfl]; exact ev9
        have d37 : dkN [(1, 30)] v9 := dkN_eq1 (dkN_top v9) a10_0 rfl rfl
        have f38 : dkN [(1, 30)] (I0 340 12) := by rw [← e36]; exact d37
        refine lv_iconst (v := 2) hx hb dX6_figure_32 (by decide) ?_
        refine dk_Vi (As := [.int v10, .int 2]) (rest := []) ⟨hx, hb, hml, hown, hts⟩ (fx_X6_takes_41 l g z I0 v10 2 dv10 (dkN_lit (x := 2) (2) rfl) (show dkN [(1, 30)] (I0 340 12) from dkN_sub f38 rfl) (show dkN [(-1, -1)] (I0 340 8) from dkN_sub (by rw [hF10 340 8 rfl]; exact f1_340_8) rfl) hO) (cwV 2 hts gX6_figure_X6_takes rfl rfl rfl (by decide +kernel) ⟨Nat.le_of_ble_eq_true rfl, Nat.le_of_ble_eq_true rfl⟩) (dk_at340 hW) rfl hK hT hW hS rfl hl.1 rfl (Nat.le_of_ble_eq_true rfl) dX6_figure_33 ⟨Nat.zero_le _, Nat.zero_le _⟩ (fun v39 I39 H39 L39 hp39 hW hS => ?_)
        obtain ⟨hF39, hO, hc39⟩ := hp39
        have hF := dkF_call hF hF39 rfl
        obtain ⟨dv39, f39_340_11, f39_340_8, x39_0, x39_1, xr39, xh39_0, xh39_1, xh39_2, xh39_3, xh39_4, xh39_5, -⟩ := hc39
        have y40 : I39 340 7 = I0 340 7 := by have h := xh39_0; exact h
        have y41 : I39 340 8 = I0 340 8 := by have h := xh39_1; exact h
        have y42 : I39 340 9 = dkTe (I0 345) (I0 340 6) (I0 340 9) := by have h := xh39_2; exact h
        have y43 : I39 340 10 = I0 340 9 := by have h := xh39_3; exact h
        have y44 : I39 340 11 = dkTk (I0 345) (I0 340 6) (I0 340 9) := by have h := xh39_4; exact h
        have y45 : I39 340 12 = dkTv (I0 345) (I0 340 6) (I0 340 9) := by have h := xh39_5; exact h
        have xv39 : v39 = I0 340 12 := by have h := xr39; exact h
        exact W.iret (v := v39) hx hb hr (fun t ht hW9 => ⟨⟨v39, I39, rfl, ⟨hF, hO, Or.inr (Or.inr (Or.inl ⟨dkN_sub dv39 rfl, (show dkN [(0, 5)] (I39 340 11) from dkN_sub f39_340_11 rfl), (show dkN [(-1, -1)] (I39 340 8) from dkN_sub f39_340_8 rfl), q2, q6, q34, q35, xv39, y40, y41, y42, y43, y44, y45, trivial⟩))⟩, dkW_eq ht hW⟩, hS.F ht⟩) hS.2.2 dX6_figure_36
    ·
      have q46 : (I0 340 11).toInt ≠ (2 : Int) := by first | (rw [← xv4]; exact (dk_ne c5)) | (subst xv4; exact (dk_ne c5))
      have d47 : dkN [(-2147483648, 1), (3, 2147483647)] v4 := dkN_ne1 (2) (dkN_top v4) (dkN_lit (x := 2) (2) rfl) (dk_ne c5) rfl
      have f48 : dkN [(-2147483648, 1), (3, 2147483647)] (I0 340 11) := by rw [← ev4]; exact d47
      refine lv_aload_n hx hb dX6_figure_15 rfl (lv_at hl 0 rfl) ?_
      refine lv_iconst (v := 0) hx hb dX6_figure_16 (by decide) ?_
      refine lv_iconst (v := 1) hx hb dX6_figure_17 (by decide) ?_
      refine dk_Vi (As := [.int 0, .int 1]) (rest := []) ⟨hx, hb, hml, hown, hts⟩ (fx_X6_takes_31 l g z I0 0 1 (dkN_lit (x := 0) (0) rfl) (dkN_lit (x := 1) (1) rfl) (show dkN [(-1, -1)] (I0 340 8) from dkN_sub f1_340_8 rfl) hO) (cwV 2 hts gX6_figure_X6_takes rfl rfl rfl (by decide +kernel) ⟨Nat.le_of_ble_eq_true rfl, Nat.le_of_ble_eq_true rfl⟩) (dk_at340 hW) rfl hK hT hW hS rfl hl.1 rfl (Nat.le_of_ble_eq_true rfl) dX6_figure_18 ⟨Nat.zero_le _, Nat.zero_le _⟩ (fun v49 I49 H49 L49 hp49 hW hS => ?_)
      obtain ⟨hF49, hO, hc49⟩ := hp49
      have hF := dkF_call hF hF49 rfl
      obtain ⟨dv49, f49_340_7, f49_340_8, x49_0, x49_1, xr49, xh49_0, xh49_1, xh49_2, xh49_3, xh49_4, xh49_5, -⟩ := hc49
      have y50 : I49 340 7 = 1 := by have h := xh49_0; exact h
      have y51 : I49 340 8 = I0 340 10 := by have h := xh49_1; exact h
      have y52 : I49 340 9 = I0 340 9 := by have h := xh49_2; exact h
      have y53 : I49 340 10 = I0 340 10 := by have h := xh49_3; exact h
      have y54 : I49 340 11 = I0 340 11 := by have h := xh49_4; exact h
      have y55 : I49 340 12 = I0 340 12 := by have h := xh49_5; exact h
      have xv49 : v49 = 0 := by have h := xr49; exact h
      exact W.iret (v := v49) hx hb hr (fun t ht hW9 => ⟨⟨v49, I49, rfl, ⟨hF, hO, Or.inr (Or.inr (Or.inr (⟨dkN_sub dv49 rfl, (show dkN [(-2147483648, 1), (3, 2147483647)] (I49 340 11) from dkN_sub (by rw [hF49 340 11 rfl]; exact f48) rfl), (show dkN [(1, 1)] (I49 340 7) from dkN_sub f49_340_7 rfl), (show dkN [(0, 90)] (I49 340 8) from dkN_sub f49_340_8 rfl), q2, q46, xv49, y50, y51, y52, y53, y54, y55, trivial⟩)))⟩, dkW_eq ht hW⟩, hS.F ht⟩) hS.2.2 dX6_figure_21
set_option maxHeartbeats 4000000 in
set_option maxRecDepth 100000 in
theorem fx_X6_follows_7 (l : Launch) (g : dkG) (z : Nat) (I0 : dkI) (p0 : Int32) (p1 : Int32) (dp0 : dkN [(1, 1)] p0) (dp1 : dkN [(30, 30)] p1) (np0 : dkN [(-1, -1)] (I0 340 8))  (hO : dkOk I0) : Met l yX6_follows wsX6_follows (dkR 4) (dkPc g z [.ref (z + 340), .int p0, .int p1] I0) (dkQi g z (fun r I1 => dkF [(340, 340, 7, 12)] I0 I1 ∧ dkOk I1 ∧ ((dkN [(0, 0)] r ∧ dkN [(-2147483648, 2), (4, 2147483647)] (I1 340 11) ∧ dkN [(1, 1)] (I1 340 7) ∧ dkN [(0, 90)] (I1 340 8) ∧ (I0 340 11).toInt ≠ (3 : Int) ∧ (I0 340 8).toInt + 1 ≤ (0 : Int) ∧ r = 0 ∧ I1 340 7 = 1 ∧ I1 340 8 = I0 340 10 ∧ I1 340 9 = I0 340 9 ∧ I1 340 10 = I0 340 10 ∧ I1 340 11 = I0 340 11 ∧ I1 340 12 = I0 340 12 ∧ True) ∨ (dkN [(0, 0)] r ∧ dkN [(2, 2)] (I1 340 11) ∧ dkN [(-2147483648, 0)] (I1 340 12) ∧ dkN [(2, 2)] (I1 340 7) ∧ dkN [(0, 90)] (I1 340 8) ∧ (I0 340 11).toInt = (3 : Int) ∧ (I0 340 8).toInt + 1 ≤ (0 : Int) ∧ (dkTk (I0 345) (I0 340 6) (I0 340 9)).toInt = (2 : Int) ∧ (dkTv (I0 345) (I0 340 6) (I0 340 9)).toInt + 1 ≤ p0.toInt ∧ r = 0 ∧ I1 340 7 = 2 ∧ I1 340 8 = I0 340 9 ∧ I1 340 9 = dkTe (I0 345) (I0 340 6) (I0 340 9) ∧ I1 340 10 = I0 340 9 ∧ I1 340 11 = dkTk (I0 345) (I0 340 6) (I0 340 9) ∧ I1 340 12 = dkTv (I0 345) (I0 340 6) (I0 340 9) ∧ True) ∨ (dkN [(0, 0)] r ∧ dkN [(2, 2)] (I1 340 11) ∧ dkN [(31, 2147483647)] (I1 340 12) ∧ dkN [(2, 2)] (I1 340 7) ∧ dkN [(0, 90)] (I1 340 8) ∧ (I0 340 11).toInt = (3 : Int) ∧ (I0 340 8).toInt + 1 ≤ (0 : Int) ∧ (dkTk (I0 345) (I0 340 6) (I0 340 9)).toInt = (2 : Int) ∧ p0.toInt + 0 ≤ (dkTv (I0 345) (I0 340 6) (I0 340 9)).toInt ∧ p1.toInt + 1 ≤ (dkTv (I0 345) (I0 340 6) (I0 340 9)).toInt ∧ r = 0 ∧ I1 340 7 = 2 ∧ I1 340 8 = I0 340 9 ∧ I1 340 9 = dkTe (I0 345) (I0 340 6) (I0 340 9) ∧ I1 340 10 = I0 340 9 ∧ I1 340 11 = dkTk (I0 345) (I0 340 6) (I0 340 9) ∧ I1 340 12 = dkTv (I0 345) (I0 340 6) (I0 340 9) ∧ True) ∨ (dkN [(1, 30)] r ∧ dkN [(0, 5)] (I1 340 11) ∧ dkN [(-1, -1)] (I1 340 8) ∧ (I0 340 11).toInt = (3 : Int) ∧ (I0 340 8).toInt + 1 ≤ (0 : Int) ∧ (dkTk (I0 345) (I0 340 6) (I0 340 9)).toInt = (2 : Int) ∧ p0.toInt + 0 ≤ (dkTv (I0 345) (I0 340 6) (I0 340 9)).toInt ∧ (dkTv (I0 345) (I0 340 6) (I0 340 9)).toInt + 0 ≤ p1.toInt ∧ r = dkTv (I0 345) (I0 340 6) (I0 340 9) ∧ I1 340 7 = I0 340 7 ∧ I1 340 8 = I0 340 8 ∧ I1 340 9 = dkTe (I0 345) (I0 340 6) (dkTe (I0 345) (I0 340 6) (I0 340 9)) ∧ I1 340 10 = dkTe (I0 345) (I0 340 6) (I0 340 9) ∧ I1 340 11 = dkTk (I0 345) (I0 340 6) (dkTe (I0 345) (I0 340 6) (I0 340 9)) ∧ I1 340 12 = dkTv (I0 345) (I0 340 6) (dkTe (I0 345) (I0 340 6) (I0 340 9)) ∧ True) ∨ (dkN [(0, 0)] r ∧ dkN [(-2147483648, 1), (3, 2147483647)] (I1 340 11) ∧ dkN [(1, 1)] (I1 340 7) ∧ dkN [(0, 90)] (I1 340 8) ∧ (I0 340 11).toInt = (3 : Int) ∧ (I0 340 8).toInt + 1 ≤ (0 : Int) ∧ (dkTk (I0 345) (I0 340 6) (I0 340 9)).toInt ≠ (2 : Int) ∧ r = 0 ∧ I1 340 7 = 1 ∧ I1 340 8 = I0 340 9 ∧ I1 340 9 = dkTe (I0 345) (I0 340 6) (I0 340 9) ∧ I1 340 10 = I0 340 9 ∧ I1 340 11 = dkTk (I0 345) (I0 340 6) (I0 340 9) ∧ I1 340 12 = dkTv (I0 345) (I0 340 6) (I0 340 9) ∧ True)))) 0 0 (dkA z) := by
  refine Met.ofW (cc := cX6_follows) (maxL := 3) (ret := (some .int)) (by decide) rfl ?_
  intro p e s m args below meth c s₁ B hml hv
  obtain ⟨ha, hW, hK, hT⟩ := hv
  have hx := B.exec
  have hb := B.bytes
  have hr := B.returns
  have hts := atoms_spec (ws := wsX6_follows) B.pre
  have hown : s.vm.findClass RX6 = some m.cls := findClass_of_methodNamed B.named
  have hlocks := B.notSynchronized
  have hS : va_S (dkA z) s.heap s.heap [] := va_S.rf
  have hF : dkF [(340, 340, 7, 12)] I0 I0 := dkF_rf _ _
  have hl := lv_entry ([.ref (z + 340), .int p0, .int p1]) (n := 3) (Nat.le_of_ble_eq_true rfl)
  have hgo : entryFrame m args 3 = entryFrame m ([.ref (z + 340), .int p0, .int p1] : List Value).toArray 3 := by rw [ha]
  rw [hgo, lg_entry_eq]
  generalize (lg_sl ([.ref (z + 340), .int p0, .int p1]) ++ List.replicate (3 - (lg_sl ([.ref (z + 340), .int p0, .int p1])).length) Slot.unset).toArray = ls at hl ⊢
  have hl : lv_has ls 3 [(0, .ref (z + 340)), (1, .int p0), (2, .int p1)] := hl
  refine lv_aload_n hx hb dX6_follows_0 rfl (lv_at hl 0 rfl) ?_
  refine lv_aload_n hx hb dX6_follows_1 rfl (lv_at hl 0 rfl) ?_
  refine dk_get (k := 340) hx hb hts iX6_follows_6 hown hK (dk_at340 hW) rfl 11 (by decide) (hts (.fieldLink RX6 98 "DogKingsModel" "token" "I") (List.mem_of_getElem? (i := 1) rfl)) rfl dX6_follows_2 ?_
  refine lv_topi (fun v1 ev1 => ?_)
  have xv1 : v1 = I0 340 11 := ev1.trans rfl
  refine lv_iconst (v := 3) hx hb dX6_follows_5 (by decide) ?_
  refine lv_icmp_ne (tgt := 13) hx hb dX6_follows_6 (by decide) (fun c2 => ?_) (fun c2 => ?_)
  ·
    have q3 : (I0 340 11).toInt ≠ (3 : Int) := by first | (rw [← xv1]; exact (dk_ne c2)) | (subst xv1; exact (dk_ne c2))
    have d4 : dkN [(-2147483648, 2), (4, 2147483647)] v1 := dkN_ne1 (3) (dkN_top v1) (dkN_lit (x := 3) (3) rfl) (dk_ne c2) rfl
    have f5 : dkN [(-2147483648, 2), (4, 2147483647)] (I0 340 11) := by rw [← ev1]; exact d4
    refine lv_iconst (v := 0) hx hb dX6_follows_13 (by decide) ?_
    refine lv_iconst (v := 1) hx hb dX6_follows_14 (by decide) ?_
    refine dk_Vi (As := [.int 0, .int 1]) (rest := []) ⟨hx, hb, hml, hown, hts⟩ (fx_X6_takes_31 l g z I0 0 1 (dkN_lit (x := 0) (0) rfl) (dkN_lit (x := 1) (1) rfl) (show dkN [(-1, -1)] (I0 340 8) from dkN_sub np0 rfl) hO) (cwV 2 hts gX6_follows_X6_takes rfl rfl rfl (by decide +kernel) ⟨Nat.le_of_ble_eq_true rfl, Nat.le_of_ble_eq_true rfl⟩) (dk_at340 hW) rfl hK hT hW hS rfl hl.1 rfl (Nat.le_of_ble_eq_true rfl) dX6_follows_15 ⟨Nat.zero_le _, Nat.zero_le _⟩ (fun v6 I6 H6 L6 hp6 hW hS => ?_)
    obtain ⟨hF6, hO, hc6⟩ := hp6
    have hF := dkF_call hF hF6 rfl
    obtain ⟨dv6, f6_340_7, f6_340_8, x6_0, x6_1, xr6, xh6_0, xh6_1, xh6_2, xh6_3, xh6_4, xh6_5, -⟩ := hc6
    have q7 : (I0 340 8).toInt + 1 ≤ (0 : Int) := x6_0
    have y8 : I6 340 7 = 1 := by have h := xh6_0; exact h
    have y9 : I6 340 8 = I0 340 10 := by have h := xh6_1; exact h
    have y10 : I6 340 9 = I0 340 9 := by have h := xh6_2; exact h
    have y11 : I6 340 10 = I0 340 10 := by have h := xh6_3; exact h
    have y12 : I6 340 11 = I0 340 11 := by have h := xh6_4; exact h
    have y13 : I6 340 12 = I0 340 12 := by have h := xh6_5; exact h
    have xv6 : v6 = 0 := by have h := xr6; exact h
    refine lv_pop hx hb dX6_follows_18 rfl ?_
    refine lv_aload_n hx hb dX6_follows_19 rfl (lv_at hl 0 rfl) ?_
    refine lv_iload_n hx hb dX6_follows_20 rfl (lv_at hl 1 rfl) ?_
    refine lv_iload_n hx hb dX6_follows_21 rfl (lv_at hl 2 rfl) ?_
    refine dk_Vi (As := [.int p0, .int p1]) (rest := []) ⟨hx, hb, hml, hown, hts⟩ (h_X6_figure_0 l g z I6 p0 p1 (show dkN [(0, 90)] (I6 340 8) from dkN_sub f6_340_8 rfl) hO) (cwV 2 hts gX6_follows_X6_figure rfl rfl rfl (by decide +kernel) ⟨Nat.le_of_ble_eq_true rfl, Nat.le_of_ble_eq_true rfl⟩) (dk_at340 hW) rfl hK hT hW hS rfl hl.1 rfl (Nat.le_of_ble_eq_true rfl) dX6_follows_22 ⟨Nat.zero_le _, Nat.zero_le _⟩ (fun v14 I14 H14 L14 hp14 hW hS => ?_)
    obtain ⟨hF14, hO, hc14⟩ := hp14
    have hF := dkF_call hF hF14 rfl
    have eI14 : I6 = I14 := (dkF_nil hF14).symm
    subst eI14
    obtain ⟨dv14, xr14, -⟩ := hc14
    have xv14 : v14 = 0 := by have h := xr14; exact h
    exact W.iret (v := v14) hx hb hr (fun t ht hW9 => ⟨⟨v14, I6, rfl, ⟨hF, hO, Or.inl ⟨dkN_sub dv14 rfl, (show dkN [(-2147483648, 2), (4, 2147483647)] (I6 340 11) from dkN_sub (by rw [hF14 340 11 rfl]; exact (by rw [hF6 340 11 rfl]; exact f5)) rfl), (show dkN [(1, 1)] (I6 340 7) from dkN_sub (by rw [hF14 340 7 rfl]; exact f6_340_7) rfl), (show dkN [(0, 90)] (I6 340 8) from dkN_sub (by rw [hF14 340 8 rfl]; exact f6_340_8) rfl), q3, q7, xv14, ((hF14 340 7 rfl).trans y8), ((hF14 340 8 rfl).trans y9), ((hF14 340 9 rfl).trans y10), ((hF14 340 10 rfl).trans y11), ((hF14 340 11 rfl).trans y12), ((hF14 340 12 rfl).trans y13), trivial⟩⟩, dkW_eq ht hW⟩, hS.F ht⟩) hS.2.2 dX6_follows_25
  ·
    have q15 : (I0 340 11).toInt = (3 : Int) := by first | (rw [← xv1]; exact (congrArg Int32.toInt c2)) | (subst xv1; exact (congrArg Int32.toInt c2))
    have d16 : dkN [(3, 3)] v1 := dkN_eq1 (dkN_top v1) (dkN_lit (x := 3) (3) rfl) (congrArg Int32.toInt c2) rfl
    have f17 : dkN [(3, 3)] (I0 340 11) := by rw [← ev1]; exact d16
    refine lv_iconst (v := 1) hx hb dX6_follows_9 (by decide) ?_
    refine lv_goto (tgt := 14) hx hb dX6_follows_10 (by decide) ?_
    refine lv_iconst (v := 1) hx hb dX6_follows_14 (by decide) ?_
    refine dk_Vi (As := [.int 1, .int 1]) (rest := []) ⟨hx, hb, hml, hown, hts⟩ (fx_X6_takes_38 l g z I0 1 1 (dkN_lit (x := 1) (1) rfl) (dkN_lit (x := 1) (1) rfl) (show dkN [(-1, -1)] (I0 340 8) from dkN_sub np0 rfl) hO) (cwV 2 hts gX6_follows_X6_takes rfl rfl rfl (by decide +kernel) ⟨Nat.le_of_ble_eq_true rfl, Nat.le_of_ble_eq_true rfl⟩) (dk_at340 hW) rfl hK hT hW hS rfl hl.1 rfl (Nat.le_of_ble_eq_true rfl) dX6_follows_15 ⟨Nat.zero_le _, Nat.zero_le _⟩ (fun v18 I18 H18 L18 hp18 hW hS => ?_)
    obtain ⟨hF18, hO, hc18⟩ := hp18
    have hF := dkF_call hF hF18 rfl
    obtain ⟨_, f18_340_11, f18_340_8, x18_0, x18_1, xr18, xh18_0, xh18_1, xh18_2, xh18_3, xh18_4, xh18_5, -⟩ := hc18
    have q19 : (I0 340 8).toInt + 1 ≤ (0 : Int) := x18_0
    have y20 : I18 340 7 = I0 340 7 := by have h := xh18_0; exact h
    have y21 : I18 340 8 = I0 340 8 := by have h := xh18_1; exact h
    have y22 : I18 340 9 = dkTe (I0 345) (I0 340 6) (I0 340 9) := by have h := xh18_2; exact h
    have y23 : I18 340 10 = I0 340 9 := by have h := xh18_3; exact h
    have y24 : I18 340 11 = dkTk (I0 345) (I0 340 6) (I0 340 9) := by have h := xh18_4; exact h
    have y25 : I18 340 12 = dkTv (I0 345) (I0 340 6) (I0 340 9) := by have h := xh18_5; exact h
    have xv18 : v18 = I0 340 12 := by have h := xr18; exact h
    refine lv_pop hx hb dX6_follows_18 rfl ?_
    refine lv_aload_n hx hb dX6_follows_19 rfl (lv_at hl 0 rfl) ?_
    refine lv_iload_n hx hb dX6_follows_20 rfl (lv_at hl 1 rfl) ?_
    refine lv_iload_n hx hb dX6_follows_21 rfl (lv_at hl 2 rfl) ?_
    refine dk_Vi (As := [.int p0, .int p1]) (rest := []) ⟨hx, hb, hml, hown, hts⟩ (fx_X6_figure_11 l g z I18 p0 p1 dp0 dp1 (show dkN [(-1, -1)] (I18 340 8) from dkN_sub f18_340_8 rfl) hO) (cwV 2 hts gX6_follows_X6_figure rfl rfl rfl (by decide +kernel) ⟨Nat.le_of_ble_eq_true rfl, Nat.le_of_ble_eq_true rfl⟩) (dk_at340 hW) rfl hK hT hW hS rfl hl.1 rfl (Nat.le_of_ble_eq_true rfl) dX6_follows_22 ⟨Nat.zero_le _, Nat.zero_le _⟩ (fun v26 I26 H26 L26 hp26 hW hS => ?_)
    obtain ⟨hF26, hO, hc26⟩ := hp26
    have hF := dkF_call hF hF26 rfl
    rcases hc26 with ⟨dv26, f26_340_11, f26_340_12, f26_340_7, f26_340_8, x26_0, x26_1, x26_2, xr26, xh26_0, xh26_1, xh26_2, xh26_3, xh26_4, xh26_5, -⟩ | hc26
    ·
      have w27 : I18 340 8 = I0 340 8 := y21
      have w28 : I18 340 11 = dkTk (I0 345) (I0 340 6) (I0 340 9) := y24
      have q29 : (dkTk (I0 345) (I0 340 6) (I0 340 9)).toInt = (2 : Int) := by have h := x26_1; rw [w28] at h; exact h
      have w30 : I18 340 12 = dkTv (I0 345) (I0 340 6) (I0 340 9) := y25
      have q31 : (dkTv (I0 345) (I0 340 6) (I0 340 9)).toInt + 1 ≤ p0.toInt := by have h := x26_2; rw [w30] at h; exact h
      have y32 : I26 340 7 = 2 := by have h := xh26_0; exact h
      have w33 : I18 340 10 = I0 340 9 := y23
      have y34 : I26 340 8 = I0 340 9 := by have h := xh26_1; rw [w33] at h; exact h
      have w35 : I18 340 9 = dkTe (I0 345) (I0 340 6) (I0 340 9) := y22
      have y36 : I26 340 9 = dkTe (I0 345) (I0 340 6) (I0 340 9) := by have h := xh26_2; rw [w35] at h; exact h
      have y37 : I26 340 10 = I0 340 9 := by have h := xh26_3; rw [w33] at h; exact h
      have y38 : I26 340 11 = dkTk (I0 345) (I0 340 6) (I0 340 9) := by have h := xh26_4; rw [w28] at h; exact h
      have y39 : I26 340 12 = dkTv (I0 345) (I0 340 6) (I0 340 9) := by have h := xh26_5; rw [w30] at h; exact h
      have xv26 : v26 = 0 := by have h := xr26; exact h
      exact W.iret (v := v26) hx hb hr (fun t ht hW9 => ⟨⟨v26, I26, rfl, ⟨hF, hO, Or.inr (Or.inl ⟨dkN_sub dv26 rfl, (show dkN [(2, 2)] (I26 340 11) from dkN_sub f26_340_11 rfl), (show dkN [(-2147483648, 0)] (I26 340 12) from dkN_sub f26_340_12 rfl), (show dkN [(2, 2)] (I26 340 7) from dkN_sub f26_340_7 rfl), (show dkN [(0, 90)] (I26 340 8) from dkN_sub f26_340_8 rfl), q15, q19, q29, q31, xv26, y32, y34, y36, y37, y38, y39, trivial⟩)⟩, dkW_eq ht hW⟩, hS.F ht⟩) hS.2.2 dX6_follows_25
    rcases hc26 with ⟨dv26, f26_340_11, f26_340_12, f26_340_7, f26_340_8, x26_0, x26_1, x26_2, x26_3, xr26, xh26_0, xh26_1, xh26_2, xh26_3, xh26_4, xh26_5, -⟩ | hc26
    ·
      have w40 : I18 340 8 = I0 340 8 := y21
      have w41 : I18 340 11 = dkTk (I0 345) (I0 340 6) (I0 340 9) := y24
      have q42 : (dkTk (I0 345) (I0 340 6) (I0 340 9)).toInt = (2 : Int) := by have h := x26_1; rw [w41] at h; exact h
      have w43 : I18 340 12 = dkTv (I0 345) (I0 340 6) (I0 340 9) := y25
      have q44 : p0.toInt + 0 ≤ (dkTv (I0 345) (I0 340 6) (I0 340 9)).toInt := by have h := x26_2; rw [w43] at h; exact h
      have q45 : p1.toInt + 1 ≤ (dkTv (I0 345) (I0 340 6) (I0 340 9)).toInt := by have h := x26_3; rw [w43] at h; exact h
      have y46 : I26 340 7 = 2 := by have h := xh26_0; exact h
      have w47 : I18 340 10 = I0 340 9 := y23
      have y48 : I26 340 8 = I0 340 9 := by have h := xh26_1; rw [w47] at h; exact h
      have w49 : I18 340 9 = dkTe (I0 345) (I0 340 6) (I0 340 9) := y22
      have y50 : I26 340 9 = dkTe (I0 345) (I0 340 6) (I0 340 9) := by have h := xh26_2; rw [w49] at h; exact h
      have y51 : I26 340 10 = I0 340 9 := by have h := xh26_3; rw [w47] at h; exact h
      have y52 : I26 340 11 = dkTk (I0 345) (I0 340 6) (I0 340 9) := by have h := xh26_4; rw [w41] at h; exact h
      have y53 : I26 340 12 = dkTv (I0 345) (I0 340 6) (I0 340 9) := by have h := xh26_5; rw [w43] at h; exact h
      have xv26 : v26 = 0 := by have h := xr26; exact h
      exact W.iret (v := v26) hx hb hr (fun t ht hW9 => ⟨⟨v26, I26, rfl, ⟨hF, hO, Or.inr (Or.inr (Or.inl ⟨dkN_sub dv26 rfl, (show dkN [(2, 2)] (I26 340 11) from dkN_sub f26_340_11 rfl), (show dkN [(31, 2147483647)] (I26 340 12) from dkN_sub f26_340_12 rfl), (show dkN [(2, 2)] (I26 340 7) from dkN_sub f26_340_7 rfl), (show dkN [(0, 90)] (I26 340 8) from dkN_sub f26_340_8 rfl), q15, q19, q42, q44, q45, xv26, y46, y48, y50, y51, y52, y53, trivial⟩))⟩, dkW_eq ht hW⟩, hS.F ht⟩) hS.2.2 dX6_follows_25
    rcases hc26 with ⟨dv26, f26_340_11, f26_340_8, x26_0, x26_1, x26_2, x26_3, xr26, xh26_0, xh26_1, xh26_2, xh26_3, xh26_4, xh26_5, -⟩ | hc26
    ·
      have w54 : I18 340 8 = I0 340 8 := y21
      have w55 : I18 340 11 = dkTk (I0 345) (I0 340 6) (I0 340 9) := y24
      have q56 : (dkTk (I0 345) (I0 340 6) (I0 340 9)).toInt = (2 : Int) := by have h := x26_1; rw [w55] at h; exact h
      have w57 : I18 340 12 = dkTv (I0 345) (I0 340 6) (I0 340 9) := y25
      have q58 : p0.toInt + 0 ≤ (dkTv (I0 345) (I0 340 6) (I0 340 9)).toInt := by have h := x26_2; rw [w57] at h; exact h
      have q59 : (dkTv (I0 345) (I0 340 6) (I0 340 9)).toInt + 0 ≤ p1.toInt := by have h := x26_3; rw [w57] at h; exact h
      have w60 : I18 340 7 = I0 340 7 := y20
      have y61 : I26 340 7 = I0 340 7 := by have h := xh26_0; rw [w60] at h; exact h
      have y62 : I26 340 8 = I0 340 8 := by have h := xh26_1; rw [w54] at h; exact h
      have w63 : I18 345 = I0 345 := ((funext fun j => hF18 345 j (dkNin_k rfl dkNin_nil)).trans rfl)
      have w64 : I18 340 6 = I0 340 6 := ((hF18 340 6 rfl).trans rfl)
      have w65 : I18 340 9 = dkTe (I0 345) (I0 340 6) (I0 340 9) := y22
      have y66 : I26 340 9 = dkTe (I0 345) (I0 340 6) (dkTe (I0 345) (I0 340 6) (I0 340 9)) := by have h := xh26_2; rw [w63, w64, w65] at h; exact h
      have y67 : I26 340 10 = dkTe (I0 345) (I0 340 6) (I0 340 9) := by have h := xh26_3; rw [w65] at h; exact h
      have y68 : I26 340 11 = dkTk (I0 345) (I0 340 6) (dkTe (I0 345) (I0 340 6) (I0 340 9)) := by have h := xh26_4; rw [w63, w64, w65] at h; exact h
      have y69 : I26 340 12 = dkTv (I0 345) (I0 340 6) (dkTe (I0 345) (I0 340 6) (I0 340 9)) := by have h := xh26_5; rw [w63, w64, w65] at h; exact h
      have xv26 : v26 = dkTv (I0 345) (I0 340 6) (I0 340 9) := by have h := xr26; rw [w57] at h; exact h
      exact W.iret (v := v26) hx hb hr (fun t ht hW9 => ⟨⟨v26, I26, rfl, ⟨hF, hO, Or.inr (Or.inr (Or.inr (Or.inl ⟨dkN_sub dv26 rfl, (show dkN [(0, 5)] (I26 340 11) from dkN_sub f26_340_11 rfl), (show dkN [(-1, -1)] (I26 340 8) from dkN_sub f26_340_8 rfl), q15, q19, q56, q58, q59, xv26, y61, y62, y66, y67, y68, y69, trivial⟩)))⟩, dkW_eq ht hW⟩, hS.F ht⟩) hS.2.2 dX6_follows_25
    ·
      obtain ⟨dv26, f26_340_11, f26_340_7, f26_340_8, x26_0, x26_1, xr26, xh26_0, xh26_1, xh26_2, xh26_3, xh26_4, xh26_5, -⟩ := hc26
      have w70 : I18 340 8 = I0 340 8 := y21
      have w71 : I18 340 11 = dkTk (I0 345) (I0 340 6) (I0 340 9) := y24
      have q72 : (dkTk (I0 345) (I0 340 6) (I0 340 9)).toInt ≠ (2 : Int) := by have h := x26_1; rw [w71] at h; exact h
      have y73 : I26 340 7 = 1 := by have h := xh26_0; exact h
      have w74 : I18 340 10 = I0 340 9 := y23
      have y75 : I26 340 8 = I0 340 9 := by have h := xh26_1; rw [w74] at h; exact h
      have w76 : I18 340 9 = dkTe (I0 345) (I0 340 6) (I0 340 9) := y22
      have y77 : I26 340 9 = dkTe (I0 345) (I0 340 6) (I0 340 9) := by have h := xh26_2; rw [w76] at h; exact h
      have y78 : I26 340 10 = I0 340 9 := by have h := xh26_3; rw [w74] at h; exact h
      have y79 : I26 340 11 = dkTk (I0 345) (I0 340 6) (I0 340 9) := by have h := xh26_4; rw [w71] at h; exact h
      have w80 : I18 340 12 = dkTv (I0 345) (I0 340 6) (I0 340 9) := y25
      have y81 : I26 340 12 = dkTv (I0 345) (I0 340 6) (I0 340 9) := by have h := xh26_5; rw [w80] at h; exact h
      have xv26 : v26 = 0 := by have h := xr26; exact h
      exact W.iret (v := v26) hx hb hr (fun t ht hW9 => ⟨⟨v26, I26, rfl, ⟨hF, hO, Or.inr (Or.inr (Or.inr (Or.inr (⟨dkN_sub dv26 rfl, (show dkN [(-2147483648, 1), (3, 2147483647)] (I26 340 11) from dkN_sub f26_340_11 rfl), (show dkN [(1, 1)] (I26 340 7) from dkN_sub f26_340_7 rfl), (show dkN [(0, 90)] (I26 340 8) from dkN_sub f26_340_8 rfl), q15, q19, q72, xv26, y73, y75, y77, y78, y79, y81, trivial⟩))))⟩, dkW_eq ht hW⟩, hS.F ht⟩) hS.2.2 dX6_follows_25
set_option maxHeartbeats 4000000 in
set_option maxRecDepth 100000 in
theorem fx_X6_must_8 (l : Launch) (g : dkG) (z : Nat) (I0 : dkI) (p0 : Int32) (dp0 : dkN [(0, 0)] p0) (np0 : dkN [(-1, -1)] (I0 340 8))  (hO : dkOk I0) : Met l yX6_must wsX6_must (dkR 2) (dkPc g z [.ref (z + 340), .int p0] I0) (dkQv g z (fun I1 => dkF [(340, 340, 7, 8)] I0 I1 ∧ dkOk I1 ∧ ((dkN [(1, 1)] (I1 340 7) ∧ dkN [(0, 90)] (I1 340 8) ∧ (I0 340 8).toInt + 1 ≤ (0 : Int) ∧ p0.toInt = (0 : Int) ∧ I1 340 7 = 1 ∧ I1 340 8 = I0 340 10 ∧ I1 340 9 = I0 340 9 ∧ I1 340 10 = I0 340 10 ∧ I1 340 11 = I0 340 11 ∧ I1 340 12 = I0 340 12 ∧ True)))) 0 0 (dkA z) := by
  refine Met.ofW (cc := cX6_must) (maxL := 2) (ret := none) (by decide) rfl ?_
  intro p e s m args below meth c s₁ B hml hv
  obtain ⟨ha, hW, hK, hT⟩ := hv
  have hx := B.exec
  have hb := B.bytes
  have hr := B.returns
  have hts := atoms_spec (ws := wsX6_must) B.pre
  have hown : s.vm.findClass RX6 = some m.cls := findClass_of_methodNamed B.named
  have hlocks := B.notSynchronized
  have hS : va_S (dkA z) s.heap s.heap [] := va_S.rf
  have hF : dkF [(340, 340, 7, 8)] I0 I0 := dkF_rf _ _
  have hl := lv_entry ([.ref (z + 340), .int p0]) (n := 2) (Nat.le_of_ble_eq_true rfl)
  have hgo : entryFrame m args 2 = entryFrame m ([.ref (z + 340), .int p0] : List Value).toArray 2 := by rw [ha]
  rw [hgo, lg_entry_eq]
  generalize (lg_sl ([.ref (z + 340), .int p0]) ++ List.replicate (2 - (lg_sl ([.ref (z + 340), .int p0])).length) Slot.unset).toArray = ls at hl ⊢
  have hl : lv_has ls 2 [(0, .ref (z + 340)), (1, .int p0)] := hl
  refine lv_aload_n hx hb dX6_must_0 rfl (lv_at hl 0 rfl) ?_
  refine dk_Vi (As := []) (rest := []) ⟨hx, hb, hml, hown, hts⟩ (fx_X6_isWell_6 l g z I0 (show dkN [(-1, -1)] (I0 340 8) from dkN_sub np0 rfl) hO) (cwV 0 hts gX6_must_X6_isWell rfl rfl rfl (by decide +kernel) ⟨Nat.le_of_ble_eq_true rfl, Nat.le_of_ble_eq_true rfl⟩) (dk_at340 hW) rfl hK hT hW hS rfl hl.1 rfl (Nat.le_of_ble_eq_true rfl) dX6_must_1 ⟨Nat.zero_le _, Nat.zero_le _⟩ (fun v1 I1 H1 L1 hp1 hW hS => ?_)
  obtain ⟨hF1, hO, hc1⟩ := hp1
  have hF := dkF_call hF hF1 rfl
  have eI1 : I0 = I1 := (dkF_nil hF1).symm
  subst eI1
  obtain ⟨dv1, f1_340_8, x1_0, xr1, -⟩ := hc1
  have q2 : (I0 340 8).toInt + 1 ≤ (0 : Int) := x1_0
  have xv1 : v1 = 1 := by have h := xr1; exact h
  refine lv_if_eq (tgt := 18) hx hb dX6_must_4 (by decide) (fun c3 => ?_) (fun c3 => ?_)
  ·
    exact (dkN_nil (show dkN [] v1 from dkN_eq1 dv1 (dkN_lit (x := 0) (0) rfl) (congrArg Int32.toInt c3) rfl)).elim
  ·
    refine lv_iload_n hx hb dX6_must_7 rfl (lv_at hl 1 rfl) ?_
    refine lv_if_ne (tgt := 18) hx hb dX6_must_8 (by decide) (fun c4 => ?_) (fun c4 => ?_)
    ·
      exact (dkN_nil (show dkN [] p0 from dkN_ne1 (0) dp0 (dkN_lit (x := 0) (0) rfl) (dk_ne c4) rfl)).elim
    ·
      have q5 : p0.toInt = (0 : Int) := (congrArg Int32.toInt c4)
      refine lv_aload_n hx hb dX6_must_11 rfl (lv_at hl 0 rfl) ?_
      refine lv_iconst (v := 0) hx hb dX6_must_12 (by decide) ?_
      refine lv_iconst (v := 1) hx hb dX6_must_13 (by decide) ?_
      refine dk_Vi (As := [.int 0, .int 1]) (rest := []) ⟨hx, hb, hml, hown, hts⟩ (fx_X6_takes_31 l g z I0 0 1 (dkN_lit (x := 0) (0) rfl) (dkN_lit (x := 1) (1) rfl) (show dkN [(-1, -1)] (I0 340 8) from dkN_sub f1_340_8 rfl) hO) (cwV 2 hts gX6_must_X6_takes rfl rfl rfl (by decide +kernel) ⟨Nat.le_of_ble_eq_true rfl, Nat.le_of_ble_eq_true rfl⟩) (dk_at340 hW) rfl hK hT hW hS rfl hl.1 rfl (Nat.le_of_ble_eq_true rfl) dX6_must_14 ⟨Nat.zero_le _, Nat.zero_le _⟩ (fun v6 I6 H6 L6 hp6 hW hS => ?_)
      obtain ⟨hF6, hO, hc6⟩ := hp6
      have hF := dkF_call hF hF6 rfl
      obtain ⟨dv6, f6_340_7, f6_340_8, x6_0, x6_1, xr6, xh6_0, xh6_1, xh6_2, xh6_3, xh6_4, xh6_5, -⟩ := hc6
      have y7 : I6 340 7 = 1 := by have h := xh6_0; exact h
      have y8 : I6 340 8 = I0 340 10 := by have h := xh6_1; exact h
      have y9 : I6 340 9 = I0 340 9 := by have h := xh6_2; exact h
      have y10 : I6 340 10 = I0 340 10 := by have h := xh6_3; exact h
      have y11 : I6 340 11 = I0 340 11 := by have h := xh6_4; exact h
      have y12 : I6 340 12 = I0 340 12 := by have h := xh6_5; exact h
      have xv6 : v6 = 0 := by have h := xr6; exact h
      refine lv_pop hx hb dX6_must_17 rfl ?_
      exact W.vret hx hb hr (fun t ht hW9 => ⟨⟨I6, rfl, ⟨hF, hO, ⟨(show dkN [(1, 1)] (I6 340 7) from dkN_sub f6_340_7 rfl), (show dkN [(0, 90)] (I6 340 8) from dkN_sub f6_340_8 rfl), q2, q5, y7, y8, y9, y10, y11, y12, trivial⟩⟩, dkW_eq ht hW⟩, hS.F ht⟩) hS.2.2 dX6_must_18
set_option maxHeartbeats 4000000 in
set_option maxRecDepth 100000 in
theorem fx_X6_must_9 (l : Launch) (g : dkG) (z : Nat) (I0 : dkI) (p0 : Int32) (dp0 : dkN [(1, 1)] p0) (np0 : dkN [(-1, -1)] (I0 340 8))  (hO : dkOk I0) : Met l yX6_must wsX6_must (dkR 1) (dkPc g z [.ref (z + 340), .int p0] I0) (dkQv g z (fun I1 => dkF [] I0 I1 ∧ dkOk I1 ∧ ((dkN [(-1, -1)] (I1 340 8) ∧ (I0 340 8).toInt + 1 ≤ (0 : Int) ∧ p0.toInt ≠ (0 : Int) ∧ I1 340 7 = I0 340 7 ∧ I1 340 8 = I0 340 8 ∧ I1 340 9 = I0 340 9 ∧ I1 340 10 = I0 340 10 ∧ I1 340 11 = I0 340 11 ∧ I1 340 12 = I0 340 12 ∧ True)))) 0 0 (dkA z) := by
  refine Met.ofW (cc := cX6_must) (maxL := 2) (ret := none) (by decide) rfl ?_
  intro p e s m args below meth c s₁ B hml hv
  obtain ⟨ha, hW, hK, hT⟩ := hv
  have hx := B.exec
  have hb := B.bytes
  have hr := B.returns
  have hts := atoms_spec (ws := wsX6_must) B.pre
  have hown : s.vm.findClass RX6 = some m.cls := findClass_of_methodNamed B.named
  have hlocks := B.notSynchronized
  have hS : va_S (dkA z) s.heap s.heap [] := va_S.rf
  have hF : dkF [] I0 I0 := dkF_rf _ _
  have hl := lv_entry ([.ref (z + 340), .int p0]) (n := 2) (Nat.le_of_ble_eq_true rfl)
  have hgo : entryFrame m args 2 = entryFrame m ([.ref (z + 340), .int p0] : List Value).toArray 2 := by rw [ha]
  rw [hgo, lg_entry_eq]
  generalize (lg_sl ([.ref (z + 340), .int p0]) ++ List.replicate (2 - (lg_sl ([.ref (z + 340), .int p0])).length) Slot.unset).toArray = ls at hl ⊢
  have hl : lv_has ls 2 [(0, .ref (z + 340)), (1, .int p0)] := hl
  refine lv_aload_n hx hb dX6_must_0 rfl (lv_at hl 0 rfl) ?_
  refine dk_Vi (As := []) (rest := []) ⟨hx, hb, hml, hown, hts⟩ (fx_X6_isWell_6 l g z I0 (show dkN [(-1, -1)] (I0 340 8) from dkN_sub np0 rfl) hO) (cwV 0 hts gX6_must_X6_isWell rfl rfl rfl (by decide +kernel) ⟨Nat.le_of_ble_eq_true rfl, Nat.le_of_ble_eq_true rfl⟩) (dk_at340 hW) rfl hK hT hW hS rfl hl.1 rfl (Nat.le_of_ble_eq_true rfl) dX6_must_1 ⟨Nat.zero_le _, Nat.zero_le _⟩ (fun v1 I1 H1 L1 hp1 hW hS => ?_)
  obtain ⟨hF1, hO, hc1⟩ := hp1
  have hF := dkF_call hF hF1 rfl
  have eI1 : I0 = I1 := (dkF_nil hF1).symm
  subst eI1
  obtain ⟨dv1, f1_340_8, x1_0, xr1, -⟩ := hc1
  have q2 : (I0 340 8).toInt + 1 ≤ (0 : Int) := x1_0
  have xv1 : v1 = 1 := by have h := xr1; exact h
  refine lv_if_eq (tgt := 18) hx hb dX6_must_4 (by decide) (fun c3 => ?_) (fun c3 => ?_)
  ·
    exact (dkN_nil (show dkN [] v1 from dkN_eq1 dv1 (dkN_lit (x := 0) (0) rfl) (congrArg Int32.toInt c3) rfl)).elim
  ·
    refine lv_iload_n hx hb dX6_must_7 rfl (lv_at hl 1 rfl) ?_
    refine lv_if_ne (tgt := 18) hx hb dX6_must_8 (by decide) (fun c4 => ?_) (fun c4 => ?_)
    ·
      have q5 : p0.toInt ≠ (0 : Int) := (dk_ne c4)
      exact W.vret hx hb hr (fun t ht hW9 => ⟨⟨I0, rfl, ⟨hF, hO, ⟨(show dkN [(-1, -1)] (I0 340 8) from dkN_sub f1_340_8 rfl), q2, q5, rfl, rfl, rfl, rfl, rfl, rfl, trivial⟩⟩, dkW_eq ht hW⟩, hS.F ht⟩) hS.2.2 dX6_must_18
    ·
      exact (dkN_nil (show dkN [] p0 from dkN_eq1 dp0 (dkN_lit (x := 0) (0) rfl) (congrArg Int32.toInt c4) rfl)).elim
set_option maxHeartbeats 4000000 in
set_option maxRecDepth 100000 in
theorem fx_X6_takes_42 (l : Launch) (g : dkG) (z : Nat) (I0 : dkI) (p0 : Int32) (p1 : Int32) (dp0 : dkN [(0, 0)] p0) (dp1 : dkN [(3, 3)] p1) (np0 : dkN [(-1, -1)] (I0 340 8))  (hO : dkOk I0) : Met l yX6_takes wsX6_takes (dkR 1) (dkPc g z [.ref (z + 340), .int p0, .int p1] I0) (dkQi g z (fun r I1 => dkF [(340, 340, 7, 8)] I0 I1 ∧ dkOk I1 ∧ ((dkN [(0, 0)] r ∧ dkN [(3, 3)] (I1 340 7) ∧ dkN [(0, 90)] (I1 340 8) ∧ (I0 340 8).toInt + 1 ≤ (0 : Int) ∧ p0.toInt = (0 : Int) ∧ r = 0 ∧ I1 340 7 = p1 ∧ I1 340 8 = I0 340 10 ∧ I1 340 9 = I0 340 9 ∧ I1 340 10 = I0 340 10 ∧ I1 340 11 = I0 340 11 ∧ I1 340 12 = I0 340 12 ∧ True)))) 0 0 (dkA z) := by
  refine Met.ofW (cc := cX6_takes) (maxL := 4) (ret := (some .int)) (by decide) rfl ?_
  intro p e s m args below meth c s₁ B hml hv
  obtain ⟨ha, hW, hK, hT⟩ := hv
  have hx := B.exec
  have hb := B.bytes
  have hr := B.returns
  have hts := atoms_spec (ws := wsX6_takes) B.pre
  have hown : s.vm.findClass RX6 = some m.cls := findClass_of_methodNamed B.named
  have hlocks := B.notSynchronized
  have hS : va_S (dkA z) s.heap s.heap [] := va_S.rf
  have hF : dkF [(340, 340, 7, 8)] I0 I0 := dkF_rf _ _
  have hl := lv_entry ([.ref (z + 340), .int p0, .int p1]) (n := 4) (Nat.le_of_ble_eq_true rfl)
  have hgo : entryFrame m args 4 = entryFrame m ([.ref (z + 340), .int p0, .int p1] : List Value).toArray 4 := by rw [ha]
  rw [hgo, lg_entry_eq]
  generalize (lg_sl ([.ref (z + 340), .int p0, .int p1]) ++ List.replicate (4 - (lg_sl ([.ref (z + 340), .int p0, .int p1])).length) Slot.unset).toArray = ls at hl ⊢
  have hl : lv_has ls 4 [(0, .ref (z + 340)), (1, .int p0), (2, .int p1)] := hl
  refine lv_aload_n hx hb dX6_takes_0 rfl (lv_at hl 0 rfl) ?_
  refine dk_Vi (As := []) (rest := []) ⟨hx, hb, hml, hown, hts⟩ (fx_X6_isWell_6 l g z I0 (show dkN [(-1, -1)] (I0 340 8) from dkN_sub np0 rfl) hO) (cwV 0 hts gX6_takes_X6_isWell rfl rfl rfl (by decide +kernel) ⟨Nat.le_of_ble_eq_true rfl, Nat.le_of_ble_eq_true rfl⟩) (dk_at340 hW) rfl hK hT hW hS rfl hl.1 rfl (Nat.le_of_ble_eq_true rfl) dX6_takes_1 ⟨Nat.zero_le _, Nat.zero_le _⟩ (fun v1 I1 H1 L1 hp1 hW hS => ?_)
  obtain ⟨hF1, hO, hc1⟩ := hp1
  have hF := dkF_call hF hF1 rfl
  have eI1 : I0 = I1 := (dkF_nil hF1).symm
  subst eI1
  obtain ⟨dv1, f1_340_8, x1_0, xr1, -⟩ := hc1
  have q2 : (I0 340 8).toInt + 1 ≤ (0 : Int) := x1_0
  have xv1 : v1 = 1 := by have h := xr1; exact h
  refine lv_if_ne (tgt := 9) hx hb dX6_takes_4 (by decide) (fun c3 => ?_) (fun c3 => ?_)
  ·
    refine lv_iload_n hx hb dX6_takes_9 rfl (lv_at hl 1 rfl) ?_
    refine lv_if_ne (tgt := 28) hx hb dX6_takes_10 (by decide) (fun c4 => ?_) (fun c4 => ?_)
    ·
      exact (dkN_nil (show dkN [] p0 from dkN_ne1 (0) dp0 (dkN_lit (x := 0) (0) rfl) (dk_ne c4) rfl)).elim
    ·
      have q5 : p0.toInt = (0 : Int) := (congrArg Int32.toInt c4)
      refine lv_aload_n hx hb dX6_takes_13 rfl (lv_at hl 0 rfl) ?_
      refine lv_aload_n hx hb dX6_takes_14 rfl (lv_at hl 0 rfl) ?_
      refine dk_get (k := 340) hx hb hts iX6_takes_6 hown hK (dk_at340 hW) rfl 10 (by decide) (hts (.fieldLink RX6 89 "DogKingsModel" "start" "I") (List.mem_of_getElem? (i := 1) rfl)) rfl dX6_takes_15 ?_
      refine lv_topi (fun v6 ev6 => ?_)
      have dv6 : dkN [(0, 90)] v6 := by rw [ev6]; exact (hO 340 10)
      have xv6 : v6 = I0 340 10 := ev6.trans rfl
      refine dk_put (k := 340) hx hb hts iX6_takes_6 tyX6 tyX6_ok nmX6 hown hK hW (dk_at340 hW) hS rfl 8 (by decide) (hts (.fieldLink RX6 101 "DogKingsModel" "faultPlace" "I") (List.mem_of_getElem? (i := 2) rfl)) rfl rfl (Nat.le_of_ble_eq_true rfl) rfl dX6_takes_18 (fun I7 H7 L7 eI7 hW hS => ?_)
      have eI7 : I7 = dkU I0 340 8 v6 := eI7
      have hO := dkO_set hO eI7 (dkN_sub dv6 rfl)
      have hF := dkF_set hF eI7 rfl
      refine lv_aload_n hx hb dX6_takes_21 rfl (lv_at hl 0 rfl) ?_
      refine lv_iload_n hx hb dX6_takes_22 rfl (lv_at hl 2 rfl) ?_
      refine dk_put (k := 340) hx hb hts iX6_takes_6 tyX6 tyX6_ok nmX6 hown hK hW (dk_at340 hW) hS rfl 7 (by decide) (hts (.fieldLink RX6 108 "DogKingsModel" "faultKind" "I") (List.mem_of_getElem? (i := 3) rfl)) rfl rfl (Nat.le_of_ble_eq_true rfl) rfl dX6_takes_23 (fun I8 H8 L8 eI8 hW hS => ?_)
      have eI8 : I8 = dkU I7 340 7 p1 := eI8
      have hO := dkO_set hO eI8 (dkN_sub dp1 rfl)
      have hF := dkF_set hF eI8 rfl
      refine lv_iconst (v := 0) hx hb dX6_takes_26 (by decide) ?_
      exact W.iret (v := 0) hx hb hr (fun t ht hW9 => ⟨⟨0, I8, rfl, ⟨hF, hO, ⟨dkN_sub (dkN_lit (x := 0) (0) rfl) rfl, (show dkN [(3, 3)] (I8 340 7) from dkN_sub (by rw [eI8, dkU_ss]; exact dp1) rfl), (show dkN [(0, 90)] (I8 340 8) from dkN_sub (by rw [eI8, dkU_sn (by decide)]; exact (by rw [eI7, dkU_ss]; exact dv6)) rfl), q2, q5, rfl, (by rw [eI8, dkU_ss]), ((by rw [eI8, dkU_sn (by decide)] : I8 340 8 = _).trans (by rw [eI7, dkU_ss, xv6])), ((by rw [eI8, dkU_sn (by decide)] : I8 340 9 = _).trans ((by rw [eI7, dkU_sn (by decide)] : I7 340 9 = _).trans rfl)), ((by rw [eI8, dkU_sn (by decide)] : I8 340 10 = _).trans ((by rw [eI7, dkU_sn (by decide)] : I7 340 10 = _).trans rfl)), ((by rw [eI8, dkU_sn (by decide)] : I8 340 11 = _).trans ((by rw [eI7, dkU_sn (by decide)] : I7 340 11 = _).trans rfl)), ((by rw [eI8, dkU_sn (by decide)] : I8 340 12 = _).trans ((by rw [eI7, dkU_sn (by decide)] : I7 340 12 = _).trans rfl)), trivial⟩⟩, dkW_eq ht hW⟩, hS.F ht⟩) hS.2.2 dX6_takes_27
  ·
    exact (dkN_nil (show dkN [] v1 from dkN_eq1 dv1 (dkN_lit (x := 0) (0) rfl) (congrArg Int32.toInt c3) rfl)).elim
set_option maxHeartbeats 4000000 in
set_option maxRecDepth 100000 in
theorem fx_X6_takes_43 (l : Launch) (g : dkG) (z : Nat) (I0 : dkI) (p0 : Int32) (p1 : Int32) (dp0 : dkN [(1, 1)] p0) (dp1 : dkN [(3, 3)] p1) (np0 : dkN [(-1, -1)] (I0 340 8))  (hO : dkOk I0) : Met l yX6_takes wsX6_takes (dkR 2) (dkPc g z [.ref (z + 340), .int p0, .int p1] I0) (dkQi g z (fun r I1 => dkF [(340, 340, 9, 12)] I0 I1 ∧ dkOk I1 ∧ ((True ∧ dkN [(0, 5)] (I1 340 11) ∧ dkN [(-1, -1)] (I1 340 8) ∧ (I0 340 8).toInt + 1 ≤ (0 : Int) ∧ p0.toInt ≠ (0 : Int) ∧ r = I0 340 12 ∧ I1 340 7 = I0 340 7 ∧ I1 340 8 = I0 340 8 ∧ I1 340 9 = dkTe (I0 345) (I0 340 6) (I0 340 9) ∧ I1 340 10 = I0 340 9 ∧ I1 340 11 = dkTk (I0 345) (I0 340 6) (I0 340 9) ∧ I1 340 12 = dkTv (I0 345) (I0 340 6) (I0 340 9) ∧ True)))) 0 0 (dkA z) := by
  refine Met.ofW (cc := cX6_takes) (maxL := 4) (ret := (some .int)) (by decide) rfl ?_
  intro p e s m args below meth c s₁ B hml hv
  obtain ⟨ha, hW, hK, hT⟩ := hv
  have hx := B.exec
  have hb := B.bytes
  have hr := B.returns
  have hts := atoms_spec (ws := wsX6_takes) B.pre
  have hown : s.vm.findClass RX6 = some m.cls := findClass_of_methodNamed B.named
  have hlocks := B.notSynchronized
  have hS : va_S (dkA z) s.heap s.heap [] := va_S.rf
  have hF : dkF [(340, 340, 9, 12)] I0 I0 := dkF_rf _ _
  have hl := lv_entry ([.ref (z + 340), .int p0, .int p1]) (n := 4) (Nat.le_of_ble_eq_true rfl)
  have hgo : entryFrame m args 4 = entryFrame m ([.ref (z + 340), .int p0, .int p1] : List Value).toArray 4 := by rw [ha]
  rw [hgo, lg_entry_eq]
  generalize (lg_sl ([.ref (z + 340), .int p0, .int p1]) ++ List.replicate (4 - (lg_sl ([.ref (z + 340), .int p0, .int p1])).length) Slot.unset).toArray = ls at hl ⊢
  have hl : lv_has ls 4 [(0, .ref (z + 340)), (1, .int p0), (2, .int p1)] := hl
  refine lv_aload_n hx hb dX6_takes_0 rfl (lv_at hl 0 rfl) ?_
  refine dk_Vi (As := []) (rest := []) ⟨hx, hb, hml, hown, hts⟩ (fx_X6_isWell_6 l g z I0 (show dkN [(-1, -1)] (I0 340 8) from dkN_sub np0 rfl) hO) (cwV 0 hts gX6_takes_X6_isWell rfl rfl rfl (by decide +kernel) ⟨Nat.le_of_ble_eq_true rfl, Nat.le_of_ble_eq_true rfl⟩) (dk_at340 hW) rfl hK hT hW hS rfl hl.1 rfl (Nat.le_of_ble_eq_true rfl) dX6_takes_1 ⟨Nat.zero_le _, Nat.zero_le _⟩ (fun v1 I1 H1 L1 hp1 hW hS => ?_)
  obtain ⟨hF1, hO, hc1⟩ := hp1
  have hF := dkF_call hF hF1 rfl
  have eI1 : I0 = I1 := (dkF_nil hF1).symm
  subst eI1
  obtain ⟨dv1, f1_340_8, x1_0, xr1, -⟩ := hc1
  have q2 : (I0 340 8).toInt + 1 ≤ (0 : Int) := x1_0
  have xv1 : v1 = 1 := by have h := xr1; exact h
  refine lv_if_ne (tgt := 9) hx hb dX6_takes_4 (by decide) (fun c3 => ?_) (fun c3 => ?_)
  ·
    refine lv_iload_n hx hb dX6_takes_9 rfl (lv_at hl 1 rfl) ?_
    refine lv_if_ne (tgt := 28) hx hb dX6_takes_10 (by decide) (fun c4 => ?_) (fun c4 => ?_)
    ·
      have q5 : p0.toInt ≠ (0 : Int) := (dk_ne c4)
      refine lv_aload_n hx hb dX6_takes_28 rfl (lv_at hl 0 rfl) ?_
      refine dk_get (k := 340) hx hb hts iX6_takes_6 hown hK (dk_at340 hW) rfl 12 (by decide) (hts (.fieldLink RX6 95 "DogKingsModel" "value" "I") (List.mem_of_getElem? (i := 4) rfl)) rfl dX6_takes_29 ?_
      refine lv_topi (fun v6 ev6 => ?_)
      have xv6 : v6 = I0 340 12 := ev6.trans rfl
      refine lv_istore_n (lv' := [(3, .int v6), (0, .ref (z + 340)), (1, .int p0), (2, .int p1)]) hx hb dX6_takes_32 rfl hl (by decide) rfl (fun ls hl => ?_)
      refine lv_aload_n hx hb dX6_takes_33 rfl (lv_at hl 1 rfl) ?_
      refine dk_Vv (As := []) (rest := []) ⟨hx, hb, hml, hown, hts⟩ (fx_X6_advances_1 l g z I0 hO) (cwV 0 hts gX6_takes_X6_advances rfl rfl rfl (by decide +kernel) ⟨Nat.le_of_ble_eq_true rfl, Nat.le_of_ble_eq_true rfl⟩) (dk_at340 hW) rfl hK hT hW hS rfl hl.1 rfl (Nat.le_of_ble_eq_true rfl) dX6_takes_34 ⟨Nat.zero_le _, Nat.zero_le _⟩ (fun I7 H7 L7 hp7 hW hS => ?_)
      obtain ⟨hF7, hO, hc7⟩ := hp7
      have hF := dkF_call hF hF7 rfl
      obtain ⟨f7_340_11, xh7_0, xh7_1, xh7_2, xh7_3, -⟩ := hc7
      have y8 : I7 340 9 = dkTe (I0 345) (I0 340 6) (I0 340 9) := by have h := xh7_0; exact h
      have y9 : I7 340 10 = I0 340 9 := by have h := xh7_1; exact h
      have y10 : I7 340 11 = dkTk (I0 345) (I0 340 6) (I0 340 9) := by have h := xh7_2; exact h
      have y11 : I7 340 12 = dkTv (I0 345) (I0 340 6) (I0 340 9) := by have h := xh7_3; exact h
      refine lv_iload_n hx hb dX6_takes_37 rfl (lv_at hl 0 rfl) ?_
      exact W.iret (v := v6) hx hb hr (fun t ht hW9 => ⟨⟨v6, I7, rfl, ⟨hF, hO, ⟨trivial, (show dkN [(0, 5)] (I7 340 11) from dkN_sub f7_340_11 rfl), (show dkN [(-1, -1)] (I7 340 8) from dkN_sub (by rw [hF7 340 8 rfl]; exact f1_340_8) rfl), q2, q5, xv6, ((hF7 340 7 rfl).trans rfl), ((hF7 340 8 rfl).trans rfl), y8, y9, y10, y11, trivial⟩⟩, dkW_eq ht hW⟩, hS.F ht⟩) hS.2.2 dX6_takes_38
    ·
      exact (dkN_nil (show dkN [] p0 from dkN_eq1 dp0 (dkN_lit (x := 0) (0) rfl) (congrArg Int32.toInt c4) rfl)).elim
  ·
    exact (dkN_nil (show dkN [] v1 from dkN_eq1 dv1 (dkN_lit (x := 0) (0) rfl) (congrArg Int32.toInt c3) rfl)).elim
set_option maxHeartbeats 4000000 in
set_option maxRecDepth 100000 in
theorem fx_X6_in_30 (l : Launch) (g : dkG) (z : Nat) (I0 : dkI) (p0 : Int32) (p1 : Int32) (p2 : Int32) (dp1 : dkN [(0, 0)] p1) (dp2 : dkN [(2, 8)] p2)  (hO : dkOk I0) : Met l yX6_in wsX6_in (dkR 0) (dkPc g z [.int p0, .int p1, .int p2] I0) (dkQi g z (fun r I1 => dkF [] I0 I1 ∧ dkOk I1 ∧ ((dkN [(0, 0)] r ∧ dkN [(-2147483648, -1)] p0 ∧ p0.toInt + 1 ≤ p1.toInt ∧ r = 0 ∧ True) ∨ (dkN [(0, 0)] r ∧ dkN [(3, 2147483647)] p0 ∧ p1.toInt + 0 ≤ p0.toInt ∧ p2.toInt + 1 ≤ p0.toInt ∧ r = 0 ∧ True) ∨ (dkN [(1, 1)] r ∧ dkN [(0, 8)] p0 ∧ p1.toInt + 0 ≤ p0.toInt ∧ p0.toInt + 0 ≤ p2.toInt ∧ r = 1 ∧ True)))) 0 0 (dkA z) := by
  refine Met.ofW (cc := cX6_in) (maxL := 3) (ret := (some .boolean)) (by decide) rfl ?_
  intro p e s m args below meth c s₁ B hml hv
  obtain ⟨ha, hW, hK, hT⟩ := hv
  have hx := B.exec
  have hb := B.bytes
  have hr := B.returns
  have hts := atoms_spec (ws := wsX6_in) B.pre
  have hown : s.vm.findClass RX6 = some m.cls := findClass_of_methodNamed B.named
  have hlocks := B.notSynchronized
  have hS : va_S (dkA z) s.heap s.heap [] := va_S.rf
  have hF : dkF [] I0 I0 := dkF_rf _ _
  have hl := lv_entry ([.int p0, .int p1, .int p2]) (n := 3) (Nat.le_of_ble_eq_true rfl)
  have hgo : entryFrame m args 3 = entryFrame m ([.int p0, .int p1, .int p2] : List Value).toArray 3 := by rw [ha]
  rw [hgo, lg_entry_eq]
  generalize (lg_sl ([.int p0, .int p1, .int p2]) ++ List.replicate (3 - (lg_sl ([.int p0, .int p1, .int p2])).length) Slot.unset).toArray = ls at hl ⊢
  have hl : lv_has ls 3 [(0, .int p0), (1, .int p1), (2, .int p2)] := hl
  refine lv_iload_n hx hb dX6_in_0 rfl (lv_at hl 0 rfl) ?_
  refine lv_iload_n hx hb dX6_in_1 rfl (lv_at hl 1 rfl) ?_
  refine lv_icmp_lt (tgt := 14) hx hb dX6_in_2 (by decide) (fun c1 => ?_) (fun c1 => ?_)
  ·
    have q2 : p0.toInt + 1 ≤ p1.toInt := (dkc_lt c1)
    have d3 : dkN [(-2147483648, -1)] p0 := dkN_le1 1 (dkN_top p0) dp1 (dkc_lt c1) rfl
    refine lv_iconst (v := 0) hx hb dX6_in_14 (by decide) ?_
    exact W.zret (v := 0) (ty := .boolean) hx hb hr rfl (fun t ht hW9 => ⟨⟨0, I0, rfl, ⟨hF, hO, Or.inl ⟨dkN_sub (dkN_lit (x := 0) (0) rfl) rfl, dkN_sub d3 rfl, q2, rfl, trivial⟩⟩, dkW_eq ht hW⟩, hS.F ht⟩) hS.2.2 dX6_in_15
  ·
    have q4 : p1.toInt + 0 ≤ p0.toInt := (dkc_nlt c1)
    have d5 : dkN [(0, 2147483647)] p0 := dkN_le2 0 dp1 (dkN_top p0) (dkc_nlt c1) rfl
    refine lv_iload_n hx hb dX6_in_5 rfl (lv_at hl 0 rfl) ?_
    refine lv_iload_n hx hb dX6_in_6 rfl (lv_at hl 2 rfl) ?_
    refine lv_icmp_gt (tgt := 14) hx hb dX6_in_7 (by decide) (fun c6 => ?_) (fun c6 => ?_)
    ·
      have q7 : p2.toInt + 1 ≤ p0.toInt := (dkc_lt c6)
      have d8 : dkN [(3, 2147483647)] p0 := dkN_le2 1 dp2 d5 (dkc_lt c6) rfl
      refine lv_iconst (v := 0) hx hb dX6_in_14 (by decide) ?_
      exact W.zret (v := 0) (ty := .boolean) hx hb hr rfl (fun t ht hW9 => ⟨⟨0, I0, rfl, ⟨hF, hO, Or.inr (Or.inl ⟨dkN_sub (dkN_lit (x := 0) (0) rfl) rfl, dkN_sub d8 rfl, q4, q7, rfl, trivial⟩)⟩, dkW_eq ht hW⟩, hS.F ht⟩) hS.2.2 dX6_in_15
    ·
      have q9 : p0.toInt + 0 ≤ p2.toInt := (dkc_nlt c6)
      have d10 : dkN [(0, 8)] p0 := dkN_le1 0 d5 dp2 (dkc_nlt c6) rfl
      refine lv_iconst (v := 1) hx hb dX6_in_10 (by decide) ?_
      refine lv_goto (tgt := 15) hx hb dX6_in_11 (by decide) ?_
      exact W.zret (v := 1) (ty := .boolean) hx hb hr rfl (fun t ht hW9 => ⟨⟨1, I0, rfl, ⟨hF, hO, Or.inr (Or.inr (⟨dkN_sub (dkN_lit (x := 1) (1) rfl) rfl, dkN_sub d10 rfl, q4, q9, rfl, trivial⟩))⟩, dkW_eq ht hW⟩, hS.F ht⟩) hS.2.2 dX6_in_15
