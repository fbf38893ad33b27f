set_option maxHeartbeats 4000000 in
set_option maxRecDepth 100000 in
theorem fx_X5_isDog_1 (l : Launch) (g : dkG) (z : Nat) (I0 : dkI) (p0 : Int32)  (hO : dkOk I0) : Met l yX5_isDog wsX5_isDog (dkR 0) (dkPc g z [.ref (z + 0), .int p0] I0) (dkQi g z (fun r I1 => dkF [] I0 I1 ∧ dkOk I1 ∧ ((dkN [(0, 0)] r ∧ dkN [(-2147483648, -1)] p0 ∧ p0.toInt + 1 ≤ (0 : Int) ∧ r = 0 ∧ True) ∨ (dkN [(0, 0)] r ∧ dkN [(0, 2147483647)] p0 ∧ (0 : Int) + 0 ≤ p0.toInt ∧ (I0 25 11).toInt + 0 ≤ p0.toInt ∧ r = 0 ∧ True) ∨ (dkN [(1, 1)] r ∧ dkN [(0, 5)] p0 ∧ dkN [(1, 6)] (I1 25 11) ∧ (0 : Int) + 0 ≤ p0.toInt ∧ p0.toInt + 1 ≤ (I0 25 11).toInt ∧ r = 1 ∧ True)))) 0 0 (dkA z) := by
  refine Met.ofW (cc := cX5_isDog) (maxL := 2) (ret := (some .boolean)) (by decide) rfl ?_
  intro p e s m args below meth c s₁ B hml hv
  obtain ⟨ha, hW, hK, hT⟩ := hv
  have hx := B.exec
  have hb := B.bytes
  have hr := B.returns
  have hts := atoms_spec (ws := wsX5_isDog) B.pre
  have hown : s.vm.findClass RX5 = some m.cls := findClass_of_methodNamed B.named
  have hlocks := B.notSynchronized
  have hS : va_S (dkA z) s.heap s.heap [] := va_S.rf
  have hF : dkF [] I0 I0 := dkF_rf _ _
  have hl := lv_entry ([.ref (z + 0), .int p0]) (n := 2) (Nat.le_of_ble_eq_true rfl)
  have hgo : entryFrame m args 2 = entryFrame m ([.ref (z + 0), .int p0] : List Value).toArray 2 := by rw [ha]
  rw [hgo, lg_entry_eq]
  generalize (lg_sl ([.ref (z + 0), .int p0]) ++ List.replicate (2 - (lg_sl ([.ref (z + 0), .int p0])).length) Slot.unset).toArray = ls at hl ⊢
  have hl : lv_has ls 2 [(0, .ref (z + 0)), (1, .int p0)] := hl
  refine lv_iload_n hx hb dX5_isDog_0 rfl (lv_at hl 1 rfl) ?_
  refine lv_if_lt (tgt := 19) hx hb dX5_isDog_1 (by decide) (fun c1 => ?_) (fun c1 => ?_)
  ·
    have q2 : p0.toInt + 1 ≤ (0 : Int) := (dkc_lt c1)
    have d3 : dkN [(-2147483648, -1)] p0 := dkN_le1 1 (dkN_top p0) (dkN_lit (x := 0) (0) rfl) (dkc_lt c1) rfl
    refine lv_iconst (v := 0) hx hb dX5_isDog_19 (by decide) ?_
    exact W.zret (v := 0) (ty := .boolean) hx hb hr rfl (fun t ht hW9 => ⟨⟨0, I0, rfl, ⟨hF, hO, Or.inl ⟨dkN_sub (dkN_lit (x := 0) (0) rfl) rfl, dkN_sub d3 rfl, q2, rfl, trivial⟩⟩, dkW_eq ht hW⟩, hS.F ht⟩) hS.2.2 dX5_isDog_20
  ·
    have q4 : (0 : Int) + 0 ≤ p0.toInt := (dkc_nlt c1)
    have d5 : dkN [(0, 2147483647)] p0 := dkN_le2 0 (dkN_lit (x := 0) (0) rfl) (dkN_top p0) (dkc_nlt c1) rfl
    refine lv_iload_n hx hb dX5_isDog_4 rfl (lv_at hl 1 rfl) ?_
    refine lv_aload_n hx hb dX5_isDog_5 rfl (lv_at hl 0 rfl) ?_
    refine dk_get (k := 0) hx hb hts iX5_isDog_5 hown hK (dk_at0 hW) rfl 5 (by decide) (hts (.fieldLink RX5 31 "DogKings" "now" "LDogKings$Town;") (List.mem_of_getElem? (i := 1) rfl)) rfl dX5_isDog_6 ?_
    refine dk_get (k := 25) hx hb hts iX5_isDog_4 hown hK (dk_at25 hW) rfl 11 (by decide) (hts (.fieldLink RX5 120 "DogKings$Town" "dogs" "I") (List.mem_of_getElem? (i := 2) rfl)) rfl dX5_isDog_9 ?_
    refine lv_topi (fun v6 ev6 => ?_)
    have dv6 : dkN [(0, 6)] v6 := by rw [ev6]; exact (hO 25 11)
    have xv6 : v6 = I0 25 11 := ev6.trans rfl
    refine lv_icmp_ge (tgt := 19) hx hb dX5_isDog_12 (by decide) (fun c7 => ?_) (fun c7 => ?_)
    ·
      have q8 : (I0 25 11).toInt + 0 ≤ p0.toInt := by first | (rw [← xv6]; exact (dkc_le c7)) | (subst xv6; exact (dkc_le c7))
      refine lv_iconst (v := 0) hx hb dX5_isDog_19 (by decide) ?_
      exact W.zret (v := 0) (ty := .boolean) hx hb hr rfl (fun t ht hW9 => ⟨⟨0, I0, rfl, ⟨hF, hO, Or.inr (Or.inl ⟨dkN_sub (dkN_lit (x := 0) (0) rfl) rfl, dkN_sub d5 rfl, q4, q8, rfl, trivial⟩)⟩, dkW_eq ht hW⟩, hS.F ht⟩) hS.2.2 dX5_isDog_20
    ·
      have q9 : p0.toInt + 1 ≤ (I0 25 11).toInt := by first | (rw [← xv6]; exact (dkc_nle c7)) | (subst xv6; exact (dkc_nle c7))
      have d10 : dkN [(1, 6)] v6 := dkN_le2 1 d5 dv6 (dkc_nle c7) rfl
      have f11 : dkN [(1, 6)] (I0 25 11) := by rw [← ev6]; exact d10
      have d12 : dkN [(0, 5)] p0 := dkN_le1 1 d5 dv6 (dkc_nle c7) rfl
      refine lv_iconst (v := 1) hx hb dX5_isDog_15 (by decide) ?_
      refine lv_goto (tgt := 20) hx hb dX5_isDog_16 (by decide) ?_
      exact W.zret (v := 1) (ty := .boolean) hx hb hr rfl (fun t ht hW9 => ⟨⟨1, I0, rfl, ⟨hF, hO, Or.inr (Or.inr (⟨dkN_sub (dkN_lit (x := 1) (1) rfl) rfl, dkN_sub d12 rfl, (show dkN [(1, 6)] (I0 25 11) from dkN_sub f11 rfl), q4, q9, rfl, trivial⟩))⟩, dkW_eq ht hW⟩, hS.F ht⟩) hS.2.2 dX5_isDog_20
set_option maxHeartbeats 4000000 in
set_option maxRecDepth 100000 in
theorem fx_X5_ask_1 (l : Launch) (g : dkG) (z : Nat) (I0 : dkI) (p0 : Int32) (p1 : Int32)  (tp0 : (I0 25 11).toInt + 0 ≤ p0.toInt) (hO : dkOk I0) : Met l yX5_ask wsX5_ask (dkR 1) (dkPc g z [.ref (z + 0), .int p0, .int p1] I0) (dkQi g z (fun r I1 => dkF [] I0 I1 ∧ dkOk I1 ∧ ((dkN [(-1000001, -1000001)] r ∧ dkN [(-2147483648, -1)] p0 ∧ (I0 25 11).toInt + 0 ≤ p0.toInt ∧ p0.toInt + 1 ≤ (0 : Int) ∧ r = (-1000001) ∧ I1 338 2 = I0 338 2 ∧ I1 339 0 = I0 339 0 ∧ I1 339 1 = I0 339 1 ∧ I1 339 2 = I0 339 2 ∧ I1 339 3 = I0 339 3 ∧ I1 339 4 = I0 339 4 ∧ I1 339 5 = I0 339 5 ∧ I1 339 6 = I0 339 6 ∧ I1 339 7 = I0 339 7 ∧ I1 339  = I0 339 ∧ True) ∨ (dkN [(-1000001, -1000001)] r ∧ dkN [(0, 2147483647)] p0 ∧ (I0 25 11).toInt + 0 ≤ p0.toInt ∧ (0 : Int) + 0 ≤ p0.toInt ∧ r = (-1000001) ∧ I1 338 2 = I0 338 2 ∧ I1 339 0 = I0 339 0 ∧ I1 339 1 = I0 339 1 ∧ I1 339 2 = I0 339 2 ∧ I1 339 3 = I0 339 3 ∧ I1 339 4 = I0 339 4 ∧ I1 339 5 = I0 339 5 ∧ I1 339 6 = I0 339 6 ∧ I1 339 7 = I0 339 7 ∧ I1 339  = I0 339 ∧ True)))) 0 0 (dkA z) := by
  refine Met.ofW (cc := cX5_ask) (maxL := 3) (ret := (some .int)) (by decide) rfl ?_
  intro p e s m args below meth c s₁ B hml hv
  obtain ⟨ha, hW, hK, hT⟩ := hv
  have hx := B.exec
  have hb := B.bytes
  have hr := B.returns
  have hts := atoms_spec (ws := wsX5_ask) B.pre
  have hown : s.vm.findClass RX5 = some m.cls := findClass_of_methodNamed B.named
  have hlocks := B.notSynchronized
  have hS : va_S (dkA z) s.heap s.heap [] := va_S.rf
  have hF : dkF [] I0 I0 := dkF_rf _ _
  have hl := lv_entry ([.ref (z + 0), .int p0, .int p1]) (n := 3) (Nat.le_of_ble_eq_true rfl)
  have hgo : entryFrame m args 3 = entryFrame m ([.ref (z + 0), .int p0, .int p1] : List Value).toArray 3 := by rw [ha]
  rw [hgo, lg_entry_eq]
  generalize (lg_sl ([.ref (z + 0), .int p0, .int p1]) ++ List.replicate (3 - (lg_sl ([.ref (z + 0), .int p0, .int p1])).length) Slot.unset).toArray = ls at hl ⊢
  have hl : lv_has ls 3 [(0, .ref (z + 0)), (1, .int p0), (2, .int p1)] := hl
  refine lv_aload_n hx hb dX5_ask_0 rfl (lv_at hl 0 rfl) ?_
  refine lv_iload_n hx hb dX5_ask_1 rfl (lv_at hl 1 rfl) ?_
  refine dk_Vi (As := [.int p0]) (rest := []) ⟨hx, hb, hml, hown, hts⟩ (fx_X5_isDog_1 l g z I0 p0 hO) (cwV 1 hts gX5_ask_X5_isDog rfl rfl rfl (by decide +kernel) ⟨Nat.le_of_ble_eq_true rfl, Nat.le_of_ble_eq_true rfl⟩) (dk_at0 hW) rfl hK hT hW hS rfl hl.1 rfl (Nat.le_of_ble_eq_true rfl) dX5_ask_2 ⟨Nat.zero_le _, Nat.zero_le _⟩ (fun v1 I1 H1 L1 hp1 hW hS => ?_)
  obtain ⟨hF1, hO, hc1⟩ := hp1
  have hF := dkF_call hF hF1 rfl
  have eI1 : I0 = I1 := (dkF_nil hF1).symm
  subst eI1
  rcases hc1 with ⟨dv1, a1_0, x1_0, xr1, -⟩ | hc1
  ·
    have q2 : p0.toInt + 1 ≤ (0 : Int) := x1_0
    have xv1 : v1 = 0 := by have h := xr1; exact h
    have d3 : dkN [(-2147483648, -1)] p0 := dkN_eq1 (dkN_top p0) a1_0 rfl rfl
    have z4 : v1 = 0 := xv1
    subst z4
    refine lv_if_eq (tgt := 28) hx hb dX5_ask_5 (by decide) (fun c5 => ?_) (fun c5 => ?_)
    ·
      refine lv_ldc (v := (-1000001)) hx hb hown (hts (.constant RX5 70 (-1000001)) (List.mem_of_getElem? (i := 2) rfl)) dX5_ask_28 ?_
      exact W.iret (v := (-1000001)) hx hb hr (fun t ht hW9 => ⟨⟨(-1000001), I0, rfl, ⟨hF, hO, Or.inl ⟨dkN_sub (dkN_lit (x := (-1000001)) (-1000001) rfl) rfl, dkN_sub d3 rfl, tp0, q2, rfl, rfl, rfl, rfl, rfl, rfl, rfl, rfl, rfl, rfl, rfl, trivial⟩⟩, dkW_eq ht hW⟩, hS.F ht⟩) hS.2.2 dX5_ask_30
    ·
      exact (dkN_nil (show dkN [] 0 from dkN_ne1 (0) (dkN_lit (x := 0) (0) rfl) (dkN_lit (x := 0) (0) rfl) (dk_ne c5) rfl)).elim
  rcases hc1 with ⟨dv1, a1_0, x1_0, x1_1, xr1, -⟩ | hc1
  ·
    have q6 : (0 : Int) + 0 ≤ p0.toInt := x1_0
    have xv1 : v1 = 0 := by have h := xr1; exact h
    have d7 : dkN [(0, 2147483647)] p0 := dkN_eq1 (dkN_top p0) a1_0 rfl rfl
    have z8 : v1 = 0 := xv1
    subst z8
    refine lv_if_eq (tgt := 28) hx hb dX5_ask_5 (by decide) (fun c9 => ?_) (fun c9 => ?_)
    ·
      refine lv_ldc (v := (-1000001)) hx hb hown (hts (.constant RX5 70 (-1000001)) (List.mem_of_getElem? (i := 2) rfl)) dX5_ask_28 ?_
      exact W.iret (v := (-1000001)) hx hb hr (fun t ht hW9 => ⟨⟨(-1000001), I0, rfl, ⟨hF, hO, Or.inr (⟨dkN_sub (dkN_lit (x := (-1000001)) (-1000001) rfl) rfl, dkN_sub d7 rfl, tp0, q6, rfl, rfl, rfl, rfl, rfl, rfl, rfl, rfl, rfl, rfl, rfl, trivial⟩)⟩, dkW_eq ht hW⟩, hS.F ht⟩) hS.2.2 dX5_ask_30
    ·
      exact (dkN_nil (show dkN [] 0 from dkN_ne1 (0) (dkN_lit (x := 0) (0) rfl) (dkN_lit (x := 0) (0) rfl) (dk_ne c9) rfl)).elim
  ·
    obtain ⟨dv1, a1_0, f1_25_11, x1_0, x1_1, xr1, -⟩ := hc1
    have q10 : (0 : Int) + 0 ≤ p0.toInt := x1_0
    have q11 : p0.toInt + 1 ≤ (I0 25 11).toInt := x1_1
    exfalso; omega
set_option maxHeartbeats 4000000 in
set_option maxRecDepth 100000 in
theorem fx_X6_in_37 (l : Launch) (g : dkG) (z : Nat) (I0 : dkI) (p0 : Int32) (p1 : Int32) (p2 : Int32) (dp1 : dkN [(0, 0)] p1) (dp2 : dkN [(-1, 5)] p2)  (hO : dkOk I0) : Met l yX6_in wsX6_in (dkR 0) (dkPc g z [.int p0, .int p1, .int p2] I0) (dkQi g z (fun r I1 => dkF [] I0 I1 ∧ dkOk I1 ∧ ((dkN [(0, 0)] r ∧ dkN [(-2147483648, -1)] p0 ∧ p0.toInt + 1 ≤ p1.toInt ∧ r = 0 ∧ True) ∨ (dkN [(0, 0)] r ∧ dkN [(0, 2147483647)] p0 ∧ p1.toInt + 0 ≤ p0.toInt ∧ p2.toInt + 1 ≤ p0.toInt ∧ r = 0 ∧ True) ∨ (dkN [(1, 1)] r ∧ dkN [(0, 5)] p0 ∧ dkN [(0, 5)] p2 ∧ p1.toInt + 0 ≤ p0.toInt ∧ p0.toInt + 0 ≤ p2.toInt ∧ r = 1 ∧ True)))) 0 0 (dkA z) := by
  refine Met.ofW (cc := cX6_in) (maxL := 3) (ret := (some .boolean)) (by decide) rfl ?_
  intro p e s m args below meth c s₁ B hml hv
  obtain ⟨ha, hW, hK, hT⟩ := hv
  have hx := B.exec
  have hb := B.bytes
  have hr := B.returns
  have hts := atoms_spec (ws := wsX6_in) B.pre
  have hown : s.vm.findClass RX6 = some m.cls := findClass_of_methodNamed B.named
  have hlocks := B.notSynchronized
  have hS : va_S (dkA z) s.heap s.heap [] := va_S.rf
  have hF : dkF [] I0 I0 := dkF_rf _ _
  have hl := lv_entry ([.int p0, .int p1, .int p2]) (n := 3) (Nat.le_of_ble_eq_true rfl)
  have hgo : entryFrame m args 3 = entryFrame m ([.int p0, .int p1, .int p2] : List Value).toArray 3 := by rw [ha]
  rw [hgo, lg_entry_eq]
  generalize (lg_sl ([.int p0, .int p1, .int p2]) ++ List.replicate (3 - (lg_sl ([.int p0, .int p1, .int p2])).length) Slot.unset).toArray = ls at hl ⊢
  have hl : lv_has ls 3 [(0, .int p0), (1, .int p1), (2, .int p2)] := hl
  refine lv_iload_n hx hb dX6_in_0 rfl (lv_at hl 0 rfl) ?_
  refine lv_iload_n hx hb dX6_in_1 rfl (lv_at hl 1 rfl) ?_
  refine lv_icmp_lt (tgt := 14) hx hb dX6_in_2 (by decide) (fun c1 => ?_) (fun c1 => ?_)
  ·
    have q2 : p0.toInt + 1 ≤ p1.toInt := (dkc_lt c1)
    have d3 : dkN [(-2147483648, -1)] p0 := dkN_le1 1 (dkN_top p0) dp1 (dkc_lt c1) rfl
    refine lv_iconst (v := 0) hx hb dX6_in_14 (by decide) ?_
    exact W.zret (v := 0) (ty := .boolean) hx hb hr rfl (fun t ht hW9 => ⟨⟨0, I0, rfl, ⟨hF, hO, Or.inl ⟨dkN_sub (dkN_lit (x := 0) (0) rfl) rfl, dkN_sub d3 rfl, q2, rfl, trivial⟩⟩, dkW_eq ht hW⟩, hS.F ht⟩) hS.2.2 dX6_in_15
  ·
    have q4 : p1.toInt + 0 ≤ p0.toInt := (dkc_nlt c1)
    have d5 : dkN [(0, 2147483647)] p0 := dkN_le2 0 dp1 (dkN_top p0) (dkc_nlt c1) rfl
    refine lv_iload_n hx hb dX6_in_5 rfl (lv_at hl 0 rfl) ?_
    refine lv_iload_n hx hb dX6_in_6 rfl (lv_at hl 2 rfl) ?_
    refine lv_icmp_gt (tgt := 14) hx hb dX6_in_7 (by decide) (fun c6 => ?_) (fun c6 => ?_)
    ·
      have q7 : p2.toInt + 1 ≤ p0.toInt := (dkc_lt c6)
      refine lv_iconst (v := 0) hx hb dX6_in_14 (by decide) ?_
      exact W.zret (v := 0) (ty := .boolean) hx hb hr rfl (fun t ht hW9 => ⟨⟨0, I0, rfl, ⟨hF, hO, Or.inr (Or.inl ⟨dkN_sub (dkN_lit (x := 0) (0) rfl) rfl, dkN_sub d5 rfl, q4, q7, rfl, trivial⟩)⟩, dkW_eq ht hW⟩, hS.F ht⟩) hS.2.2 dX6_in_15
    ·
      have q8 : p0.toInt + 0 ≤ p2.toInt := (dkc_nlt c6)
      have d9 : dkN [(0, 5)] p2 := dkN_le2 0 d5 dp2 (dkc_nlt c6) rfl
      have d10 : dkN [(0, 5)] p0 := dkN_le1 0 d5 dp2 (dkc_nlt c6) rfl
      refine lv_iconst (v := 1) hx hb dX6_in_10 (by decide) ?_
      refine lv_goto (tgt := 15) hx hb dX6_in_11 (by decide) ?_
      exact W.zret (v := 1) (ty := .boolean) hx hb hr rfl (fun t ht hW9 => ⟨⟨1, I0, rfl, ⟨hF, hO, Or.inr (Or.inr (⟨dkN_sub (dkN_lit (x := 1) (1) rfl) rfl, dkN_sub d10 rfl, dkN_sub d9 rfl, q4, q8, rfl, trivial⟩))⟩, dkW_eq ht hW⟩, hS.F ht⟩) hS.2.2 dX6_in_15
set_option maxHeartbeats 4000000 in
set_option maxRecDepth 100000 in
theorem fx_X6_isDog_1 (l : Launch) (g : dkG) (z : Nat) (I0 : dkI) (p0 : Int32)  (hO : dkOk I0) : Met l yX6_isDog wsX6_isDog (dkR 1) (dkPc g z [.ref (z + 340), .int p0] I0) (dkQi g z (fun r I1 => dkF [] I0 I1 ∧ dkOk I1 ∧ ((dkN [(0, 0)] r ∧ dkN [(-2147483648, -1)] p0 ∧ ((I0 346 5) - (1 : Int32)).toInt = (I0 346 5).toInt - (1 : Int) ∧ p0.toInt + 1 ≤ (0 : Int) ∧ r = 0 ∧ True) ∨ (dkN [(0, 0)] r ∧ dkN [(0, 2147483647)] p0 ∧ ((I0 346 5) - (1 : Int32)).toInt = (I0 346 5).toInt - (1 : Int) ∧ (0 : Int) + 0 ≤ p0.toInt ∧ ((I0 346 5) - (1 : Int32)).toInt + 1 ≤ p0.toInt ∧ r = 0 ∧ True) ∨ (dkN [(1, 1)] r ∧ dkN [(0, 5)] p0 ∧ ((I0 346 5) - (1 : Int32)).toInt = (I0 346 5).toInt - (1 : Int) ∧ (0 : Int) + 0 ≤ p0.toInt ∧ p0.toInt + 0 ≤ ((I0 346 5) - (1 : Int32)).toInt ∧ r = 1 ∧ True)))) 0 0 (dkA z) := by
  refine Met.ofW (cc := cX6_isDog) (maxL := 2) (ret := (some .boolean)) (by decide) rfl ?_
  intro p e s m args below meth c s₁ B hml hv
  obtain ⟨ha, hW, hK, hT⟩ := hv
  have hx := B.exec
  have hb := B.bytes
  have hr := B.returns
  have hts := atoms_spec (ws := wsX6_isDog) B.pre
  have hown : s.vm.findClass RX6 = some m.cls := findClass_of_methodNamed B.named
  have hlocks := B.notSynchronized
  have hS : va_S (dkA z) s.heap s.heap [] := va_S.rf
  have hF : dkF [] I0 I0 := dkF_rf _ _
  have hl := lv_entry ([.ref (z + 340), .int p0]) (n := 2) (Nat.le_of_ble_eq_true rfl)
  have hgo : entryFrame m args 2 = entryFrame m ([.ref (z + 340), .int p0] : List Value).toArray 2 := by rw [ha]
  rw [hgo, lg_entry_eq]
  generalize (lg_sl ([.ref (z + 340), .int p0]) ++ List.replicate (2 - (lg_sl ([.ref (z + 340), .int p0])).length) Slot.unset).toArray = ls at hl ⊢
  have hl : lv_has ls 2 [(0, .ref (z + 340)), (1, .int p0)] := hl
  refine lv_iload_n hx hb dX6_isDog_0 rfl (lv_at hl 1 rfl) ?_
  refine lv_iconst (v := 0) hx hb dX6_isDog_1 (by decide) ?_
  refine lv_aload_n hx hb dX6_isDog_2 rfl (lv_at hl 0 rfl) ?_
  refine dk_get (k := 340) hx hb hts iX6_isDog_6 hown hK (dk_at340 hW) rfl 13 (by decide) (hts (.fieldLink RX6 25 "DogKingsModel" "now" "[I") (List.mem_of_getElem? (i := 1) rfl)) rfl dX6_isDog_3 ?_
  refine lv_iconst (v := 5) hx hb dX6_isDog_6 (by decide) ?_
  refine dk_ild (k := 346) hx hb hK (dk_at346 hW) (dkN_in (n := 54) (dkN_lit (x := 5) (5) rfl) rfl) dX6_isDog_7 ?_
  refine lv_topi (fun v1 ev1 => ?_)
  have ev1 : v1 = I0 346 5 := ev1
  have dv1 : dkN [(0, 6)] v1 := by rw [ev1]; exact (show dkN [(0, 6)] (I0 346 5) from (hO 346 5))
  have xv1 : v1 = I0 346 5 := ev1.trans rfl
  refine lv_iconst (v := 1) hx hb dX6_isDog_8 (by decide) ?_
  refine lv_isub hx hb dX6_isDog_9 ?_
  refine lv_topi (fun v2 ev2 => ?_)
  have dv2 : dkN [(-1, 5)] v2 := by rw [ev2]; exact dkN_subt dv1 (dkN_lit (x := 1) (1) rfl) rfl
  have xv2 : v2 = (I0 346 5) - (1 : Int32) := by rw [ev2, xv1]
  have q3 : ((I0 346 5) - (1 : Int32)).toInt = (I0 346 5).toInt - (1 : Int) := by first | (rw [← xv2, ← xv1]; exact (by rw [ev2]; exact dk_subE dv1 (dkN_lit (x := 1) (1) rfl) rfl)) | (subst xv2 xv1; exact (by rw [ev2]; exact dk_subE dv1 (dkN_lit (x := 1) (1) rfl) rfl))
  refine dk_Si (As := [.int p0, .int 0, .int v2]) (rest := []) ⟨hx, hb, hml, hown, hts⟩ (fx_X6_in_37 l g z I0 p0 0 v2 (dkN_lit (x := 0) (0) rfl) dv2 hO) (va_cwS 3 hts gX6_isDog_X6_in rfl rfl rfl (by decide +kernel) ⟨Nat.le_of_ble_eq_true rfl, Nat.le_of_ble_eq_true rfl⟩) hK hT hW hS rfl hl.1 rfl (Nat.le_of_ble_eq_true rfl) dX6_isDog_10 ⟨Nat.zero_le _, Nat.zero_le _⟩ (fun v4 I4 H4 L4 hp4 hW hS => ?_)
  obtain ⟨hF4, hO, hc4⟩ := hp4
  have hF := dkF_call hF hF4 rfl
  have eI4 : I0 = I4 := (dkF_nil hF4).symm
  subst eI4
  rcases hc4 with ⟨dv4, a4_0, x4_0, xr4, -⟩ | hc4
  ·
    have q5 : p0.toInt + 1 ≤ (0 : Int) := x4_0
    have xv4 : v4 = 0 := by have h := xr4; exact h
    have d6 : dkN [(-2147483648, -1)] p0 := dkN_eq1 (dkN_top p0) a4_0 rfl rfl
    exact W.zret (v := v4) (ty := .boolean) hx hb hr (dkN_zr dv4 rfl) (fun t ht hW9 => ⟨⟨v4, I0, rfl, ⟨hF, hO, Or.inl ⟨dkN_sub dv4 rfl, dkN_sub d6 rfl, q3, q5, xv4, trivial⟩⟩, dkW_eq ht hW⟩, hS.F ht⟩) hS.2.2 dX6_isDog_13
  rcases hc4 with ⟨dv4, a4_0, x4_0, x4_1, xr4, -⟩ | hc4
  ·
    have q7 : (0 : Int) + 0 ≤ p0.toInt := x4_0
    have q8 : ((I0 346 5) - (1 : Int32)).toInt + 1 ≤ p0.toInt := by have h := x4_1; rw [xv2] at h; exact h
    have xv4 : v4 = 0 := by have h := xr4; exact h
    have d9 : dkN [(0, 2147483647)] p0 := dkN_eq1 (dkN_top p0) a4_0 rfl rfl
    exact W.zret (v := v4) (ty := .boolean) hx hb hr (dkN_zr dv4 rfl) (fun t ht hW9 => ⟨⟨v4, I0, rfl, ⟨hF, hO, Or.inr (Or.inl ⟨dkN_sub dv4 rfl, dkN_sub d9 rfl, q3, q7, q8, xv4, trivial⟩)⟩, dkW_eq ht hW⟩, hS.F ht⟩) hS.2.2 dX6_isDog_13
  ·
    obtain ⟨dv4, a4_0, a4_2, x4_0, x4_1, xr4, -⟩ := hc4
    have q10 : (0 : Int) + 0 ≤ p0.toInt := x4_0
    have q11 : p0.toInt + 0 ≤ ((I0 346 5) - (1 : Int32)).toInt := by have h := x4_1; rw [xv2] at h; exact h
    have xv4 : v4 = 1 := by have h := xr4; exact h
    have d12 : dkN [(0, 5)] p0 := dkN_eq1 (dkN_top p0) a4_0 rfl rfl
    have d13 : dkN [(0, 5)] v2 := dkN_eq1 dv2 a4_2 rfl rfl
    exact W.zret (v := v4) (ty := .boolean) hx hb hr (dkN_zr dv4 rfl) (fun t ht hW9 => ⟨⟨v4, I0, rfl, ⟨hF, hO, Or.inr (Or.inr (⟨dkN_sub dv4 rfl, dkN_sub d12 rfl, q3, q10, q11, xv4, trivial⟩))⟩, dkW_eq ht hW⟩, hS.F ht⟩) hS.2.2 dX6_isDog_13
set_option maxHeartbeats 4000000 in
set_option maxRecDepth 100000 in
theorem fx_X6_ask_1 (l : Launch) (g : dkG) (z : Nat) (I0 : dkI) (p0 : Int32) (p1 : Int32)  (tp0 : ((I0 346 5) - (1 : Int32)).toInt + 1 ≤ p0.toInt) (hO : dkOk I0) : Met l yX6_ask wsX6_ask (dkR 2) (dkPc g z [.ref (z + 340), .int p0, .int p1] I0) (dkQi g z (fun r I1 => dkF [] I0 I1 ∧ dkOk I1 ∧ ((dkN [(-1000001, -1000001)] r ∧ dkN [(-2147483648, -1)] p0 ∧ ((I0 346 5) - (1 : Int32)).toInt + 1 ≤ p0.toInt ∧ ((I0 346 5) - (1 : Int32)).toInt = (I0 346 5).toInt - (1 : Int) ∧ p0.toInt + 1 ≤ (0 : Int) ∧ r = (-1000001) ∧ I1 340 25 = I0 340 25 ∧ I1 353 0 = I0 353 0 ∧ I1 353 1 = I0 353 1 ∧ I1 353 2 = I0 353 2 ∧ I1 353 3 = I0 353 3 ∧ I1 353 4 = I0 353 4 ∧ I1 353 5 = I0 353 5 ∧ I1 353 6 = I0 353 6 ∧ I1 353 7 = I0 353 7 ∧ I1 353  = I0 353 ∧ True) ∨ (dkN [(-1000001, -1000001)] r ∧ dkN [(0, 2147483647)] p0 ∧ ((I0 346 5) - (1 : Int32)).toInt + 1 ≤ p0.toInt ∧ ((I0 346 5) - (1 : Int32)).toInt = (I0 346 5).toInt - (1 : Int) ∧ (0 : Int) + 0 ≤ p0.toInt ∧ r = (-1000001) ∧ I1 340 25 = I0 340 25 ∧ I1 353 0 = I0 353 0 ∧ I1 353 1 = I0 353 1 ∧ I1 353 2 = I0 353 2 ∧ I1 353 3 = I0 353 3 ∧ I1 353 4 = I0 353 4 ∧ I1 353 5 = I0 353 5 ∧ I1 353 6 = I0 353 6 ∧ I1 353 7 = I0 353 7 ∧ I1 353  = I0 353 ∧ True)))) 0 0 (dkA z) := by
  refine Met.ofW (cc := cX6_ask) (maxL := 4) (ret := (some .int)) (by decide) rfl ?_
  intro p e s m args below meth c s₁ B hml hv
  obtain ⟨ha, hW, hK, hT⟩ := hv
  have hx := B.exec
  have hb := B.bytes
  have hr := B.returns
  have hts := atoms_spec (ws := wsX6_ask) B.pre
  have hown : s.vm.findClass RX6 = some m.cls := findClass_of_methodNamed B.named
  have hlocks := B.notSynchronized
  have hS : va_S (dkA z) s.heap s.heap [] := va_S.rf
  have hF : dkF [] I0 I0 := dkF_rf _ _
  have hl := lv_entry ([.ref (z + 340), .int p0, .int p1]) (n := 4) (Nat.le_of_ble_eq_true rfl)
  have hgo : entryFrame m args 4 = entryFrame m ([.ref (z + 340), .int p0, .int p1] : List Value).toArray 4 := by rw [ha]
  rw [hgo, lg_entry_eq]
  generalize (lg_sl ([.ref (z + 340), .int p0, .int p1]) ++ List.replicate (4 - (lg_sl ([.ref (z + 340), .int p0, .int p1])).length) Slot.unset).toArray = ls at hl ⊢
  have hl : lv_has ls 4 [(0, .ref (z + 340)), (1, .int p0), (2, .int p1)] := hl
  refine lv_aload_n hx hb dX6_ask_0 rfl (lv_at hl 0 rfl) ?_
  refine lv_iload_n hx hb dX6_ask_1 rfl (lv_at hl 1 rfl) ?_
  refine dk_Vi (As := [.int p0]) (rest := []) ⟨hx, hb, hml, hown, hts⟩ (fx_X6_isDog_1 l g z I0 p0 hO) (cwV 1 hts gX6_ask_X6_isDog rfl rfl rfl (by decide +kernel) ⟨Nat.le_of_ble_eq_true rfl, Nat.le_of_ble_eq_true rfl⟩) (dk_at340 hW) rfl hK hT hW hS rfl hl.1 rfl (Nat.le_of_ble_eq_true rfl) dX6_ask_2 ⟨Nat.zero_le _, Nat.zero_le _⟩ (fun v1 I1 H1 L1 hp1 hW hS => ?_)
  obtain ⟨hF1, hO, hc1⟩ := hp1
  have hF := dkF_call hF hF1 rfl
  have eI1 : I0 = I1 := (dkF_nil hF1).symm
  subst eI1
  rcases hc1 with ⟨dv1, a1_0, x1_0, x1_1, xr1, -⟩ | hc1
  ·
    have q2 : ((I0 346 5) - (1 : Int32)).toInt = (I0 346 5).toInt - (1 : Int) := x1_0
    have q3 : p0.toInt + 1 ≤ (0 : Int) := x1_1
    have xv1 : v1 = 0 := by have h := xr1; exact h
    have d4 : dkN [(-2147483648, -1)] p0 := dkN_eq1 (dkN_top p0) a1_0 rfl rfl
    have z5 : v1 = 0 := xv1
    subst z5
    refine lv_if_eq (tgt := 17) hx hb dX6_ask_5 (by decide) (fun c6 => ?_) (fun c6 => ?_)
    ·
      refine lv_ldc (v := (-1000001)) hx hb hown (hts (.constant RX6 64 (-1000001)) (List.mem_of_getElem? (i := 1) rfl)) dX6_ask_17 ?_
      exact W.iret (v := (-1000001)) hx hb hr (fun t ht hW9 => ⟨⟨(-1000001), I0, rfl, ⟨hF, hO, Or.inl ⟨dkN_sub (dkN_lit (x := (-1000001)) (-1000001) rfl) rfl, dkN_sub d4 rfl, tp0, q2, q3, rfl, rfl, rfl, rfl, rfl, rfl, rfl, rfl, rfl, rfl, rfl, trivial⟩⟩, dkW_eq ht hW⟩, hS.F ht⟩) hS.2.2 dX6_ask_19
    ·
      exact (dkN_nil (show dkN [] 0 from dkN_ne1 (0) (dkN_lit (x := 0) (0) rfl) (dkN_lit (x := 0) (0) rfl) (dk_ne c6) rfl)).elim
  rcases hc1 with ⟨dv1, a1_0, x1_0, x1_1, x1_2, xr1, -⟩ | hc1
  ·
    have q7 : ((I0 346 5) - (1 : Int32)).toInt = (I0 346 5).toInt - (1 : Int) := x1_0
    have q8 : (0 : Int) + 0 ≤ p0.toInt := x1_1
    have xv1 : v1 = 0 := by have h := xr1; exact h
    have d9 : dkN [(0, 2147483647)] p0 := dkN_eq1 (dkN_top p0) a1_0 rfl rfl
    have z10 : v1 = 0 := xv1
    subst z10
    refine lv_if_eq (tgt := 17) hx hb dX6_ask_5 (by decide) (fun c11 => ?_) (fun c11 => ?_)
    ·
      refine lv_ldc (v := (-1000001)) hx hb hown (hts (.constant RX6 64 (-1000001)) (List.mem_of_getElem? (i := 1) rfl)) dX6_ask_17 ?_
      exact W.iret (v := (-1000001)) hx hb hr (fun t ht hW9 => ⟨⟨(-1000001), I0, rfl, ⟨hF, hO, Or.inr (⟨dkN_sub (dkN_lit (x := (-1000001)) (-1000001) rfl) rfl, dkN_sub d9 rfl, tp0, q7, q8, rfl, rfl, rfl, rfl, rfl, rfl, rfl, rfl, rfl, rfl, rfl, trivial⟩)⟩, dkW_eq ht hW⟩, hS.F ht⟩) hS.2.2 dX6_ask_19
    ·
      exact (dkN_nil (show dkN [] 0 from dkN_ne1 (0) (dkN_lit (x := 0) (0) rfl) (dkN_lit (x := 0) (0) rfl) (dk_ne c11) rfl)).elim
  ·
    obtain ⟨dv1, a1_0, x1_0, x1_1, x1_2, xr1, -⟩ := hc1
    have q12 : ((I0 346 5) - (1 : Int32)).toInt = (I0 346 5).toInt - (1 : Int) := x1_0
    have q13 : (0 : Int) + 0 ≤ p0.toInt := x1_1
    have q14 : p0.toInt + 0 ≤ ((I0 346 5) - (1 : Int32)).toInt := x1_2
    exfalso; omega
set_option maxHeartbeats 4000000 in
set_option maxRecDepth 100000 in
theorem fx_X5_isDog_2 (l : Launch) (g : dkG) (z : Nat) (I0 : dkI) (p0 : Int32) (dp0 : dkN [(-2147483648, -1)] p0)  (hO : dkOk I0) : Met l yX5_isDog wsX5_isDog (dkR 0) (dkPc g z [.ref (z + 0), .int p0] I0) (dkQi g z (fun r I1 => dkF [] I0 I1 ∧ dkOk I1 ∧ ((dkN [(0, 0)] r ∧ p0.toInt + 1 ≤ (0 : Int) ∧ r = 0 ∧ True)))) 0 0 (dkA z) := by
  refine Met.ofW (cc := cX5_isDog) (maxL := 2) (ret := (some .boolean)) (by decide) rfl ?_
  intro p e s m args below meth c s₁ B hml hv
  obtain ⟨ha, hW, hK, hT⟩ := hv
  have hx := B.exec
  have hb := B.bytes
  have hr := B.returns
  have hts := atoms_spec (ws := wsX5_isDog) B.pre
  have hown : s.vm.findClass RX5 = some m.cls := findClass_of_methodNamed B.named
  have hlocks := B.notSynchronized
  have hS : va_S (dkA z) s.heap s.heap [] := va_S.rf
  have hF : dkF [] I0 I0 := dkF_rf _ _
  have hl := lv_entry ([.ref (z + 0), .int p0]) (n := 2) (Nat.le_of_ble_eq_true rfl)
  have hgo : entryFrame m args 2 = entryFrame m ([.ref (z + 0), .int p0] : List Value).toArray 2 := by rw [ha]
  rw [hgo, lg_entry_eq]
  generalize (lg_sl ([.ref (z + 0), .int p0]) ++ List.replicate (2 - (lg_sl ([.ref (z + 0), .int p0])).length) Slot.unset).toArray = ls at hl ⊢
  have hl : lv_has ls 2 [(0, .ref (z + 0)), (1, .int p0)] := hl
  refine lv_iload_n hx hb dX5_isDog_0 rfl (lv_at hl 1 rfl) ?_
  refine lv_if_lt (tgt := 19) hx hb dX5_isDog_1 (by decide) (fun c1 => ?_) (fun c1 => ?_)
  ·
    have q2 : p0.toInt + 1 ≤ (0 : Int) := (dkc_lt c1)
    refine lv_iconst (v := 0) hx hb dX5_isDog_19 (by decide) ?_
    exact W.zret (v := 0) (ty := .boolean) hx hb hr rfl (fun t ht hW9 => ⟨⟨0, I0, rfl, ⟨hF, hO, ⟨dkN_sub (dkN_lit (x := 0) (0) rfl) rfl, q2, rfl, trivial⟩⟩, dkW_eq ht hW⟩, hS.F ht⟩) hS.2.2 dX5_isDog_20
  ·
    exact (dkN_nil (show dkN [] p0 from dkN_le2 0 (dkN_lit (x := 0) (0) rfl) dp0 (dkc_nlt c1) rfl)).elim
set_option maxHeartbeats 4000000 in
set_option maxRecDepth 100000 in
theorem fx_X5_ask_2 (l : Launch) (g : dkG) (z : Nat) (I0 : dkI) (p0 : Int32) (p1 : Int32) (dp0 : dkN [(-2147483648, -1)] p0)  (hO : dkOk I0) : Met l yX5_ask wsX5_ask (dkR 1) (dkPc g z [.ref (z + 0), .int p0, .int p1] I0) (dkQi g z (fun r I1 => dkF [] I0 I1 ∧ dkOk I1 ∧ ((dkN [(-1000001, -1000001)] r ∧ p0.toInt + 1 ≤ (0 : Int) ∧ r = (-1000001) ∧ I1 338 2 = I0 338 2 ∧ I1 339 0 = I0 339 0 ∧ I1 339 1 = I0 339 1 ∧ I1 339 2 = I0 339 2 ∧ I1 339 3 = I0 339 3 ∧ I1 339 4 = I0 339 4 ∧ I1 339 5 = I0 339 5 ∧ I1 339 6 = I0 339 6 ∧ I1 339 7 = I0 339 7 ∧ I1 339  = I0 339 ∧ True)))) 0 0 (dkA z) := by
  refine Met.ofW (cc := cX5_ask) (maxL := 3) (ret := (some .int)) (by decide) rfl ?_
  intro p e s m args below meth c s₁ B hml hv
  obtain ⟨ha, hW, hK, hT⟩ := hv
  have hx := B.exec
  have hb := B.bytes
  have hr := B.returns
  have hts := atoms_spec (ws := wsX5_ask) B.pre
  have hown : s.vm.findClass RX5 = some m.cls := findClass_of_methodNamed B.named
  have hlocks := B.notSynchronized
  have hS : va_S (dkA z) s.heap s.heap [] := va_S.rf
  have hF : dkF [] I0 I0 := dkF_rf _ _
  have hl := lv_entry ([.ref (z + 0), .int p0, .int p1]) (n := 3) (Nat.le_of_ble_eq_true rfl)
  have hgo : entryFrame m args 3 = entryFrame m ([.ref (z + 0), .int p0, .int p1] : List Value).toArray 3 := by rw [ha]
  rw [hgo, lg_entry_eq]
  generalize (lg_sl ([.ref (z + 0), .int p0, .int p1]) ++ List.replicate (3 - (lg_sl ([.ref (z + 0), .int p0, .int p1])).length) Slot.unset).toArray = ls at hl ⊢
  have hl : lv_has ls 3 [(0, .ref (z + 0)), (1, .int p0), (2, .int p1)] := hl
  refine lv_aload_n hx hb dX5_ask_0 rfl (lv_at hl 0 rfl) ?_
  refine lv_iload_n hx hb dX5_ask_1 rfl (lv_at hl 1 rfl) ?_
  refine dk_Vi (As := [.int p0]) (rest := []) ⟨hx, hb, hml, hown, hts⟩ (fx_X5_isDog_2 l g z I0 p0 dp0 hO) (cwV 1 hts gX5_ask_X5_isDog rfl rfl rfl (by decide +kernel) ⟨Nat.le_of_ble_eq_true rfl, Nat.le_of_ble_eq_true rfl⟩) (dk_at0 hW) rfl hK hT hW hS rfl hl.1 rfl (Nat.le_of_ble_eq_true rfl) dX5_ask_2 ⟨Nat.zero_le _, Nat.zero_le _⟩ (fun v1 I1 H1 L1 hp1 hW hS => ?_)
  obtain ⟨hF1, hO, hc1⟩ := hp1
  have hF := dkF_call hF hF1 rfl
  have eI1 : I0 = I1 := (dkF_nil hF1).symm
  subst eI1
  obtain ⟨dv1, x1_0, xr1, -⟩ := hc1
  have q2 : p0.toInt + 1 ≤ (0 : Int) := x1_0
  have xv1 : v1 = 0 := by have h := xr1; exact h
  have z3 : v1 = 0 := xv1
  subst z3
  refine lv_if_eq (tgt := 28) hx hb dX5_ask_5 (by decide) (fun c4 => ?_) (fun c4 => ?_)
  ·
    refine lv_ldc (v := (-1000001)) hx hb hown (hts (.constant RX5 70 (-1000001)) (List.mem_of_getElem? (i := 2) rfl)) dX5_ask_28 ?_
    exact W.iret (v := (-1000001)) hx hb hr (fun t ht hW9 => ⟨⟨(-1000001), I0, rfl, ⟨hF, hO, ⟨dkN_sub (dkN_lit (x := (-1000001)) (-1000001) rfl) rfl, q2, rfl, rfl, rfl, rfl, rfl, rfl, rfl, rfl, rfl, rfl, rfl, trivial⟩⟩, dkW_eq ht hW⟩, hS.F ht⟩) hS.2.2 dX5_ask_30
  ·
    exact (dkN_nil (show dkN [] 0 from dkN_ne1 (0) (dkN_lit (x := 0) (0) rfl) (dkN_lit (x := 0) (0) rfl) (dk_ne c4) rfl)).elim
set_option maxHeartbeats 4000000 in
set_option maxRecDepth 100000 in
theorem fx_X6_in_38 (l : Launch) (g : dkG) (z : Nat) (I0 : dkI) (p0 : Int32) (p1 : Int32) (p2 : Int32) (dp0 : dkN [(-2147483648, -1)] p0) (dp1 : dkN [(0, 0)] p1) (dp2 : dkN [(-1, 5)] p2)  (hO : dkOk I0) : Met l yX6_in wsX6_in (dkR 0) (dkPc g z [.int p0, .int p1, .int p2] I0) (dkQi g z (fun r I1 => dkF [] I0 I1 ∧ dkOk I1 ∧ ((dkN [(0, 0)] r ∧ p0.toInt + 1 ≤ p1.toInt ∧ r = 0 ∧ True)))) 0 0 (dkA z) := by
  refine Met.ofW (cc := cX6_in) (maxL := 3) (ret := (some .boolean)) (by decide) rfl ?_
  intro p e s m args below meth c s₁ B hml hv
  obtain ⟨ha, hW, hK, hT⟩ := hv
  have hx := B.exec
  have hb := B.bytes
  have hr := B.returns
  have hts := atoms_spec (ws := wsX6_in) B.pre
  have hown : s.vm.findClass RX6 = some m.cls := findClass_of_methodNamed B.named
  have hlocks := B.notSynchronized
  have hS : va_S (dkA z) s.heap s.heap [] := va_S.rf
  have hF : dkF [] I0 I0 := dkF_rf _ _
  have hl := lv_entry ([.int p0, .int p1, .int p2]) (n := 3) (Nat.le_of_ble_eq_true rfl)
  have hgo : entryFrame m args 3 = entryFrame m ([.int p0, .int p1, .int p2] : List Value).toArray 3 := by rw [ha]
  rw [hgo, lg_entry_eq]
  generalize (lg_sl ([.int p0, .int p1, .int p2]) ++ List.replicate (3 - (lg_sl ([.int p0, .int p1, .int p2])).length) Slot.unset).toArray = ls at hl ⊢
  have hl : lv_has ls 3 [(0, .int p0), (1, .int p1), (2, .int p2)] := hl
  refine lv_iload_n hx hb dX6_in_0 rfl (lv_at hl 0 rfl) ?_
  refine lv_iload_n hx hb dX6_in_1 rfl (lv_at hl 1 rfl) ?_
  refine lv_icmp_lt (tgt := 14) hx hb dX6_in_2 (by decide) (fun c1 => ?_) (fun c1 => ?_)
  ·
    have q2 : p0.toInt + 1 ≤ p1.toInt := (dkc_lt c1)
    refine lv_iconst (v := 0) hx hb dX6_in_14 (by decide) ?_
    exact W.zret (v := 0) (ty := .boolean) hx hb hr rfl (fun t ht hW9 => ⟨⟨0, I0, rfl, ⟨hF, hO, ⟨dkN_sub (dkN_lit (x := 0) (0) rfl) rfl, q2, rfl, trivial⟩⟩, dkW_eq ht hW⟩, hS.F ht⟩) hS.2.2 dX6_in_15
  ·
    exact (dkN_nil (show dkN [] p0 from dkN_le2 0 dp1 dp0 (dkc_nlt c1) rfl)).elim
set_option maxHeartbeats 4000000 in
set_option maxRecDepth 100000 in
theorem fx_X6_isDog_2 (l : Launch) (g : dkG) (z : Nat) (I0 : dkI) (p0 : Int32) (dp0 : dkN [(-2147483648, -1)] p0)  (hO : dkOk I0) : Met l yX6_isDog wsX6_isDog (dkR 1) (dkPc g z [.ref (z + 340), .int p0] I0) (dkQi g z (fun r I1 => dkF [] I0 I1 ∧ dkOk I1 ∧ ((dkN [(0, 0)] r ∧ ((I0 346 5) - (1 : Int32)).toInt = (I0 346 5).toInt - (1 : Int) ∧ p0.toInt + 1 ≤ (0 : Int) ∧ r = 0 ∧ True)))) 0 0 (dkA z) := by
  refine Met.ofW (cc := cX6_isDog) (maxL := 2) (ret := (some .boolean)) (by decide) rfl ?_
  intro p e s m args below meth c s₁ B hml hv
  obtain ⟨ha, hW, hK, hT⟩ := hv
  have hx := B.exec
  have hb := B.bytes
  have hr := B.returns
  have hts := atoms_spec (ws := wsX6_isDog) B.pre
  have hown : s.vm.findClass RX6 = some m.cls := findClass_of_methodNamed B.named
  have hlocks := B.notSynchronized
  have hS : va_S (dkA z) s.heap s.heap [] := va_S.rf
  have hF : dkF [] I0 I0 := dkF_rf _ _
  have hl := lv_entry ([.ref (z + 340), .int p0]) (n := 2) (Nat.le_of_ble_eq_true rfl)
  have hgo : entryFrame m args 2 = entryFrame m ([.ref (z + 340), .int p0] : List Value).toArray 2 := by rw [ha]
  rw [hgo, lg_entry_eq]
  generalize (lg_sl ([.ref (z + 340), .int p0]) ++ List.replicate (2 - (lg_sl ([.ref (z + 340), .int p0])).length) Slot.unset).toArray = ls at hl ⊢
  have hl : lv_has ls 2 [(0, .ref (z + 340)), (1, .int p0)] := hl
  refine lv_iload_n hx hb dX6_isDog_0 rfl (lv_at hl 1 rfl) ?_
  refine lv_iconst (v := 0) hx hb dX6_isDog_1 (by decide) ?_
  refine lv_aload_n hx hb dX6_isDog_2 rfl (lv_at hl 0 rfl) ?_
  refine dk_get (k := 340) hx hb hts iX6_isDog_6 hown hK (dk_at340 hW) rfl 13 (by decide) (hts (.fieldLink RX6 25 "DogKingsModel" "now" "[I") (List.mem_of_getElem? (i := 1) rfl)) rfl dX6_isDog_3 ?_
  refine lv_iconst (v := 5) hx hb dX6_isDog_6 (by decide) ?_
  refine dk_ild (k := 346) hx hb hK (dk_at346 hW) (dkN_in (n := 54) (dkN_lit (x := 5) (5) rfl) rfl) dX6_isDog_7 ?_
  refine lv_topi (fun v1 ev1 => ?_)
  have ev1 : v1 = I0 346 5 := ev1
  have dv1 : dkN [(0, 6)] v1 := by rw [ev1]; exact (show dkN [(0, 6)] (I0 346 5) from (hO 346 5))
  have xv1 : v1 = I0 346 5 := ev1.trans rfl
  refine lv_iconst (v := 1) hx hb dX6_isDog_8 (by decide) ?_
  refine lv_isub hx hb dX6_isDog_9 ?_
  refine lv_topi (fun v2 ev2 => ?_)
  have dv2 : dkN [(-1, 5)] v2 := by rw [ev2]; exact dkN_subt dv1 (dkN_lit (x := 1) (1) rfl) rfl
  have xv2 : v2 = (I0 346 5) - (1 : Int32) := by rw [ev2, xv1]
  have q3 : ((I0 346 5) - (1 : Int32)).toInt = (I0 346 5).toInt - (1 : Int) := by first | (rw [← xv2, ← xv1]; exact (by rw [ev2]; exact dk_subE dv1 (dkN_lit (x := 1) (1) rfl) rfl)) | (subst xv2 xv1; exact (by rw [ev2]; exact dk_subE dv1 (dkN_lit (x := 1) (1) rfl) rfl))
  refine dk_Si (As := [.int p0, .int 0, .int v2]) (rest := []) ⟨hx, hb, hml, hown, hts⟩ (fx_X6_in_38 l g z I0 p0 0 v2 dp0 (dkN_lit (x := 0) (0) rfl) dv2 hO) (va_cwS 3 hts gX6_isDog_X6_in rfl rfl rfl (by decide +kernel) ⟨Nat.le_of_ble_eq_true rfl, Nat.le_of_ble_eq_true rfl⟩) hK hT hW hS rfl hl.1 rfl (Nat.le_of_ble_eq_true rfl) dX6_isDog_10 ⟨Nat.zero_le _, Nat.zero_le _⟩ (fun v4 I4 H4 L4 hp4 hW hS => ?_)
  obtain ⟨hF4, hO, hc4⟩ := hp4
  have hF := dkF_call hF hF4 rfl
  have eI4 : I0 = I4 := (dkF_nil hF4).symm
  subst eI4
  obtain ⟨dv4, x4_0, xr4, -⟩ := hc4
  have q5 : p0.toInt + 1 ≤ (0 : Int) := x4_0
  have xv4 : v4 = 0 := by have h := xr4; exact h
  exact W.zret (v := v4) (ty := .boolean) hx hb hr (dkN_zr dv4 rfl) (fun t ht hW9 => ⟨⟨v4, I0, rfl, ⟨hF, hO, ⟨dkN_sub dv4 rfl, q3, q5, xv4, trivial⟩⟩, dkW_eq ht hW⟩, hS.F ht⟩) hS.2.2 dX6_isDog_13
set_option maxHeartbeats 4000000 in
set_option maxRecDepth 100000 in
theorem fx_X6_ask_2 (l : Launch) (g : dkG) (z : Nat) (I0 : dkI) (p0 : Int32) (p1 : Int32) (dp0 : dkN [(-2147483648, -1)] p0)  (hO : dkOk I0) : Met l yX6_ask wsX6_ask (dkR 2) (dkPc g z [.ref (z + 340), .int p0, .int p1] I0) (dkQi g z (fun r I1 => dkF [] I0 I1 ∧ dkOk I1 ∧ ((dkN [(-1000001, -1000001)] r ∧ ((I0 346 5) - (1 : Int32)).toInt = (I0 346 5).toInt - (1 : Int) ∧ p0.toInt + 1 ≤ (0 : Int) ∧ r = (-1000001) ∧ I1 340 25 = I0 340 25 ∧ I1 353 0 = I0 353 0 ∧ I1 353 1 = I0 353 1 ∧ I1 353 2 = I0 353 2 ∧ I1 353 3 = I0 353 3 ∧ I1 353 4 = I0 353 4 ∧ I1 353 5 = I0 353 5 ∧ I1 353 6 = I0 353 6 ∧ I1 353 7 = I0 353 7 ∧ I1 353  = I0 353 ∧ True)))) 0 0 (dkA z) := by
  refine Met.ofW (cc := cX6_ask) (maxL := 4) (ret := (some .int)) (by decide) rfl ?_
  intro p e s m args below meth c s₁ B hml hv
  obtain ⟨ha, hW, hK, hT⟩ := hv
  have hx := B.exec
  have hb := B.bytes
  have hr := B.returns
  have hts := atoms_spec (ws := wsX6_ask) B.pre
  have hown : s.vm.findClass RX6 = some m.cls := findClass_of_methodNamed B.named
  have hlocks := B.notSynchronized
  have hS : va_S (dkA z) s.heap s.heap [] := va_S.rf
  have hF : dkF [] I0 I0 := dkF_rf _ _
  have hl := lv_entry ([.ref (z + 340), .int p0, .int p1]) (n := 4) (Nat.le_of_ble_eq_true rfl)
  have hgo : entryFrame m args 4 = entryFrame m ([.ref (z + 340), .int p0, .int p1] : List Value).toArray 4 := by rw [ha]
  rw [hgo, lg_entry_eq]
  generalize (lg_sl ([.ref (z + 340), .int p0, .int p1]) ++ List.replicate (4 - (lg_sl ([.ref (z + 340), .int p0, .int p1])).length) Slot.unset).toArray = ls at hl ⊢
  have hl : lv_has ls 4 [(0, .ref (z + 340)), (1, .int p0), (2, .int p1)] := hl
  refine lv_aload_n hx hb dX6_ask_0 rfl (lv_at hl 0 rfl) ?_
  refine lv_iload_n hx hb dX6_ask_1 rfl (lv_at hl 1 rfl) ?_
  refine dk_Vi (As := [.int p0]) (rest := []) ⟨hx, hb, hml, hown, hts⟩ (fx_X6_isDog_2 l g z I0 p0 dp0 hO) (cwV 1 hts gX6_ask_X6_isDog rfl rfl rfl (by decide +kernel) ⟨Nat.le_of_ble_eq_true rfl, Nat.le_of_ble_eq_true rfl⟩) (dk_at340 hW) rfl hK hT hW hS rfl hl.1 rfl (Nat.le_of_ble_eq_true rfl) dX6_ask_2 ⟨Nat.zero_le _, Nat.zero_le _⟩ (fun v1 I1 H1 L1 hp1 hW hS => ?_)
  obtain ⟨hF1, hO, hc1⟩ := hp1
  have hF := dkF_call hF hF1 rfl
  have eI1 : I0 = I1 := (dkF_nil hF1).symm
  subst eI1
  obtain ⟨dv1, x1_0, x1_1, xr1, -⟩ := hc1
  have q2 : ((I0 346 5) - (1 : Int32)).toInt = (I0 346 5).toInt - (1 : Int) := x1_0
  have q3 : p0.toInt + 1 ≤ (0 : Int) := x1_1
  have xv1 : v1 = 0 := by have h := xr1; exact h
  have z4 : v1 = 0 := xv1
  subst z4
  refine lv_if_eq (tgt := 17) hx hb dX6_ask_5 (by decide) (fun c5 => ?_) (fun c5 => ?_)
  ·
    refine lv_ldc (v := (-1000001)) hx hb hown (hts (.constant RX6 64 (-1000001)) (List.mem_of_getElem? (i := 1) rfl)) dX6_ask_17 ?_
    exact W.iret (v := (-1000001)) hx hb hr (fun t ht hW9 => ⟨⟨(-1000001), I0, rfl, ⟨hF, hO, ⟨dkN_sub (dkN_lit (x := (-1000001)) (-1000001) rfl) rfl, q2, q3, rfl, rfl, rfl, rfl, rfl, rfl, rfl, rfl, rfl, rfl, rfl, trivial⟩⟩, dkW_eq ht hW⟩, hS.F ht⟩) hS.2.2 dX6_ask_19
  ·
    exact (dkN_nil (show dkN [] 0 from dkN_ne1 (0) (dkN_lit (x := 0) (0) rfl) (dkN_lit (x := 0) (0) rfl) (dk_ne c5) rfl)).elim
set_option maxHeartbeats 4000000 in
set_option maxRecDepth 100000 in
theorem fx_X5_isUpTo_13 (l : Launch) (g : dkG) (z : Nat) (I0 : dkI) (p0 : Int32) (p1 : Int32) (dp1 : dkN [(1, 1)] p1)  (hO : dkOk I0) : Met l yX5_isUpTo wsX5_isUpTo (dkR 0) (dkPc g z [.int p0, .int p1] I0) (dkQi g z (fun r I1 => dkF [] I0 I1 ∧ dkOk I1 ∧ ((dkN [(0, 0)] r ∧ dkN [(-2147483648, -1)] p0 ∧ p0.toInt + 1 ≤ (0 : Int) ∧ r = 0 ∧ True) ∨ (dkN [(0, 0)] r ∧ dkN [(2, 2147483647)] p0 ∧ (0 : Int) + 0 ≤ p0.toInt ∧ p1.toInt + 1 ≤ p0.toInt ∧ r = 0 ∧ True) ∨ (dkN [(1, 1)] r ∧ dkN [(0, 1)] p0 ∧ (0 : Int) + 0 ≤ p0.toInt ∧ p0.toInt + 0 ≤ p1.toInt ∧ r = 1 ∧ True)))) 0 0 (dkA z) := by
  refine Met.ofW (cc := cX5_isUpTo) (maxL := 2) (ret := (some .boolean)) (by decide) rfl ?_
  intro p e s m args below meth c s₁ B hml hv
  obtain ⟨ha, hW, hK, hT⟩ := hv
  have hx := B.exec
  have hb := B.bytes
  have hr := B.returns
  have hts := atoms_spec (ws := wsX5_isUpTo) B.pre
  have hown : s.vm.findClass RX5 = some m.cls := findClass_of_methodNamed B.named
  have hlocks := B.notSynchronized
  have hS : va_S (dkA z) s.heap s.heap [] := va_S.rf
  have hF : dkF [] I0 I0 := dkF_rf _ _
  have hl := lv_entry ([.int p0, .int p1]) (n := 2) (Nat.le_of_ble_eq_true rfl)
  have hgo : entryFrame m args 2 = entryFrame m ([.int p0, .int p1] : List Value).toArray 2 := by rw [ha]
  rw [hgo, lg_entry_eq]
  generalize (lg_sl ([.int p0, .int p1]) ++ List.replicate (2 - (lg_sl ([.int p0, .int p1])).length) Slot.unset).toArray = ls at hl ⊢
  have hl : lv_has ls 2 [(0, .int p0), (1, .int p1)] := hl
  refine lv_iload_n hx hb dX5_isUpTo_0 rfl (lv_at hl 0 rfl) ?_
  refine lv_if_lt (tgt := 13) hx hb dX5_isUpTo_1 (by decide) (fun c1 => ?_) (fun c1 => ?_)
  ·
    have q2 : p0.toInt + 1 ≤ (0 : Int) := (dkc_lt c1)
    have d3 : dkN [(-2147483648, -1)] p0 := dkN_le1 1 (dkN_top p0) (dkN_lit (x := 0) (0) rfl) (dkc_lt c1) rfl
    refine lv_iconst (v := 0) hx hb dX5_isUpTo_13 (by decide) ?_
    exact W.zret (v := 0) (ty := .boolean) hx hb hr rfl (fun t ht hW9 => ⟨⟨0, I0, rfl, ⟨hF, hO, Or.inl ⟨dkN_sub (dkN_lit (x := 0) (0) rfl) rfl, dkN_sub d3 rfl, q2, rfl, trivial⟩⟩, dkW_eq ht hW⟩, hS.F ht⟩) hS.2.2 dX5_isUpTo_14
  ·
    have q4 : (0 : Int) + 0 ≤ p0.toInt := (dkc_nlt c1)
    have d5 : dkN [(0, 2147483647)] p0 := dkN_le2 0 (dkN_lit (x := 0) (0) rfl) (dkN_top p0) (dkc_nlt c1) rfl
    refine lv_iload_n hx hb dX5_isUpTo_4 rfl (lv_at hl 0 rfl) ?_
    refine lv_iload_n hx hb dX5_isUpTo_5 rfl (lv_at hl 1 rfl) ?_
    refine lv_icmp_gt (tgt := 13) hx hb dX5_isUpTo_6 (by decide) (fun c6 => ?_) (fun c6 => ?_)
    ·
      have q7 : p1.toInt + 1 ≤ p0.toInt := (dkc_lt c6)
      have d8 : dkN [(2, 2147483647)] p0 := dkN_le2 1 dp1 d5 (dkc_lt c6) rfl
      refine lv_iconst (v := 0) hx hb dX5_isUpTo_13 (by decide) ?_
      exact W.zret (v := 0) (ty := .boolean) hx hb hr rfl (fun t ht hW9 => ⟨⟨0, I0, rfl, ⟨hF, hO, Or.inr (Or.inl ⟨dkN_sub (dkN_lit (x := 0) (0) rfl) rfl, dkN_sub d8 rfl, q4, q7, rfl, trivial⟩)⟩, dkW_eq ht hW⟩, hS.F ht⟩) hS.2.2 dX5_isUpTo_14
    ·
      have q9 : p0.toInt + 0 ≤ p1.toInt := (dkc_nlt c6)
      have d10 : dkN [(0, 1)] p0 := dkN_le1 0 d5 dp1 (dkc_nlt c6) rfl
      refine lv_iconst (v := 1) hx hb dX5_isUpTo_9 (by decide) ?_
      refine lv_goto (tgt := 14) hx hb dX5_isUpTo_10 (by decide) ?_
      exact W.zret (v := 1) (ty := .boolean) hx hb hr rfl (fun t ht hW9 => ⟨⟨1, I0, rfl, ⟨hF, hO, Or.inr (Or.inr (⟨dkN_sub (dkN_lit (x := 1) (1) rfl) rfl, dkN_sub d10 rfl, q4, q9, rfl, trivial⟩))⟩, dkW_eq ht hW⟩, hS.F ht⟩) hS.2.2 dX5_isUpTo_14
set_option maxHeartbeats 4000000 in
set_option maxRecDepth 100000 in
theorem fx_X1_markBody_1 (l : Launch) (g : dkG) (z : Nat) (I0 : dkI) (p0 : Int32) (dp0 : dkN [(0, 5)] p0)  (tp0 : (I0 32 (Int32.toNatClampNeg p0)).toInt = (1 : Int)) (hO : dkOk I0) : Met l yX1_markBody wsX1_markBody (dkR 0) (dkPc g z [.ref (z + 338), .int p0] I0) (dkQi g z (fun r I1 => dkF [] I0 I1 ∧ dkOk I1 ∧ ((dkN [(21, 21)] r ∧ (I0 32 (Int32.toNatClampNeg p0)).toInt = (1 : Int) ∧ r = 21 ∧ True)))) 0 0 (dkA z) := by
  refine Met.ofW (cc := cX1_markBody) (maxL := 3) (ret := (some .int)) (by decide) rfl ?_
  intro p e s m args below meth c s₁ B hml hv
  obtain ⟨ha, hW, hK, hT⟩ := hv
  have hx := B.exec
  have hb := B.bytes
  have hr := B.returns
  have hts := atoms_spec (ws := wsX1_markBody) B.pre
  have hown : s.vm.findClass RX1 = some m.cls := findClass_of_methodNamed B.named
  have hlocks := B.notSynchronized
  have hS : va_S (dkA z) s.heap s.heap [] := va_S.rf
  have hF : dkF [] I0 I0 := dkF_rf _ _
  have hl := lv_entry ([.ref (z + 338), .int p0]) (n := 3) (Nat.le_of_ble_eq_true rfl)
  have hgo : entryFrame m args 3 = entryFrame m ([.ref (z + 338), .int p0] : List Value).toArray 3 := by rw [ha]
  rw [hgo, lg_entry_eq]
  generalize (lg_sl ([.ref (z + 338), .int p0]) ++ List.replicate (3 - (lg_sl ([.ref (z + 338), .int p0])).length) Slot.unset).toArray = ls at hl ⊢
  have hl : lv_has ls 3 [(0, .ref (z + 338)), (1, .int p0)] := hl
  refine lv_aload_n hx hb dX1_markBody_0 rfl (lv_at hl 0 rfl) ?_
  refine dk_get (k := 338) hx hb hts iX1_markBody_1 hown hK (dk_at338 hW) rfl 0 (by decide) (hts (.fieldLink RX1 15 "DogKings$Asks" "now" "LDogKings$Town;") (List.mem_of_getElem? (i := 1) rfl)) rfl dX1_markBody_1 ?_
  refine dk_get (k := 25) hx hb hts iX1_markBody_4 hown hK (dk_at25 hW) rfl 12 (by decide) (hts (.fieldLink RX1 35 "DogKings$Town" "sort" "[I") (List.mem_of_getElem? (i := 2) rfl)) rfl dX1_markBody_4 ?_
  refine lv_iload_n hx hb dX1_markBody_7 rfl (lv_at hl 1 rfl) ?_
  refine dk_ild (k := 32) hx hb hK (dk_at32 hW) (dkN_in (n := 6) dp0 rfl) dX1_markBody_8 ?_
  refine lv_topi (fun v1 ev1 => ?_)
  have xv1 : v1 = 1 := dk_e0 (by rw [show v1 = I0 32 (Int32.toNatClampNeg p0) from ev1.trans rfl]; exact tp0)
  subst xv1
  refine lv_istore_n (lv' := [(2, .int 1), (0, .ref (z + 338)), (1, .int p0)]) hx hb dX1_markBody_9 rfl hl (by decide) rfl (fun ls hl => ?_)
  refine lv_iload_n hx hb dX1_markBody_10 rfl (lv_at hl 0 rfl) ?_
  refine lv_if_lt (tgt := 30) hx hb dX1_markBody_11 (by decide) (fun c2 => ?_) (fun c2 => ?_)
  ·
    exact (dkN_nil (show dkN [] 1 from dkN_le1 1 (dkN_lit (x := 1) (1) rfl) (dkN_lit (x := 0) (0) rfl) (dkc_lt c2) rfl)).elim
  ·
    refine lv_iload_n hx hb dX1_markBody_14 rfl (lv_at hl 0 rfl) ?_
    obtain ⟨a3, hza3, hta3⟩ := hT.2
    refine va_gets hx hb hza3 hS hown (hts (.fieldLink RX1 43 "DogKings$Asks" "MARK_BODY" "[I") (List.mem_of_getElem? (i := 3) rfl)) (fun _ h => h) dX1_markBody_15 ?_
    refine va_tlen hx hb hta3 hS (v := 6) rfl dX1_markBody_18 ?_
    refine lv_icmp_ge (tgt := 30) hx hb dX1_markBody_19 (by decide) (fun c4 => ?_) (fun c4 => ?_)
    ·
      exact (dkN_nil (show dkN [] 6 from dkN_le1 0 (dkN_lit (x := 6) (6) rfl) (dkN_lit (x := 1) (1) rfl) (dkc_le c4) rfl)).elim
    ·
      obtain ⟨a5, hza5, hta5⟩ := hT.2
      refine va_gets hx hb hza5 hS hown (hts (.fieldLink RX1 43 "DogKings$Asks" "MARK_BODY" "[I") (List.mem_of_getElem? (i := 3) rfl)) (fun _ h => h) dX1_markBody_22 ?_
      refine lv_iload_n hx hb dX1_markBody_25 rfl (lv_at hl 0 rfl) ?_
      refine va_ti (v := .int (dkMkI (Int32.toNatClampNeg 1))) hx hb hta5 hS (dkN_in (n := 6) (dkN_lit (x := 1) (1) rfl) rfl) (dkMk_v _) dX1_markBody_26 ?_
      refine lv_topi (fun v7 ev7 => ?_)
      have dv7 : dkN [(21, 21)] v7 := by rw [ev7]; exact (dkN_lit (21) rfl)
      have xv7 : v7 = 21 := (ev7.trans rfl)
      subst xv7
      refine lv_goto (tgt := 35) hx hb dX1_markBody_27 (by decide) ?_
      exact W.iret (v := 21) hx hb hr (fun t ht hW9 => ⟨⟨21, I0, rfl, ⟨hF, hO, ⟨dkN_sub (dkN_lit (x := 21) (21) rfl) rfl, tp0, rfl, trivial⟩⟩, dkW_eq ht hW⟩, hS.F ht⟩) hS.2.2 dX1_markBody_35
set_option maxHeartbeats 4000000 in
set_option maxRecDepth 100000 in
theorem fx_X1_begins_8 (l : Launch) (g : dkG) (z : Nat) (I0 : dkI) (p0 : Int32) (dp0 : dkN [(21, 21)] p0) (np0 : dkN [(0, 0)] (I0 338 2))  (hO : dkOk I0) : Met l yX1_begins wsX1_begins (dkR 0) (dkPc g z [.ref (z + 338), .int p0] I0) (dkQv g z (fun I1 => dkF [(338, 338, 2, 2), (339, 339, 0, 0)] I0 I1 ∧ dkOk I1 ∧ ((dkN [(1, 1)] (I1 338 2) ∧ dkN [(21, 21)] (I1 339 0) ∧ I1 338 2 = 1 ∧ I1 339 0 = 21 ∧ I1 339 1 = I0 339 1 ∧ I1 339 2 = I0 339 2 ∧ I1 339 3 = I0 339 3 ∧ I1 339 4 = I0 339 4 ∧ I1 339 5 = I0 339 5 ∧ I1 339 6 = I0 339 6 ∧ I1 339 7 = I0 339 7 ∧ I1 339  = dkV (I0 339) 0 21 ∧ True)))) 0 0 (dkA z) := by
  obtain rfl : p0 = 21 := dkN_is dp0 rfl
  refine Met.ofW (cc := cX1_begins) (maxL := 2) (ret := none) (by decide) rfl ?_
  intro p e s m args below meth c s₁ B hml hv
  obtain ⟨ha, hW, hK, hT⟩ := hv
  have hx := B.exec
  have hb := B.bytes
  have hr := B.returns
  have hts := atoms_spec (ws := wsX1_begins) B.pre
  have hown : s.vm.findClass RX1 = some m.cls := findClass_of_methodNamed B.named
  have hlocks := B.notSynchronized
  have hS : va_S (dkA z) s.heap s.heap [] := va_S.rf
  have hF : dkF [(338, 338, 2, 2), (339, 339, 0, 0)] I0 I0 := dkF_rf _ _
  have hl := lv_entry ([.ref (z + 338), .int 21]) (n := 2) (Nat.le_of_ble_eq_true rfl)
  have hgo : entryFrame m args 2 = entryFrame m ([.ref (z + 338), .int 21] : List Value).toArray 2 := by rw [ha]
  rw [hgo, lg_entry_eq]
  generalize (lg_sl ([.ref (z + 338), .int 21]) ++ List.replicate (2 - (lg_sl ([.ref (z + 338), .int 21])).length) Slot.unset).toArray = ls at hl ⊢
  have hl : lv_has ls 2 [(0, .ref (z + 338)), (1, .int 21)] := hl
  refine lv_aload_n hx hb dX1_begins_0 rfl (lv_at hl 0 rfl) ?_
  refine dk_get (k := 338) hx hb hts iX1_begins_1 hown hK (dk_at338 hW) rfl 2 (by decide) (hts (.fieldLink RX1 19 "DogKings$Asks" "tracedCount" "I") (List.mem_of_getElem? (i := 1) rfl)) rfl dX1_begins_1 ?_
  refine lv_topi (fun v1 ev1 => ?_)
  have dv1 : dkN [(0, 0)] v1 := by rw [ev1]; exact np0
  have xv1 : v1 = 0 := dkN_is dv1 rfl
  subst xv1
  refine lv_bipush (v := 16) hx hb dX1_begins_4 (by decide) ?_
  refine lv_icmp_ge (tgt := 29) hx hb dX1_begins_6 (by decide) (fun c2 => ?_) (fun c2 => ?_)
  ·
    exact (dkN_nil (show dkN [] 16 from dkN_le1 0 (dkN_lit (x := 16) (16) rfl) (dkN_lit (x := 0) (0) rfl) (dkc_le c2) rfl)).elim
  ·
    refine lv_aload_n hx hb dX1_begins_9 rfl (lv_at hl 0 rfl) ?_
    refine dk_get (k := 338) hx hb hts iX1_begins_1 hown hK (dk_at338 hW) rfl 1 (by decide) (hts (.fieldLink RX1 11 "DogKings$Asks" "traced" "[I") (List.mem_of_getElem? (i := 2) rfl)) rfl dX1_begins_10 ?_
    refine lv_aload_n hx hb dX1_begins_13 rfl (lv_at hl 0 rfl) ?_
    refine dk_get (k := 338) hx hb hts iX1_begins_1 hown hK (dk_at338 hW) rfl 2 (by decide) (hts (.fieldLink RX1 19 "DogKings$Asks" "tracedCount" "I") (List.mem_of_getElem? (i := 1) rfl)) rfl dX1_begins_14 ?_
    refine lv_topi (fun v3 ev3 => ?_)
    have dv3 : dkN [(0, 0)] v3 := by rw [ev3]; exact np0
    have xv3 : v3 = 0 := dkN_is dv3 rfl
    subst xv3
    refine lv_iload_n hx hb dX1_begins_17 rfl (lv_at hl 1 rfl) ?_
    refine dk_ist (k := 339) hx hb hK hW (fun _ => rfl) (by decide) hS (dkN_in (n := 16) (dkN_lit (x := 0) (0) rfl) rfl) dX1_begins_18 (fun I4 H4 L4 eI4 hW hS => ?_)
    have eI4 : I4 = dkU I0 339 0 21 := eI4
    have hO := dkO_set hO eI4 (dkN_sub (dkN_lit (x := 21) (21) rfl) rfl)
    have hF := dkF_set hF eI4 rfl
    refine lv_aload_n hx hb dX1_begins_19 rfl (lv_at hl 0 rfl) ?_
    refine lv_dup hx hb dX1_begins_20 rfl ?_
    refine dk_get (k := 338) hx hb hts iX1_begins_1 hown hK (dk_at338 hW) rfl 2 (by decide) (hts (.fieldLink RX1 19 "DogKings$Asks" "tracedCount" "I") (List.mem_of_getElem? (i := 1) rfl)) rfl dX1_begins_21 ?_
    refine lv_topi (fun v5 ev5 => ?_)
    have dv5 : dkN [(0, 0)] v5 := by rw [ev5]; exact (by rw [eI4, dkU_n (by decide)]; exact np0)
    have xv5 : v5 = 0 := dkN_is dv5 rfl
    subst xv5
    refine lv_iconst (v := 1) hx hb dX1_begins_24 (by decide) ?_
    refine lv_iadd hx hb dX1_begins_25 ?_
    refine lv_topi (fun v6 ev6 => ?_)
    have dv6 : dkN [(1, 1)] v6 := by rw [ev6]; exact dkN_add (dkN_lit (x := 0) (0) rfl) (dkN_lit (x := 1) (1) rfl) rfl
    have xv6 : v6 = 1 := by rw [ev6]; rfl
    subst xv6
    refine dk_put (k := 338) hx hb hts iX1_begins_1 tyX1 tyX1_ok nmX1 hown hK hW (dk_at338 hW) hS rfl 2 (by decide) (hts (.fieldLink RX1 19 "DogKings$Asks" "tracedCount" "I") (List.mem_of_getElem? (i := 1) rfl)) rfl rfl (Nat.le_of_ble_eq_true rfl) rfl dX1_begins_26 (fun I7 H7 L7 eI7 hW hS => ?_)
    have eI7 : I7 = dkU I4 338 2 1 := eI7
    have hO := dkO_set hO eI7 (dkN_sub (dkN_lit (x := 1) (1) rfl) rfl)
    have hF := dkF_set hF eI7 rfl
    exact W.vret hx hb hr (fun t ht hW9 => ⟨⟨I7, rfl, ⟨hF, hO, ⟨(show dkN [(1, 1)] (I7 338 2) from dkN_sub (by rw [eI7, dkU_ss]; exact (dkN_lit (x := 1) (1) rfl)) rfl), (show dkN [(21, 21)] (I7 339 0) from dkN_sub (by rw [eI7, dkU_n (by decide)]; exact (by rw [eI4, dkU_ss]; exact (dkN_lit (x := 21) (21) rfl))) rfl), (by rw [eI7, dkU_ss]), ((by rw [eI7, dkU_n (by decide)] : I7 339 0 = _).trans (by rw [eI4, dkU_ss])), ((by rw [eI7, dkU_n (by decide)] : I7 339 1 = _).trans ((by rw [eI4, dkU_sn (by decide)] : I4 339 1 = _).trans rfl)), ((by rw [eI7, dkU_n (by decide)] : I7 339 2 = _).trans ((by rw [eI4, dkU_sn (by decide)] : I4 339 2 = _).trans rfl)), ((by rw [eI7, dkU_n (by decide)] : I7 339 3 = _).trans ((by rw [eI4, dkU_sn (by decide)] : I4 339 3 = _).trans rfl)), ((by rw [eI7, dkU_n (by decide)] : I7 339 4 = _).trans ((by rw [eI4, dkU_sn (by decide)] : I4 339 4 = _).trans rfl)), ((by rw [eI7, dkU_n (by decide)] : I7 339 5 = _).trans ((by rw [eI4, dkU_sn (by decide)] : I4 339 5 = _).trans rfl)), ((by rw [eI7, dkU_n (by decide)] : I7 339 6 = _).trans ((by rw [eI4, dkU_sn (by decide)] : I4 339 6 = _).trans rfl)), ((by rw [eI7, dkU_n (by decide)] : I7 339 7 = _).trans ((by rw [eI4, dkU_sn (by decide)] : I4 339 7 = _).trans rfl)), ((by rw [eI7, dkU_n (by decide)] : I7 339 = _).trans (by rw [eI4, dkU_s, show (I0 339) = I0 339 from rfl])), trivial⟩⟩, dkW_eq ht hW⟩, hS.F ht⟩) hS.2.2 dX1_begins_29
set_option maxHeartbeats 4000000 in
set_option maxRecDepth 100000 in
theorem fx_X1_begins_9 (l : Launch) (g : dkG) (z : Nat) (I0 : dkI) (p0 : Int32) (dp0 : dkN [(20, 20)] p0) (np0 : dkN [(1, 1)] (I0 338 2))  (hO : dkOk I0) : Met l yX1_begins wsX1_begins (dkR 0) (dkPc g z [.ref (z + 338), .int p0] I0) (dkQv g z (fun I1 => dkF [(338, 338, 2, 2), (339, 339, 1, 1)] I0 I1 ∧ dkOk I1 ∧ ((dkN [(2, 2)] (I1 338 2) ∧ dkN [(20, 20)] (I1 339 1) ∧ I1 338 2 = 2 ∧ I1 339 0 = I0 339 0 ∧ I1 339 1 = 20 ∧ I1 339 2 = I0 339 2 ∧ I1 339 3 = I0 339 3 ∧ I1 339 4 = I0 339 4 ∧ I1 339 5 = I0 339 5 ∧ I1 339 6 = I0 339 6 ∧ I1 339 7 = I0 339 7 ∧ I1 339  = dkV (I0 339) 1 20 ∧ True)))) 0 0 (dkA z) := by
  obtain rfl : p0 = 20 := dkN_is dp0 rfl
  refine Met.ofW (cc := cX1_begins) (maxL := 2) (ret := none) (by decide) rfl ?_
  intro p e s m args below meth c s₁ B hml hv
  obtain ⟨ha, hW, hK, hT⟩ := hv
  have hx := B.exec
  have hb := B.bytes
  have hr := B.returns
  have hts := atoms_spec (ws := wsX1_begins) B.pre
  have hown : s.vm.findClass RX1 = some m.cls := findClass_of_methodNamed B.named
  have hlocks := B.notSynchronized
  have hS : va_S (dkA z) s.heap s.heap [] := va_S.rf
  have hF : dkF [(338, 338, 2, 2), (339, 339, 1, 1)] I0 I0 := dkF_rf _ _
  have hl := lv_entry ([.ref (z + 338), .int 20]) (n := 2) (Nat.le_of_ble_eq_true rfl)
  have hgo : entryFrame m args 2 = entryFrame m ([.ref (z + 338), .int 20] : List Value).toArray 2 := by rw [ha]
  rw [hgo, lg_entry_eq]
  generalize (lg_sl ([.ref (z + 338), .int 20]) ++ List.replicate (2 - (lg_sl ([.ref (z + 338), .int 20])).length) Slot.unset).toArray = ls at hl ⊢
  have hl : lv_has ls 2 [(0, .ref (z + 338)), (1, .int 20)] := hl
  refine lv_aload_n hx hb dX1_begins_0 rfl (lv_at hl 0 rfl) ?_
  refine dk_get (k := 338) hx hb hts iX1_begins_1 hown hK (dk_at338 hW) rfl 2 (by decide) (hts (.fieldLink RX1 19 "DogKings$Asks" "tracedCount" "I") (List.mem_of_getElem? (i := 1) rfl)) rfl dX1_begins_1 ?_
  refine lv_topi (fun v1 ev1 => ?_)
  have dv1 : dkN [(1, 1)] v1 := by rw [ev1]; exact np0
  have xv1 : v1 = 1 := dkN_is dv1 rfl
  subst xv1
  refine lv_bipush (v := 16) hx hb dX1_begins_4 (by decide) ?_
  refine lv_icmp_ge (tgt := 29) hx hb dX1_begins_6 (by decide) (fun c2 => ?_) (fun c2 => ?_)
  ·
    exact (dkN_nil (show dkN [] 16 from dkN_le1 0 (dkN_lit (x := 16) (16) rfl) (dkN_lit (x := 1) (1) rfl) (dkc_le c2) rfl)).elim
  ·
    refine lv_aload_n hx hb dX1_begins_9 rfl (lv_at hl 0 rfl) ?_
    refine dk_get (k := 338) hx hb hts iX1_begins_1 hown hK (dk_at338 hW) rfl 1 (by decide) (hts (.fieldLink RX1 11 "DogKings$Asks" "traced" "[I") (List.mem_of_getElem? (i := 2) rfl)) rfl dX1_begins_10 ?_
    refine lv_aload_n hx hb dX1_begins_13 rfl (lv_at hl 0 rfl) ?_
    refine dk_get (k := 338) hx hb hts iX1_begins_1 hown hK (dk_at338 hW) rfl 2 (by decide) (hts (.fieldLink RX1 19 "DogKings$Asks" "tracedCount" "I") (List.mem_of_getElem? (i := 1) rfl)) rfl dX1_begins_14 ?_
    refine lv_topi (fun v3 ev3 => ?_)
    have dv3 : dkN [(1, 1)] v3 := by rw [ev3]; exact np0
    have xv3 : v3 = 1 := dkN_is dv3 rfl
    subst xv3
    refine lv_iload_n hx hb dX1_begins_17 rfl (lv_at hl 1 rfl) ?_
    refine dk_ist (k := 339) hx hb hK hW (fun _ => rfl) (by decide) hS (dkN_in (n := 16) (dkN_lit (x := 1) (1) rfl) rfl) dX1_begins_18 (fun I4 H4 L4 eI4 hW hS => ?_)
    have eI4 : I4 = dkU I0 339 1 20 := eI4
    have hO := dkO_set hO eI4 (dkN_sub (dkN_lit (x := 20) (20) rfl) rfl)
    have hF := dkF_set hF eI4 rfl
    refine lv_aload_n hx hb dX1_begins_19 rfl (lv_at hl 0 rfl) ?_
    refine lv_dup hx hb dX1_begins_20 rfl ?_
    refine dk_get (k := 338) hx hb hts iX1_begins_1 hown hK (dk_at338 hW) rfl 2 (by decide) (hts (.fieldLink RX1 19 "DogKings$Asks" "tracedCount" "I") (List.mem_of_getElem? (i := 1) rfl)) rfl dX1_begins_21 ?_
    refine lv_topi (fun v5 ev5 => ?_)
    have dv5 : dkN [(1, 1)] v5 := by rw [ev5]; exact (by rw [eI4, dkU_n (by decide)]; exact np0)
    have xv5 : v5 = 1 := dkN_is dv5 rfl
    subst xv5
    refine lv_iconst (v := 1) hx hb dX1_begins_24 (by decide) ?_
    refine lv_iadd hx hb dX1_begins_25 ?_
    refine lv_topi (fun v6 ev6 => ?_)
    have dv6 : dkN [(2, 2)] v6 := by rw [ev6]; exact dkN_add (dkN_lit (x := 1) (1) rfl) (dkN_lit (x := 1) (1) rfl) rfl
    have xv6 : v6 = 2 := by rw [ev6]; rfl
    subst xv6
    refine dk_put (k := 338) hx hb hts iX1_begins_1 tyX1 tyX1_ok nmX1 hown hK hW (dk_at338 hW) hS rfl 2 (by decide) (hts (.fieldLink RX1 19 "DogKings$Asks" "tracedCount" "I") (List.mem_of_getElem? (i := 1) rfl)) rfl rfl (Nat.le_of_ble_eq_true rfl) rfl dX1_begins_26 (fun I7 H7 L7 eI7 hW hS => ?_)
    have eI7 : I7 = dkU I4 338 2 2 := eI7
    have hO := dkO_set hO eI7 (dkN_sub (dkN_lit (x := 2) (2) rfl) rfl)
    have hF := dkF_set hF eI7 rfl
    exact W.vret hx hb hr (fun t ht hW9 => ⟨⟨I7, rfl, ⟨hF, hO, ⟨(show dkN [(2, 2)] (I7 338 2) from dkN_sub (by rw [eI7, dkU_ss]; exact (dkN_lit (x := 2) (2) rfl)) rfl), (show dkN [(20, 20)] (I7 339 1) from dkN_sub (by rw [eI7, dkU_n (by decide)]; exact (by rw [eI4, dkU_ss]; exact (dkN_lit (x := 20) (20) rfl))) rfl), (by rw [eI7, dkU_ss]), ((by rw [eI7, dkU_n (by decide)] : I7 339 0 = _).trans ((by rw [eI4, dkU_sn (by decide)] : I4 339 0 = _).trans rfl)), ((by rw [eI7, dkU_n (by decide)] : I7 339 1 = _).trans (by rw [eI4, dkU_ss])), ((by rw [eI7, dkU_n (by decide)] : I7 339 2 = _).trans ((by rw [eI4, dkU_sn (by decide)] : I4 339 2 = _).trans rfl)), ((by rw [eI7, dkU_n (by decide)] : I7 339 3 = _).trans ((by rw [eI4, dkU_sn (by decide)] : I4 339 3 = _).trans rfl)), ((by rw [eI7, dkU_n (by decide)] : I7 339 4 = _).trans ((by rw [eI4, dkU_sn (by decide)] : I4 339 4 = _).trans rfl)), ((by rw [eI7, dkU_n (by decide)] : I7 339 5 = _).trans ((by rw [eI4, dkU_sn (by decide)] : I4 339 5 = _).trans rfl)), ((by rw [eI7, dkU_n (by decide)] : I7 339 6 = _).trans ((by rw [eI4, dkU_sn (by decide)] : I4 339 6 = _).trans rfl)), ((by rw [eI7, dkU_n (by decide)] : I7 339 7 = _).trans ((by rw [eI4, dkU_sn (by decide)] : I4 339 7 = _).trans rfl)), ((by rw [eI7, dkU_n (by decide)] : I7 339 = _).trans (by rw [eI4, dkU_s, show (I0 339) = I0 339 from rfl])), trivial⟩⟩, dkW_eq ht hW⟩, hS.F ht⟩) hS.2.2 dX1_begins_29
set_option maxHeartbeats 4000000 in
set_option maxRecDepth 100000 in
theorem fx_X1_gives_37 (l : Launch) (g : dkG) (z : Nat) (I0 : dkI) (p0 : Int32) (p1 : Int32) (p2 : Int32) (dp0 : dkN [(20, 20)] p0) (dp1 : dkN [(0, 5)] p1) (dp2 : dkN [(2, 2)] p2) (np0 : dkN [(1, 1)] (I0 338 2))  (tp0 : (I0 32 (Int32.toNatClampNeg p1)).toInt = (1 : Int)) (hO : dkOk I0) : Met l yX1_gives wsX1_gives (dkR 1) (dkPc g z [.ref (z + 338), .int p0, .int p1, .int p2] I0) (dkQi g z (fun r I1 => dkF [(338, 338, 2, 2), (339, 339, 1, 1)] I0 I1 ∧ dkOk I1 ∧ ((dkN [(0, 5)] r ∧ dkN [(2, 2)] (I1 338 2) ∧ dkN [(20, 20)] (I1 339 1) ∧ (I0 32 (Int32.toNatClampNeg p1)).toInt = (1 : Int) ∧ r = p1 ∧ I1 338 2 = 2 ∧ I1 339 0 = I0 339 0 ∧ I1 339 1 = 20 ∧ I1 339 2 = I0 339 2 ∧ I1 339 3 = I0 339 3 ∧ I1 339 4 = I0 339 4 ∧ I1 339 5 = I0 339 5 ∧ I1 339 6 = I0 339 6 ∧ I1 339 7 = I0 339 7 ∧ I1 339  = dkV (I0 339) 1 20 ∧ True)))) 0 0 (dkA z) := by
  obtain rfl : p0 = 20 := dkN_is dp0 rfl
  obtain rfl : p2 = 2 := dkN_is dp2 rfl
  refine Met.ofW (cc := cX1_gives) (maxL := 5) (ret := (some .int)) (by decide) rfl ?_
  intro p e s m args below meth c s₁ B hml hv
  obtain ⟨ha, hW, hK, hT⟩ := hv
  have hx := B.exec
  have hb := B.bytes
  have hr := B.returns
  have hts := atoms_spec (ws := wsX1_gives) B.pre
  have hown : s.vm.findClass RX1 = some m.cls := findClass_of_methodNamed B.named
  have hlocks := B.notSynchronized
  have hS : va_S (dkA z) s.heap s.heap [] := va_S.rf
  have hF : dkF [(338, 338, 2, 2), (339, 339, 1, 1)] I0 I0 := dkF_rf _ _
  have hl := lv_entry ([.ref (z + 338), .int 20, .int p1, .int 2]) (n := 5) (Nat.le_of_ble_eq_true rfl)
  have hgo : entryFrame m args 5 = entryFrame m ([.ref (z + 338), .int 20, .int p1, .int 2] : List Value).toArray 5 := by rw [ha]
  rw [hgo, lg_entry_eq]
  generalize (lg_sl ([.ref (z + 338), .int 20, .int p1, .int 2]) ++ List.replicate (5 - (lg_sl ([.ref (z + 338), .int 20, .int p1, .int 2])).length) Slot.unset).toArray = ls at hl ⊢
  have hl : lv_has ls 5 [(0, .ref (z + 338)), (1, .int 20), (2, .int p1), (3, .int 2)] := hl
  refine lv_iload_n hx hb dX1_gives_0 rfl (lv_at hl 3 rfl) ?_
  refine lv_iconst (v := 5) hx hb dX1_gives_1 (by decide) ?_
  refine lv_icmp_le (tgt := 8) hx hb dX1_gives_2 (by decide) (fun c1 => ?_) (fun c1 => ?_)
  ·
    refine lv_aload_n hx hb dX1_gives_8 rfl (lv_at hl 0 rfl) ?_
    refine lv_iload_n hx hb dX1_gives_9 rfl (lv_at hl 1 rfl) ?_
    refine dk_Vv (As := [.int 20]) (rest := []) ⟨hx, hb, hml, hown, hts⟩ (fx_X1_begins_9 l g z I0 20 (dkN_lit (x := 20) (20) rfl) (show dkN [(1, 1)] (I0 338 2) from dkN_sub np0 rfl) hO) (cwV 1 hts gX1_gives_X1_begins rfl rfl rfl (by decide +kernel) ⟨Nat.le_of_ble_eq_true rfl, Nat.le_of_ble_eq_true rfl⟩) (dk_at338 hW) rfl hK hT hW hS rfl hl.1 rfl (Nat.le_of_ble_eq_true rfl) dX1_gives_10 ⟨Nat.zero_le _, Nat.zero_le _⟩ (fun I2 H2 L2 hp2 hW hS => ?_)
    obtain ⟨hF2, hO, hc2⟩ := hp2
    have hF := dkF_call hF hF2 rfl
    obtain ⟨f2_338_2, f2_339_1, xh2_0, xh2_1, xh2_2, xh2_3, xh2_4, xh2_5, xh2_6, xh2_7, xh2_8, xh2_9, -⟩ := hc2
    have y3 : I2 338 2 = 2 := by have h := xh2_0; exact h
    have y4 : I2 339 0 = I0 339 0 := by have h := xh2_1; exact h
    have y5 : I2 339 1 = 20 := by have h := xh2_2; exact h
    have y6 : I2 339 2 = I0 339 2 := by have h := xh2_3; exact h
    have y7 : I2 339 3 = I0 339 3 := by have h := xh2_4; exact h
    have y8 : I2 339 4 = I0 339 4 := by have h := xh2_5; exact h
    have y9 : I2 339 5 = I0 339 5 := by have h := xh2_6; exact h
    have y10 : I2 339 6 = I0 339 6 := by have h := xh2_7; exact h
    have y11 : I2 339 7 = I0 339 7 := by have h := xh2_8; exact h
    have y12 : I2 339 = dkV (I0 339) 1 20 := by have h := xh2_9; exact h
    refine lv_iload_n hx hb dX1_gives_13 rfl (lv_at hl 3 rfl) ?_
    refine lv_iconst (v := 1) hx hb dX1_gives_14 (by decide) ?_
    refine lv_iadd hx hb dX1_gives_15 ?_
    refine lv_topi (fun v13 ev13 => ?_)
    have dv13 : dkN [(3, 3)] v13 := by rw [ev13]; exact dkN_add (dkN_lit (x := 2) (2) rfl) (dkN_lit (x := 1) (1) rfl) rfl
    have xv13 : v13 = 3 := by rw [ev13]; rfl
    subst xv13
    refine lv_istore (lv' := [(4, .int 3), (0, .ref (z + 338)), (1, .int 20), (2, .int p1), (3, .int 2)]) hx hb dX1_gives_16 hl (by decide) rfl (fun ls hl => ?_)
    refine lv_iload_n hx hb dX1_gives_18 rfl (lv_at hl 2 rfl) ?_
    have qc14 : (20 : Int32).toInt = 20 := rfl
    refine lv_tableIn (tgt := 161) hx hb dX1_gives_19 (by rw [qc14]; decide) (by rw [qc14]; decide) (by rw [qc14]; rfl) (by decide) ?_
    refine lv_iload_n hx hb dX1_gives_161 rfl (lv_at hl 3 rfl) ?_
    exact W.iret (v := p1) hx hb hr (fun t ht hW9 => ⟨⟨p1, I2, rfl, ⟨hF, hO, ⟨dkN_sub dp1 rfl, (show dkN [(2, 2)] (I2 338 2) from dkN_sub f2_338_2 rfl), (show dkN [(20, 20)] (I2 339 1) from dkN_sub f2_339_1 rfl), tp0, rfl, y3, y4, y5, y6, y7, y8, y9, y10, y11, y12, trivial⟩⟩, dkW_eq ht hW⟩, hS.F ht⟩) hS.2.2 dX1_gives_162
  ·
    exact (dkN_nil (show dkN [] 2 from dkN_le2 1 (dkN_lit (x := 5) (5) rfl) (dkN_lit (x := 2) (2) rfl) (dkc_nle c1) rfl)).elim
set_option maxHeartbeats 4000000 in
set_option maxRecDepth 100000 in
theorem fx_X1_gives_36 (l : Launch) (g : dkG) (z : Nat) (I0 : dkI) (p0 : Int32) (p1 : Int32) (p2 : Int32) (dp0 : dkN [(21, 21)] p0) (dp1 : dkN [(0, 5)] p1) (dp2 : dkN [(1, 1)] p2) (np0 : dkN [(0, 0)] (I0 338 2))  (tp0 : (I0 32 (Int32.toNatClampNeg p1)).toInt = (1 : Int)) (hO : dkOk I0) : Met l yX1_gives wsX1_gives (dkR 2) (dkPc g z [.ref (z + 338), .int p0, .int p1, .int p2] I0) (dkQi g z (fun r I1 => dkF [(338, 338, 2, 2), (339, 339, 0, 1)] I0 I1 ∧ dkOk I1 ∧ ((True ∧ dkN [(2, 2)] (I1 338 2) ∧ dkN [(21, 21)] (I1 339 0) ∧ dkN [(20, 20)] (I1 339 1) ∧ (I0 32 (Int32.toNatClampNeg p1)).toInt = (1 : Int) ∧ ((I0 32) (Int32.toNatClampNeg p1)).toInt = (1 : Int) ∧ r = p1 + (I0 34 (Int32.toNatClampNeg p1)) ∧ I1 338 2 = 2 ∧ I1 339 0 = 21 ∧ I1 339 1 = 20 ∧ I1 339 2 = I0 339 2 ∧ I1 339 3 = I0 339 3 ∧ I1 339 4 = I0 339 4 ∧ I1 339 5 = I0 339 5 ∧ I1 339 6 = I0 339 6 ∧ I1 339 7 = I0 339 7 ∧ I1 339  = dkV (dkV (I0 339) 0 21) 1 20 ∧ True)))) 0 0 (dkA z) := by
  obtain rfl : p0 = 21 := dkN_is dp0 rfl
  obtain rfl : p2 = 1 := dkN_is dp2 rfl
  refine Met.ofW (cc := cX1_gives) (maxL := 5) (ret := (some .int)) (by decide) rfl ?_
  intro p e s m args below meth c s₁ B hml hv
  obtain ⟨ha, hW, hK, hT⟩ := hv
  have hx := B.exec
  have hb := B.bytes
  have hr := B.returns
  have hts := atoms_spec (ws := wsX1_gives) B.pre
  have hown : s.vm.findClass RX1 = some m.cls := findClass_of_methodNamed B.named
  have hlocks := B.notSynchronized
  have hS : va_S (dkA z) s.heap s.heap [] := va_S.rf
  have hF : dkF [(338, 338, 2, 2), (339, 339, 0, 1)] I0 I0 := dkF_rf _ _
  have hl := lv_entry ([.ref (z + 338), .int 21, .int p1, .int 1]) (n := 5) (Nat.le_of_ble_eq_true rfl)
  have hgo : entryFrame m args 5 = entryFrame m ([.ref (z + 338), .int 21, .int p1, .int 1] : List Value).toArray 5 := by rw [ha]
  rw [hgo, lg_entry_eq]
  generalize (lg_sl ([.ref (z + 338), .int 21, .int p1, .int 1]) ++ List.replicate (5 - (lg_sl ([.ref (z + 338), .int 21, .int p1, .int 1])).length) Slot.unset).toArray = ls at hl ⊢
  have hl : lv_has ls 5 [(0, .ref (z + 338)), (1, .int 21), (2, .int p1), (3, .int 1)] := hl
  refine lv_iload_n hx hb dX1_gives_0 rfl (lv_at hl 3 rfl) ?_
  refine lv_iconst (v := 5) hx hb dX1_gives_1 (by decide) ?_
  refine lv_icmp_le (tgt := 8) hx hb dX1_gives_2 (by decide) (fun c1 => ?_) (fun c1 => ?_)
  ·
    refine lv_aload_n hx hb dX1_gives_8 rfl (lv_at hl 0 rfl) ?_
    refine lv_iload_n hx hb dX1_gives_9 rfl (lv_at hl 1 rfl) ?_
    refine dk_Vv (As := [.int 21]) (rest := []) ⟨hx, hb, hml, hown, hts⟩ (fx_X1_begins_8 l g z I0 21 (dkN_lit (x := 21) (21) rfl) (show dkN [(0, 0)] (I0 338 2) from dkN_sub np0 rfl) hO) (cwV 1 hts gX1_gives_X1_begins rfl rfl rfl (by decide +kernel) ⟨Nat.le_of_ble_eq_true rfl, Nat.le_of_ble_eq_true rfl⟩) (dk_at338 hW) rfl hK hT hW hS rfl hl.1 rfl (Nat.le_of_ble_eq_true rfl) dX1_gives_10 ⟨Nat.zero_le _, Nat.zero_le _⟩ (fun I2 H2 L2 hp2 hW hS => ?_)
    obtain ⟨hF2, hO, hc2⟩ := hp2
    have hF := dkF_call hF hF2 rfl
    obtain ⟨f2_338_2, f2_339_0, xh2_0, xh2_1, xh2_2, xh2_3, xh2_4, xh2_5, xh2_6, xh2_7, xh2_8, xh2_9, -⟩ := hc2
    have y3 : I2 338 2 = 1 := by have h := xh2_0; exact h
    have y4 : I2 339 0 = 21 := by have h := xh2_1; exact h
    have y5 : I2 339 1 = I0 339 1 := by have h := xh2_2; exact h
    have y6 : I2 339 2 = I0 339 2 := by have h := xh2_3; exact h
    have y7 : I2 339 3 = I0 339 3 := by have h := xh2_4; exact h
    have y8 : I2 339 4 = I0 339 4 := by have h := xh2_5; exact h
    have y9 : I2 339 5 = I0 339 5 := by have h := xh2_6; exact h
    have y10 : I2 339 6 = I0 339 6 := by have h := xh2_7; exact h
    have y11 : I2 339 7 = I0 339 7 := by have h := xh2_8; exact h
    have y12 : I2 339 = dkV (I0 339) 0 21 := by have h := xh2_9; exact h
    refine lv_iload_n hx hb dX1_gives_13 rfl (lv_at hl 3 rfl) ?_
    refine lv_iconst (v := 1) hx hb dX1_gives_14 (by decide) ?_
    refine lv_iadd hx hb dX1_gives_15 ?_
    refine lv_topi (fun v13 ev13 => ?_)
    have dv13 : dkN [(2, 2)] v13 := by rw [ev13]; exact dkN_add (dkN_lit (x := 1) (1) rfl) (dkN_lit (x := 1) (1) rfl) rfl
    have xv13 : v13 = 2 := by rw [ev13]; rfl
    subst xv13
    refine lv_istore (lv' := [(4, .int 2), (0, .ref (z + 338)), (1, .int 21), (2, .int p1), (3, .int 1)]) hx hb dX1_gives_16 hl (by decide) rfl (fun ls hl => ?_)
    refine lv_iload_n hx hb dX1_gives_18 rfl (lv_at hl 2 rfl) ?_
    have qc14 : (21 : Int32).toInt = 21 := rfl
    refine lv_tableIn (tgt := 163) hx hb dX1_gives_19 (by rw [qc14]; decide) (by rw [qc14]; decide) (by rw [qc14]; rfl) (by decide) ?_
    refine lv_aload_n hx hb dX1_gives_163 rfl (lv_at hl 1 rfl) ?_
    refine lv_bipush (v := 20) hx hb dX1_gives_164 (by decide) ?_
    refine lv_iload_n hx hb dX1_gives_166 rfl (lv_at hl 3 rfl) ?_
    refine lv_iload hx hb dX1_gives_167 (lv_at hl 0 rfl) ?_
    refine dk_Vi (As := [.int 20, .int p1, .int 2]) (rest := []) ⟨hx, hb, hml, hown, hts⟩ (fx_X1_gives_37 l g z I2 20 p1 2 (dkN_lit (x := 20) (20) rfl) dp1 (dkN_lit (x := 2) (2) rfl) (show dkN [(1, 1)] (I2 338 2) from dkN_sub f2_338_2 rfl) (by rw [(show I2 32 = I0 32 from ((funext fun j => hF2 32 j (dkNin_k rfl (dkNin_k rfl dkNin_nil))).trans rfl))]; exact tp0) hO) (cwV 3 hts gX1_gives_X1_gives rfl rfl rfl (by decide +kernel) ⟨Nat.le_of_ble_eq_true rfl, Nat.le_of_ble_eq_true rfl⟩) (dk_at338 hW) rfl hK hT hW hS rfl hl.1 rfl (Nat.le_of_ble_eq_true rfl) dX1_gives_169 ⟨Nat.zero_le _, Nat.zero_le _⟩ (fun v15 I15 H15 L15 hp15 hW hS => ?_)
    obtain ⟨hF15, hO, hc15⟩ := hp15
    have hF := dkF_call hF hF15 rfl
    obtain ⟨dv15, f15_338_2, f15_339_1, x15_0, xr15, xh15_0, xh15_1, xh15_2, xh15_3, xh15_4, xh15_5, xh15_6, xh15_7, xh15_8, xh15_9, -⟩ := hc15
    have w16 : I2 32 = I0 32 := ((funext fun j => hF2 32 j (dkNin_k rfl (dkNin_k rfl dkNin_nil))).trans rfl)
    have q17 : ((I0 32) (Int32.toNatClampNeg p1)).toInt = (1 : Int) := by have h := x15_0; rw [w16] at h; exact h
    have y18 : I15 338 2 = 2 := by have h := xh15_0; exact h
    have w19 : I2 339 0 = 21 := y4
    have y20 : I15 339 0 = 21 := by have h := xh15_1; rw [w19] at h; exact h
    have y21 : I15 339 1 = 20 := by have h := xh15_2; exact h
    have w22 : I2 339 2 = I0 339 2 := y6
    have y23 : I15 339 2 = I0 339 2 := by have h := xh15_3; rw [w22] at h; exact h
    have w24 : I2 339 3 = I0 339 3 := y7
    have y25 : I15 339 3 = I0 339 3 := by have h := xh15_4; rw [w24] at h; exact h
    have w26 : I2 339 4 = I0 339 4 := y8
    have y27 : I15 339 4 = I0 339 4 := by have h := xh15_5; rw [w26] at h; exact h
    have w28 : I2 339 5 = I0 339 5 := y9
    have y29 : I15 339 5 = I0 339 5 := by have h := xh15_6; rw [w28] at h; exact h
    have w30 : I2 339 6 = I0 339 6 := y10
    have y31 : I15 339 6 = I0 339 6 := by have h := xh15_7; rw [w30] at h; exact h
    have w32 : I2 339 7 = I0 339 7 := y11
    have y33 : I15 339 7 = I0 339 7 := by have h := xh15_8; rw [w32] at h; exact h
    have w34 : I2 339 = dkV (I0 339) 0 21 := y12
    have y35 : I15 339 = dkV (dkV (I0 339) 0 21) 1 20 := by have h := xh15_9; rw [w34] at h; exact h
    have xv15 : v15 = p1 := by have h := xr15; exact h
    refine lv_aload_n hx hb dX1_gives_172 rfl (lv_at hl 1 rfl) ?_
    refine dk_get (k := 338) hx hb hts iX1_gives_1 hown hK (dk_at338 hW) rfl 0 (by decide) (hts (.fieldLink RX1 15 "DogKings$Asks" "now" "LDogKings$Town;") (List.mem_of_getElem? (i := 2) rfl)) rfl dX1_gives_173 ?_
    refine dk_get (k := 25) hx hb hts iX1_gives_4 hown hK (dk_at25 hW) rfl 14 (by decide) (hts (.fieldLink RX1 54 "DogKings$Town" "dogAt" "[I") (List.mem_of_getElem? (i := 4) rfl)) rfl dX1_gives_176 ?_
    refine lv_iload_n hx hb dX1_gives_179 rfl (lv_at hl 3 rfl) ?_
    refine dk_ild (k := 34) hx hb hK (dk_at34 hW) (dkN_in (n := 6) dp1 rfl) dX1_gives_180 ?_
    refine lv_topi (fun v36 ev36 => ?_)
    have xv36 : v36 = I0 34 (Int32.toNatClampNeg p1) := ev36.trans ((hF15 34 (Int32.toNatClampNeg p1) (dkNin_k rfl (dkNin_k rfl dkNin_nil))).trans ((hF2 34 (Int32.toNatClampNeg p1) (dkNin_k rfl (dkNin_k rfl dkNin_nil))).trans rfl))
    refine lv_iadd hx hb dX1_gives_181 ?_
    refine lv_topi (fun v37 ev37 => ?_)
    have xv37 : v37 = p1 + (I0 34 (Int32.toNatClampNeg p1)) := by rw [ev37, xv15, xv36]
    exact W.iret (v := v37) hx hb hr (fun t ht hW9 => ⟨⟨v37, I15, rfl, ⟨hF, hO, ⟨trivial, (show dkN [(2, 2)] (I15 338 2) from dkN_sub f15_338_2 rfl), (show dkN [(21, 21)] (I15 339 0) from dkN_sub (by rw [hF15 339 0 rfl]; exact f2_339_0) rfl), (show dkN [(20, 20)] (I15 339 1) from dkN_sub f15_339_1 rfl), tp0, q17, xv37, y18, y20, y21, y23, y25, y27, y29, y31, y33, y35, trivial⟩⟩, dkW_eq ht hW⟩, hS.F ht⟩) hS.2.2 dX1_gives_182
  ·
    exact (dkN_nil (show dkN [] 1 from dkN_le2 1 (dkN_lit (x := 5) (5) rfl) (dkN_lit (x := 1) (1) rfl) (dkc_nle c1) rfl)).elim
set_option maxHeartbeats 4000000 in
set_option maxRecDepth 100000 in
theorem fx_X1_sizeBody_1 (l : Launch) (g : dkG) (z : Nat) (I0 : dkI) (p0 : Int32) (dp0 : dkN [(0, 5)] p0)  (tp0 : (I0 32 (Int32.toNatClampNeg p0)).toInt = (1 : Int)) (hO : dkOk I0) : Met l yX1_sizeBody wsX1_sizeBody (dkR 0) (dkPc g z [.ref (z + 338), .int p0] I0) (dkQi g z (fun r I1 => dkF [] I0 I1 ∧ dkOk I1 ∧ ((dkN [(11, 11)] r ∧ (I0 32 (Int32.toNatClampNeg p0)).toInt = (1 : Int) ∧ r = 11 ∧ True)))) 0 0 (dkA z) := by
  refine Met.ofW (cc := cX1_sizeBody) (maxL := 3) (ret := (some .int)) (by decide) rfl ?_
  intro p e s m args below meth c s₁ B hml hv
  obtain ⟨ha, hW, hK, hT⟩ := hv
  have hx := B.exec
  have hb := B.bytes
  have hr := B.returns
  have hts := atoms_spec (ws := wsX1_sizeBody) B.pre
  have hown : s.vm.findClass RX1 = some m.cls := findClass_of_methodNamed B.named
  have hlocks := B.notSynchronized
  have hS : va_S (dkA z) s.heap s.heap [] := va_S.rf
  have hF : dkF [] I0 I0 := dkF_rf _ _
  have hl := lv_entry ([.ref (z + 338), .int p0]) (n := 3) (Nat.le_of_ble_eq_true rfl)
  have hgo : entryFrame m args 3 = entryFrame m ([.ref (z + 338), .int p0] : List Value).toArray 3 := by rw [ha]
  rw [hgo, lg_entry_eq]
  generalize (lg_sl ([.ref (z + 338), .int p0]) ++ List.replicate (3 - (lg_sl ([.ref (z + 338), .int p0])).length) Slot.unset).toArray = ls at hl ⊢
  have hl : lv_has ls 3 [(0, .ref (z + 338)), (1, .int p0)] := hl
  refine lv_aload_n hx hb dX1_sizeBody_0 rfl (lv_at hl 0 rfl) ?_
  refine dk_get (k := 338) hx hb hts iX1_sizeBody_1 hown hK (dk_at338 hW) rfl 0 (by decide) (hts (.fieldLink RX1 15 "DogKings$Asks" "now" "LDogKings$Town;") (List.mem_of_getElem? (i := 1) rfl)) rfl dX1_sizeBody_1 ?_
  refine dk_get (k := 25) hx hb hts iX1_sizeBody_4 hown hK (dk_at25 hW) rfl 12 (by decide) (hts (.fieldLink RX1 35 "DogKings$Town" "sort" "[I") (List.mem_of_getElem? (i := 2) rfl)) rfl dX1_sizeBody_4 ?_
  refine lv_iload_n hx hb dX1_sizeBody_7 rfl (lv_at hl 1 rfl) ?_
  refine dk_ild (k := 32) hx hb hK (dk_at32 hW) (dkN_in (n := 6) dp0 rfl) dX1_sizeBody_8 ?_
  refine lv_topi (fun v1 ev1 => ?_)
  have xv1 : v1 = 1 := dk_e0 (by rw [show v1 = I0 32 (Int32.toNatClampNeg p0) from ev1.trans rfl]; exact tp0)
  subst xv1
  refine lv_istore_n (lv' := [(2, .int 1), (0, .ref (z + 338)), (1, .int p0)]) hx hb dX1_sizeBody_9 rfl hl (by decide) rfl (fun ls hl => ?_)
  refine lv_iload_n hx hb dX1_sizeBody_10 rfl (lv_at hl 0 rfl) ?_
  refine lv_if_lt (tgt := 30) hx hb dX1_sizeBody_11 (by decide) (fun c2 => ?_) (fun c2 => ?_)
  ·
    exact (dkN_nil (show dkN [] 1 from dkN_le1 1 (dkN_lit (x := 1) (1) rfl) (dkN_lit (x := 0) (0) rfl) (dkc_lt c2) rfl)).elim
  ·
    refine lv_iload_n hx hb dX1_sizeBody_14 rfl (lv_at hl 0 rfl) ?_
    obtain ⟨a3, hza3, hta3⟩ := hT.1
    refine va_gets hx hb hza3 hS hown (hts (.fieldLink RX1 40 "DogKings$Asks" "SIZE_BODY" "[I") (List.mem_of_getElem? (i := 3) rfl)) (fun _ h => h) dX1_sizeBody_15 ?_
    refine va_tlen hx hb hta3 hS (v := 6) rfl dX1_sizeBody_18 ?_
    refine lv_icmp_ge (tgt := 30) hx hb dX1_sizeBody_19 (by decide) (fun c4 => ?_) (fun c4 => ?_)
    ·
      exact (dkN_nil (show dkN [] 6 from dkN_le1 0 (dkN_lit (x := 6) (6) rfl) (dkN_lit (x := 1) (1) rfl) (dkc_le c4) rfl)).elim
    ·
      obtain ⟨a5, hza5, hta5⟩ := hT.1
      refine va_gets hx hb hza5 hS hown (hts (.fieldLink RX1 40 "DogKings$Asks" "SIZE_BODY" "[I") (List.mem_of_getElem? (i := 3) rfl)) (fun _ h => h) dX1_sizeBody_22 ?_
      refine lv_iload_n hx hb dX1_sizeBody_25 rfl (lv_at hl 0 rfl) ?_
      refine va_ti (v := .int (dkSzI (Int32.toNatClampNeg 1))) hx hb hta5 hS (dkN_in (n := 6) (dkN_lit (x := 1) (1) rfl) rfl) (dkSz_v _) dX1_sizeBody_26 ?_
      refine lv_topi (fun v7 ev7 => ?_)
      have dv7 : dkN [(11, 11)] v7 := by rw [ev7]; exact (dkN_lit (11) rfl)
      have xv7 : v7 = 11 := (ev7.trans rfl)
      subst xv7
      refine lv_goto (tgt := 35) hx hb dX1_sizeBody_27 (by decide) ?_
      exact W.iret (v := 11) hx hb hr (fun t ht hW9 => ⟨⟨11, I0, rfl, ⟨hF, hO, ⟨dkN_sub (dkN_lit (x := 11) (11) rfl) rfl, tp0, rfl, trivial⟩⟩, dkW_eq ht hW⟩, hS.F ht⟩) hS.2.2 dX1_sizeBody_35
set_option maxHeartbeats 4000000 in
set_option maxRecDepth 100000 in
theorem fx_X1_begins_10 (l : Launch) (g : dkG) (z : Nat) (I0 : dkI) (p0 : Int32) (dp0 : dkN [(11, 11)] p0) (np0 : dkN [(0, 0)] (I0 338 2))  (hO : dkOk I0) : Met l yX1_begins wsX1_begins (dkR 0) (dkPc g z [.ref (z + 338), .int p0] I0) (dkQv g z (fun I1 => dkF [(338, 338, 2, 2), (339, 339, 0, 0)] I0 I1 ∧ dkOk I1 ∧ ((dkN [(1, 1)] (I1 338 2) ∧ dkN [(11, 11)] (I1 339 0) ∧ I1 338 2 = 1 ∧ I1 339 0 = 11 ∧ I1 339 1 = I0 339 1 ∧ I1 339 2 = I0 339 2 ∧ I1 339 3 = I0 339 3 ∧ I1 339 4 = I0 339 4 ∧ I1 339 5 = I0 339 5 ∧ I1 339 6 = I0 339 6 ∧ I1 339 7 = I0 339 7 ∧ I1 339  = dkV (I0 339) 0 11 ∧ True)))) 0 0 (dkA z) := by
  obtain rfl : p0 = 11 := dkN_is dp0 rfl
  refine Met.ofW (cc := cX1_begins) (maxL := 2) (ret := none) (by decide) rfl ?_
  intro p e s m args below meth c s₁ B hml hv
  obtain ⟨ha, hW, hK, hT⟩ := hv
  have hx := B.exec
  have hb := B.bytes
  have hr := B.returns
  have hts := atoms_spec (ws := wsX1_begins) B.pre
  have hown : s.vm.findClass RX1 = some m.cls := findClass_of_methodNamed B.named
  have hlocks := B.notSynchronized
  have hS : va_S (dkA z) s.heap s.heap [] := va_S.rf
  have hF : dkF [(338, 338, 2, 2), (339, 339, 0, 0)] I0 I0 := dkF_rf _ _
  have hl := lv_entry ([.ref (z + 338), .int 11]) (n := 2) (Nat.le_of_ble_eq_true rfl)
  have hgo : entryFrame m args 2 = entryFrame m ([.ref (z + 338), .int 11] : List Value).toArray 2 := by rw [ha]
  rw [hgo, lg_entry_eq]
  generalize (lg_sl ([.ref (z + 338), .int 11]) ++ List.replicate (2 - (lg_sl ([.ref (z + 338), .int 11])).length) Slot.unset).toArray = ls at hl ⊢
  have hl : lv_has ls 2 [(0, .ref (z + 338)), (1, .int 11)] := hl
  refine lv_aload_n hx hb dX1_begins_0 rfl (lv_at hl 0 rfl) ?_
  refine dk_get (k := 338) hx hb hts iX1_begins_1 hown hK (dk_at338 hW) rfl 2 (by decide) (hts (.fieldLink RX1 19 "DogKings$Asks" "tracedCount" "I") (List.mem_of_getElem? (i := 1) rfl)) rfl dX1_begins_1 ?_
  refine lv_topi (fun v1 ev1 => ?_)
  have dv1 : dkN [(0, 0)] v1 := by rw [ev1]; exact np0
  have xv1 : v1 = 0 := dkN_is dv1 rfl
  subst xv1
  refine lv_bipush (v := 16) hx hb dX1_begins_4 (by decide) ?_
  refine lv_icmp_ge (tgt := 29) hx hb dX1_begins_6 (by decide) (fun c2 => ?_) (fun c2 => ?_)
  ·
    exact (dkN_nil (show dkN [] 16 from dkN_le1 0 (dkN_lit (x := 16) (16) rfl) (dkN_lit (x := 0) (0) rfl) (dkc_le c2) rfl)).elim
  ·
    refine lv_aload_n hx hb dX1_begins_9 rfl (lv_at hl 0 rfl) ?_
    refine dk_get (k := 338) hx hb hts iX1_begins_1 hown hK (dk_at338 hW) rfl 1 (by decide) (hts (.fieldLink RX1 11 "DogKings$Asks" "traced" "[I") (List.mem_of_getElem? (i := 2) rfl)) rfl dX1_begins_10 ?_
    refine lv_aload_n hx hb dX1_begins_13 rfl (lv_at hl 0 rfl) ?_
    refine dk_get (k := 338) hx hb hts iX1_begins_1 hown hK (dk_at338 hW) rfl 2 (by decide) (hts (.fieldLink RX1 19 "DogKings$Asks" "tracedCount" "I") (List.mem_of_getElem? (i := 1) rfl)) rfl dX1_begins_14 ?_
    refine lv_topi (fun v3 ev3 => ?_)
    have dv3 : dkN [(0, 0)] v3 := by rw [ev3]; exact np0
    have xv3 : v3 = 0 := dkN_is dv3 rfl
    subst xv3
    refine lv_iload_n hx hb dX1_begins_17 rfl (lv_at hl 1 rfl) ?_
    refine dk_ist (k := 339) hx hb hK hW (fun _ => rfl) (by decide) hS (dkN_in (n := 16) (dkN_lit (x := 0) (0) rfl) rfl) dX1_begins_18 (fun I4 H4 L4 eI4 hW hS => ?_)
    have eI4 : I4 = dkU I0 339 0 11 := eI4
    have hO := dkO_set hO eI4 (dkN_sub (dkN_lit (x := 11) (11) rfl) rfl)
    have hF := dkF_set hF eI4 rfl
    refine lv_aload_n hx hb dX1_begins_19 rfl (lv_at hl 0 rfl) ?_
    refine lv_dup hx hb dX1_begins_20 rfl ?_
    refine dk_get (k := 338) hx hb hts iX1_begins_1 hown hK (dk_at338 hW) rfl 2 (by decide) (hts (.fieldLink RX1 19 "DogKings$Asks" "tracedCount" "I") (List.mem_of_getElem? (i := 1) rfl)) rfl dX1_begins_21 ?_
    refine lv_topi (fun v5 ev5 => ?_)
    have dv5 : dkN [(0, 0)] v5 := by rw [ev5]; exact (by rw [eI4, dkU_n (by decide)]; exact np0)
    have xv5 : v5 = 0 := dkN_is dv5 rfl
    subst xv5
    refine lv_iconst (v := 1) hx hb dX1_begins_24 (by decide) ?_
    refine lv_iadd hx hb dX1_begins_25 ?_
    refine lv_topi (fun v6 ev6 => ?_)
    have dv6 : dkN [(1, 1)] v6 := by rw [ev6]; exact dkN_add (dkN_lit (x := 0) (0) rfl) (dkN_lit (x := 1) (1) rfl) rfl
    have xv6 : v6 = 1 := by rw [ev6]; rfl
    subst xv6
    refine dk_put (k := 338) hx hb hts iX1_begins_1 tyX1 tyX1_ok nmX1 hown hK hW (dk_at338 hW) hS rfl 2 (by decide) (hts (.fieldLink RX1 19 "DogKings$Asks" "tracedCount" "I") (List.mem_of_getElem? (i := 1) rfl)) rfl rfl (Nat.le_of_ble_eq_true rfl) rfl dX1_begins_26 (fun I7 H7 L7 eI7 hW hS => ?_)
    have eI7 : I7 = dkU I4 338 2 1 := eI7
    have hO := dkO_set hO eI7 (dkN_sub (dkN_lit (x := 1) (1) rfl) rfl)
    have hF := dkF_set hF eI7 rfl
    exact W.vret hx hb hr (fun t ht hW9 => ⟨⟨I7, rfl, ⟨hF, hO, ⟨(show dkN [(1, 1)] (I7 338 2) from dkN_sub (by rw [eI7, dkU_ss]; exact (dkN_lit (x := 1) (1) rfl)) rfl), (show dkN [(11, 11)] (I7 339 0) from dkN_sub (by rw [eI7, dkU_n (by decide)]; exact (by rw [eI4, dkU_ss]; exact (dkN_lit (x := 11) (11) rfl))) rfl), (by rw [eI7, dkU_ss]), ((by rw [eI7, dkU_n (by decide)] : I7 339 0 = _).trans (by rw [eI4, dkU_ss])), ((by rw [eI7, dkU_n (by decide)] : I7 339 1 = _).trans ((by rw [eI4, dkU_sn (by decide)] : I4 339 1 = _).trans rfl)), ((by rw [eI7, dkU_n (by decide)] : I7 339 2 = _).trans ((by rw [eI4, dkU_sn (by decide)] : I4 339 2 = _).trans rfl)), ((by rw [eI7, dkU_n (by decide)] : I7 339 3 = _).trans ((by rw [eI4, dkU_sn (by decide)] : I4 339 3 = _).trans rfl)), ((by rw [eI7, dkU_n (by decide)] : I7 339 4 = _).trans ((by rw [eI4, dkU_sn (by decide)] : I4 339 4 = _).trans rfl)), ((by rw [eI7, dkU_n (by decide)] : I7 339 5 = _).trans ((by rw [eI4, dkU_sn (by decide)] : I4 339 5 = _).trans rfl)), ((by rw [eI7, dkU_n (by decide)] : I7 339 6 = _).trans ((by rw [eI4, dkU_sn (by decide)] : I4 339 6 = _).trans rfl)), ((by rw [eI7, dkU_n (by decide)] : I7 339 7 = _).trans ((by rw [eI4, dkU_sn (by decide)] : I4 339 7 = _).trans rfl)), ((by rw [eI7, dkU_n (by decide)] : I7 339 = _).trans (by rw [eI4, dkU_s, show (I0 339) = I0 339 from rfl])), trivial⟩⟩, dkW_eq ht hW⟩, hS.F ht⟩) hS.2.2 dX1_begins_29
set_option maxHeartbeats 4000000 in
set_option maxRecDepth 100000 in
theorem fx_X1_begins_11 (l : Launch) (g : dkG) (z : Nat) (I0 : dkI) (p0 : Int32) (dp0 : dkN [(10, 10)] p0) (np0 : dkN [(1, 1)] (I0 338 2))  (hO : dkOk I0) : Met l yX1_begins wsX1_begins (dkR 0) (dkPc g z [.ref (z + 338), .int p0] I0) (dkQv g z (fun I1 => dkF [(338, 338, 2, 2), (339, 339, 1, 1)] I0 I1 ∧ dkOk I1 ∧ ((dkN [(2, 2)] (I1 338 2) ∧ dkN [(10, 10)] (I1 339 1) ∧ I1 338 2 = 2 ∧ I1 339 0 = I0 339 0 ∧ I1 339 1 = 10 ∧ I1 339 2 = I0 339 2 ∧ I1 339 3 = I0 339 3 ∧ I1 339 4 = I0 339 4 ∧ I1 339 5 = I0 339 5 ∧ I1 339 6 = I0 339 6 ∧ I1 339 7 = I0 339 7 ∧ I1 339  = dkV (I0 339) 1 10 ∧ True)))) 0 0 (dkA z) := by
  obtain rfl : p0 = 10 := dkN_is dp0 rfl
  refine Met.ofW (cc := cX1_begins) (maxL := 2) (ret := none) (by decide) rfl ?_
  intro p e s m args below meth c s₁ B hml hv
  obtain ⟨ha, hW, hK, hT⟩ := hv
  have hx := B.exec
  have hb := B.bytes
  have hr := B.returns
  have hts := atoms_spec (ws := wsX1_begins) B.pre
  have hown : s.vm.findClass RX1 = some m.cls := findClass_of_methodNamed B.named
  have hlocks := B.notSynchronized
  have hS : va_S (dkA z) s.heap s.heap [] := va_S.rf
  have hF : dkF [(338, 338, 2, 2), (339, 339, 1, 1)] I0 I0 := dkF_rf _ _
  have hl := lv_entry ([.ref (z + 338), .int 10]) (n := 2) (Nat.le_of_ble_eq_true rfl)
  have hgo : entryFrame m args 2 = entryFrame m ([.ref (z + 338), .int 10] : List Value).toArray 2 := by rw [ha]
  rw [hgo, lg_entry_eq]
  generalize (lg_sl ([.ref (z + 338), .int 10]) ++ List.replicate (2 - (lg_sl ([.ref (z + 338), .int 10])).length) Slot.unset).toArray = ls at hl ⊢
  have hl : lv_has ls 2 [(0, .ref (z + 338)), (1, .int 10)] := hl
  refine lv_aload_n hx hb dX1_begins_0 rfl (lv_at hl 0 rfl) ?_
  refine dk_get (k := 338) hx hb hts iX1_begins_1 hown hK (dk_at338 hW) rfl 2 (by decide) (hts (.fieldLink RX1 19 "DogKings$Asks" "tracedCount" "I") (List.mem_of_getElem? (i := 1) rfl)) rfl dX1_begins_1 ?_
  refine lv_topi (fun v1 ev1 => ?_)
  have dv1 : dkN [(1, 1)] v1 := by rw [ev1]; exact np0
  have xv1 : v1 = 1 := dkN_is dv1 rfl
  subst xv1
  refine lv_bipush (v := 16) hx hb dX1_begins_4 (by decide) ?_
  refine lv_icmp_ge (tgt := 29) hx hb dX1_begins_6 (by decide) (fun c2 => ?_) (fun c2 => ?_)
  ·
    exact (dkN_nil (show dkN [] 16 from dkN_le1 0 (dkN_lit (x := 16) (16) rfl) (dkN_lit (x := 1) (1) rfl) (dkc_le c2) rfl)).elim
  ·
    refine lv_aload_n hx hb dX1_begins_9 rfl (lv_at hl 0 rfl) ?_
    refine dk_get (k := 338) hx hb hts iX1_begins_1 hown hK (dk_at338 hW) rfl 1 (by decide) (hts (.fieldLink RX1 11 "DogKings$Asks" "traced" "[I") (List.mem_of_getElem? (i := 2) rfl)) rfl dX1_begins_10 ?_
    refine lv_aload_n hx hb dX1_begins_13 rfl (lv_at hl 0 rfl) ?_
    refine dk_get (k := 338) hx hb hts iX1_begins_1 hown hK (dk_at338 hW) rfl 2 (by decide) (hts (.fieldLink RX1 19 "DogKings$Asks" "tracedCount" "I") (List.mem_of_getElem? (i := 1) rfl)) rfl dX1_begins_14 ?_
    refine lv_topi (fun v3 ev3 => ?_)
    have dv3 : dkN [(1, 1)] v3 := by rw [ev3]; exact np0
    have xv3 : v3 = 1 := dkN_is dv3 rfl
    subst xv3
    refine lv_iload_n hx hb dX1_begins_17 rfl (lv_at hl 1 rfl) ?_
    refine dk_ist (k := 339) hx hb hK hW (fun _ => rfl) (by decide) hS (dkN_in (n := 16) (dkN_lit (x := 1) (1) rfl) rfl) dX1_begins_18 (fun I4 H4 L4 eI4 hW hS => ?_)
    have eI4 : I4 = dkU I0 339 1 10 := eI4
    have hO := dkO_set hO eI4 (dkN_sub (dkN_lit (x := 10) (10) rfl) rfl)
    have hF := dkF_set hF eI4 rfl
    refine lv_aload_n hx hb dX1_begins_19 rfl (lv_at hl 0 rfl) ?_
    refine lv_dup hx hb dX1_begins_20 rfl ?_
    refine dk_get (k := 338) hx hb hts iX1_begins_1 hown hK (dk_at338 hW) rfl 2 (by decide) (hts (.fieldLink RX1 19 "DogKings$Asks" "tracedCount" "I") (List.mem_of_getElem? (i := 1) rfl)) rfl dX1_begins_21 ?_
    refine lv_topi (fun v5 ev5 => ?_)
    have dv5 : dkN [(1, 1)] v5 := by rw [ev5]; exact (by rw [eI4, dkU_n (by decide)]; exact np0)
    have xv5 : v5 = 1 := dkN_is dv5 rfl
    subst xv5
    refine lv_iconst (v := 1) hx hb dX1_begins_24 (by decide) ?_
    refine lv_iadd hx hb dX1_begins_25 ?_
    refine lv_topi (fun v6 ev6 => ?_)
    have dv6 : dkN [(2, 2)] v6 := by rw [ev6]; exact dkN_add (dkN_lit (x := 1) (1) rfl) (dkN_lit (x := 1) (1) rfl) rfl
    have xv6 : v6 = 2 := by rw [ev6]; rfl
    subst xv6
    refine dk_put (k := 338) hx hb hts iX1_begins_1 tyX1 tyX1_ok nmX1 hown hK hW (dk_at338 hW) hS rfl 2 (by decide) (hts (.fieldLink RX1 19 "DogKings$Asks" "tracedCount" "I") (List.mem_of_getElem? (i := 1) rfl)) rfl rfl (Nat.le_of_ble_eq_true rfl) rfl dX1_begins_26 (fun I7 H7 L7 eI7 hW hS => ?_)
    have eI7 : I7 = dkU I4 338 2 2 := eI7
    have hO := dkO_set hO eI7 (dkN_sub (dkN_lit (x := 2) (2) rfl) rfl)
    have hF := dkF_set hF eI7 rfl
    exact W.vret hx hb hr (fun t ht hW9 => ⟨⟨I7, rfl, ⟨hF, hO, ⟨(show dkN [(2, 2)] (I7 338 2) from dkN_sub (by rw [eI7, dkU_ss]; exact (dkN_lit (x := 2) (2) rfl)) rfl), (show dkN [(10, 10)] (I7 339 1) from dkN_sub (by rw [eI7, dkU_n (by decide)]; exact (by rw [eI4, dkU_ss]; exact (dkN_lit (x := 10) (10) rfl))) rfl), (by rw [eI7, dkU_ss]), ((by rw [eI7, dkU_n (by decide)] : I7 339 0 = _).trans ((by rw [eI4, dkU_sn (by decide)] : I4 339 0 = _).trans rfl)), ((by rw [eI7, dkU_n (by decide)] : I7 339 1 = _).trans (by rw [eI4, dkU_ss])), ((by rw [eI7, dkU_n (by decide)] : I7 339 2 = _).trans ((by rw [eI4, dkU_sn (by decide)] : I4 339 2 = _).trans rfl)), ((by rw [eI7, dkU_n (by decide)] : I7 339 3 = _).trans ((by rw [eI4, dkU_sn (by decide)] : I4 339 3 = _).trans rfl)), ((by rw [eI7, dkU_n (by decide)] : I7 339 4 = _).trans ((by rw [eI4, dkU_sn (by decide)] : I4 339 4 = _).trans rfl)), ((by rw [eI7, dkU_n (by decide)] : I7 339 5 = _).trans ((by rw [eI4, dkU_sn (by decide)] : I4 339 5 = _).trans rfl)), ((by rw [eI7, dkU_n (by decide)] : I7 339 6 = _).trans ((by rw [eI4, dkU_sn (by decide)] : I4 339 6 = _).trans rfl)), ((by rw [eI7, dkU_n (by decide)] : I7 339 7 = _).trans ((by rw [eI4, dkU_sn (by decide)] : I4 339 7 = _).trans rfl)), ((by rw [eI7, dkU_n (by decide)] : I7 339 = _).trans (by rw [eI4, dkU_s, show (I0 339) = I0 339 from rfl])), trivial⟩⟩, dkW_eq ht hW⟩, hS.F ht⟩) hS.2.2 dX1_begins_29
set_option maxHeartbeats 4000000 in
set_option maxRecDepth 100000 in
theorem fx_X1_gives_39 (l : Launch) (g : dkG) (z : Nat) (I0 : dkI) (p0 : Int32) (p1 : Int32) (p2 : Int32) (dp0 : dkN [(10, 10)] p0) (dp1 : dkN [(0, 5)] p1) (dp2 : dkN [(2, 2)] p2) (np0 : dkN [(1, 1)] (I0 338 2))  (tp0 : (I0 32 (Int32.toNatClampNeg p1)).toInt = (1 : Int)) (hO : dkOk I0) : Met l yX1_gives wsX1_gives (dkR 1) (dkPc g z [.ref (z + 338), .int p0, .int p1, .int p2] I0) (dkQi g z (fun r I1 => dkF [(338, 338, 2, 2), (339, 339, 1, 1)] I0 I1 ∧ dkOk I1 ∧ ((True ∧ dkN [(2, 2)] (I1 338 2) ∧ dkN [(10, 10)] (I1 339 1) ∧ (I0 32 (Int32.toNatClampNeg p1)).toInt = (1 : Int) ∧ r = I0 33 (Int32.toNatClampNeg p1) ∧ I1 338 2 = 2 ∧ I1 339 0 = I0 339 0 ∧ I1 339 1 = 10 ∧ I1 339 2 = I0 339 2 ∧ I1 339 3 = I0 339 3 ∧ I1 339 4 = I0 339 4 ∧ I1 339 5 = I0 339 5 ∧ I1 339 6 = I0 339 6 ∧ I1 339 7 = I0 339 7 ∧ I1 339  = dkV (I0 339) 1 10 ∧ True)))) 0 0 (dkA z) := by
  obtain rfl : p0 = 10 := dkN_is dp0 rfl
  obtain rfl : p2 = 2 := dkN_is dp2 rfl
  refine Met.ofW (cc := cX1_gives) (maxL := 5) (ret := (some .int)) (by decide) rfl ?_
  intro p e s m args below meth c s₁ B hml hv
  obtain ⟨ha, hW, hK, hT⟩ := hv
  have hx := B.exec
  have hb := B.bytes
  have hr := B.returns
  have hts := atoms_spec (ws := wsX1_gives) B.pre
  have hown : s.vm.findClass RX1 = some m.cls := findClass_of_methodNamed B.named
  have hlocks := B.notSynchronized
  have hS : va_S (dkA z) s.heap s.heap [] := va_S.rf
  have hF : dkF [(338, 338, 2, 2), (339, 339, 1, 1)] I0 I0 := dkF_rf _ _
  have hl := lv_entry ([.ref (z + 338), .int 10, .int p1, .int 2]) (n := 5) (Nat.le_of_ble_eq_true rfl)
  have hgo : entryFrame m args 5 = entryFrame m ([.ref (z + 338), .int 10, .int p1, .int 2] : List Value).toArray 5 := by rw [ha]
  rw [hgo, lg_entry_eq]
  generalize (lg_sl ([.ref (z + 338), .int 10, .int p1, .int 2]) ++ List.replicate (5 - (lg_sl ([.ref (z + 338), .int 10, .int p1, .int 2])).length) Slot.unset).toArray = ls at hl ⊢
  have hl : lv_has ls 5 [(0, .ref (z + 338)), (1, .int 10), (2, .int p1), (3, .int 2)] := hl
  refine lv_iload_n hx hb dX1_gives_0 rfl (lv_at hl 3 rfl) ?_
  refine lv_iconst (v := 5) hx hb dX1_gives_1 (by decide) ?_
  refine lv_icmp_le (tgt := 8) hx hb dX1_gives_2 (by decide) (fun c1 => ?_) (fun c1 => ?_)
  ·
    refine lv_aload_n hx hb dX1_gives_8 rfl (lv_at hl 0 rfl) ?_
    refine lv_iload_n hx hb dX1_gives_9 rfl (lv_at hl 1 rfl) ?_
    refine dk_Vv (As := [.int 10]) (rest := []) ⟨hx, hb, hml, hown, hts⟩ (fx_X1_begins_11 l g z I0 10 (dkN_lit (x := 10) (10) rfl) (show dkN [(1, 1)] (I0 338 2) from dkN_sub np0 rfl) hO) (cwV 1 hts gX1_gives_X1_begins rfl rfl rfl (by decide +kernel) ⟨Nat.le_of_ble_eq_true rfl, Nat.le_of_ble_eq_true rfl⟩) (dk_at338 hW) rfl hK hT hW hS rfl hl.1 rfl (Nat.le_of_ble_eq_true rfl) dX1_gives_10 ⟨Nat.zero_le _, Nat.zero_le _⟩ (fun I2 H2 L2 hp2 hW hS => ?_)
    obtain ⟨hF2, hO, hc2⟩ := hp2
    have hF := dkF_call hF hF2 rfl
    obtain ⟨f2_338_2, f2_339_1, xh2_0, xh2_1, xh2_2, xh2_3, xh2_4, xh2_5, xh2_6, xh2_7, xh2_8, xh2_9, -⟩ := hc2
    have y3 : I2 338 2 = 2 := by have h := xh2_0; exact h
    have y4 : I2 339 0 = I0 339 0 := by have h := xh2_1; exact h
    have y5 : I2 339 1 = 10 := by have h := xh2_2; exact h
    have y6 : I2 339 2 = I0 339 2 := by have h := xh2_3; exact h
    have y7 : I2 339 3 = I0 339 3 := by have h := xh2_4; exact h
    have y8 : I2 339 4 = I0 339 4 := by have h := xh2_5; exact h
    have y9 : I2 339 5 = I0 339 5 := by have h := xh2_6; exact h
    have y10 : I2 339 6 = I0 339 6 := by have h := xh2_7; exact h
    have y11 : I2 339 7 = I0 339 7 := by have h := xh2_8; exact h
    have y12 : I2 339 = dkV (I0 339) 1 10 := by have h := xh2_9; exact h
    refine lv_iload_n hx hb dX1_gives_13 rfl (lv_at hl 3 rfl) ?_
    refine lv_iconst (v := 1) hx hb dX1_gives_14 (by decide) ?_
    refine lv_iadd hx hb dX1_gives_15 ?_
    refine lv_topi (fun v13 ev13 => ?_)
    have dv13 : dkN [(3, 3)] v13 := by rw [ev13]; exact dkN_add (dkN_lit (x := 2) (2) rfl) (dkN_lit (x := 1) (1) rfl) rfl
    have xv13 : v13 = 3 := by rw [ev13]; rfl
    subst xv13
    refine lv_istore (lv' := [(4, .int 3), (0, .ref (z + 338)), (1, .int 10), (2, .int p1), (3, .int 2)]) hx hb dX1_gives_16 hl (by decide) rfl (fun ls hl => ?_)
    refine lv_iload_n hx hb dX1_gives_18 rfl (lv_at hl 2 rfl) ?_
    have qc14 : (10 : Int32).toInt = 10 := rfl
    refine lv_tableIn (tgt := 92) hx hb dX1_gives_19 (by rw [qc14]; decide) (by rw [qc14]; decide) (by rw [qc14]; rfl) (by decide) ?_
    refine lv_aload_n hx hb dX1_gives_92 rfl (lv_at hl 1 rfl) ?_
    refine dk_get (k := 338) hx hb hts iX1_gives_1 hown hK (dk_at338 hW) rfl 0 (by decide) (hts (.fieldLink RX1 15 "DogKings$Asks" "now" "LDogKings$Town;") (List.mem_of_getElem? (i := 2) rfl)) rfl dX1_gives_93 ?_
    refine dk_get (k := 25) hx hb hts iX1_gives_4 hown hK (dk_at25 hW) rfl 13 (by decide) (hts (.fieldLink RX1 51 "DogKings$Town" "dogHome" "[I") (List.mem_of_getElem? (i := 3) rfl)) rfl dX1_gives_96 ?_
    refine lv_iload_n hx hb dX1_gives_99 rfl (lv_at hl 3 rfl) ?_
    refine dk_ild (k := 33) hx hb hK (dk_at33 hW) (dkN_in (n := 6) dp1 rfl) dX1_gives_100 ?_
    refine lv_topi (fun v15 ev15 => ?_)
    have xv15 : v15 = I0 33 (Int32.toNatClampNeg p1) := ev15.trans ((hF2 33 (Int32.toNatClampNeg p1) (dkNin_k rfl (dkNin_k rfl dkNin_nil))).trans rfl)
    exact W.iret (v := v15) hx hb hr (fun t ht hW9 => ⟨⟨v15, I2, rfl, ⟨hF, hO, ⟨trivial, (show dkN [(2, 2)] (I2 338 2) from dkN_sub f2_338_2 rfl), (show dkN [(10, 10)] (I2 339 1) from dkN_sub f2_339_1 rfl), tp0, xv15, y3, y4, y5, y6, y7, y8, y9, y10, y11, y12, trivial⟩⟩, dkW_eq ht hW⟩, hS.F ht⟩) hS.2.2 dX1_gives_101
  ·
    exact (dkN_nil (show dkN [] 2 from dkN_le2 1 (dkN_lit (x := 5) (5) rfl) (dkN_lit (x := 2) (2) rfl) (dkc_nle c1) rfl)).elim
set_option maxHeartbeats 4000000 in
set_option maxRecDepth 100000 in
theorem fx_X1_begins_12 (l : Launch) (g : dkG) (z : Nat) (I0 : dkI) (p0 : Int32) (dp0 : dkN [(21, 21)] p0) (np0 : dkN [(2, 2)] (I0 338 2))  (hO : dkOk I0) : Met l yX1_begins wsX1_begins (dkR 0) (dkPc g z [.ref (z + 338), .int p0] I0) (dkQv g z (fun I1 => dkF [(338, 338, 2, 2), (339, 339, 2, 2)] I0 I1 ∧ dkOk I1 ∧ ((dkN [(3, 3)] (I1 338 2) ∧ dkN [(21, 21)] (I1 339 2) ∧ I1 338 2 = 3 ∧ I1 339 0 = I0 339 0 ∧ I1 339 1 = I0 339 1 ∧ I1 339 2 = 21 ∧ I1 339 3 = I0 339 3 ∧ I1 339 4 = I0 339 4 ∧ I1 339 5 = I0 339 5 ∧ I1 339 6 = I0 339 6 ∧ I1 339 7 = I0 339 7 ∧ I1 339  = dkV (I0 339) 2 21 ∧ True)))) 0 0 (dkA z) := by
  obtain rfl : p0 = 21 := dkN_is dp0 rfl
  refine Met.ofW (cc := cX1_begins) (maxL := 2) (ret := none) (by decide) rfl ?_
  intro p e s m args below meth c s₁ B hml hv
  obtain ⟨ha, hW, hK, hT⟩ := hv
  have hx := B.exec
  have hb := B.bytes
  have hr := B.returns
  have hts := atoms_spec (ws := wsX1_begins) B.pre
  have hown : s.vm.findClass RX1 = some m.cls := findClass_of_methodNamed B.named
  have hlocks := B.notSynchronized
  have hS : va_S (dkA z) s.heap s.heap [] := va_S.rf
  have hF : dkF [(338, 338, 2, 2), (339, 339, 2, 2)] I0 I0 := dkF_rf _ _
  have hl := lv_entry ([.ref (z + 338), .int 21]) (n := 2) (Nat.le_of_ble_eq_true rfl)
  have hgo : entryFrame m args 2 = entryFrame m ([.ref (z + 338), .int 21] : List Value).toArray 2 := by rw [ha]
  rw [hgo, lg_entry_eq]
  generalize (lg_sl ([.ref (z + 338), .int 21]) ++ List.replicate (2 - (lg_sl ([.ref (z + 338), .int 21])).length) Slot.unset).toArray = ls at hl ⊢
  have hl : lv_has ls 2 [(0, .ref (z + 338)), (1, .int 21)] := hl
  refine lv_aload_n hx hb dX1_begins_0 rfl (lv_at hl 0 rfl) ?_
  refine dk_get (k := 338) hx hb hts iX1_begins_1 hown hK (dk_at338 hW) rfl 2 (by decide) (hts (.fieldLink RX1 19 "DogKings$Asks" "tracedCount" "I") (List.mem_of_getElem? (i := 1) rfl)) rfl dX1_begins_1 ?_
  refine lv_topi (fun v1 ev1 => ?_)
  have dv1 : dkN [(2, 2)] v1 := by rw [ev1]; exact np0
  have xv1 : v1 = 2 := dkN_is dv1 rfl
  subst xv1
  refine lv_bipush (v := 16) hx hb dX1_begins_4 (by decide) ?_
  refine lv_icmp_ge (tgt := 29) hx hb dX1_begins_6 (by decide) (fun c2 => ?_) (fun c2 => ?_)
  ·
    exact (dkN_nil (show dkN [] 16 from dkN_le1 0 (dkN_lit (x := 16) (16) rfl) (dkN_lit (x := 2) (2) rfl) (dkc_le c2) rfl)).elim
  ·
    refine lv_aload_n hx hb dX1_begins_9 rfl (lv_at hl 0 rfl) ?_
    refine dk_get (k := 338) hx hb hts iX1_begins_1 hown hK (dk_at338 hW) rfl 1 (by decide) (hts (.fieldLink RX1 11 "DogKings$Asks" "traced" "[I") (List.mem_of_getElem? (i := 2) rfl)) rfl dX1_begins_10 ?_
    refine lv_aload_n hx hb dX1_begins_13 rfl (lv_at hl 0 rfl) ?_
    refine dk_get (k := 338) hx hb hts iX1_begins_1 hown hK (dk_at338 hW) rfl 2 (by decide) (hts (.fieldLink RX1 19 "DogKings$Asks" "tracedCount" "I") (List.mem_of_getElem? (i := 1) rfl)) rfl dX1_begins_14 ?_
    refine lv_topi (fun v3 ev3 => ?_)
    have dv3 : dkN [(2, 2)] v3 := by rw [ev3]; exact np0
    have xv3 : v3 = 2 := dkN_is dv3 rfl
    subst xv3
    refine lv_iload_n hx hb dX1_begins_17 rfl (lv_at hl 1 rfl) ?_
    refine dk_ist (k := 339) hx hb hK hW (fun _ => rfl) (by decide) hS (dkN_in (n := 16) (dkN_lit (x := 2) (2) rfl) rfl) dX1_begins_18 (fun I4 H4 L4 eI4 hW hS => ?_)
    have eI4 : I4 = dkU I0 339 2 21 := eI4
    have hO := dkO_set hO eI4 (dkN_sub (dkN_lit (x := 21) (21) rfl) rfl)
    have hF := dkF_set hF eI4 rfl
    refine lv_aload_n hx hb dX1_begins_19 rfl (lv_at hl 0 rfl) ?_
    refine lv_dup hx hb dX1_begins_20 rfl ?_
    refine dk_get (k := 338) hx hb hts iX1_begins_1 hown hK (dk_at338 hW) rfl 2 (by decide) (hts (.fieldLink RX1 19 "DogKings$Asks" "tracedCount" "I") (List.mem_of_getElem? (i := 1) rfl)) rfl dX1_begins_21 ?_
    refine lv_topi (fun v5 ev5 => ?_)
    have dv5 : dkN [(2, 2)] v5 := by rw [ev5]; exact (by rw [eI4, dkU_n (by decide)]; exact np0)
    have xv5 : v5 = 2 := dkN_is dv5 rfl
    subst xv5
    refine lv_iconst (v := 1) hx hb dX1_begins_24 (by decide) ?_
    refine lv_iadd hx hb dX1_begins_25 ?_
    refine lv_topi (fun v6 ev6 => ?_)
    have dv6 : dkN [(3, 3)] v6 := by rw [ev6]; exact dkN_add (dkN_lit (x := 2) (2) rfl) (dkN_lit (x := 1) (1) rfl) rfl
    have xv6 : v6 = 3 := by rw [ev6]; rfl
    subst xv6
    refine dk_put (k := 338) hx hb hts iX1_begins_1 tyX1 tyX1_ok nmX1 hown hK hW (dk_at338 hW) hS rfl 2 (by decide) (hts (.fieldLink RX1 19 "DogKings$Asks" "tracedCount" "I") (List.mem_of_getElem? (i := 1) rfl)) rfl rfl (Nat.le_of_ble_eq_true rfl) rfl dX1_begins_26 (fun I7 H7 L7 eI7 hW hS => ?_)
    have eI7 : I7 = dkU I4 338 2 3 := eI7
    have hO := dkO_set hO eI7 (dkN_sub (dkN_lit (x := 3) (3) rfl) rfl)
    have hF := dkF_set hF eI7 rfl
    exact W.vret hx hb hr (fun t ht hW9 => ⟨⟨I7, rfl, ⟨hF, hO, ⟨(show dkN [(3, 3)] (I7 338 2) from dkN_sub (by rw [eI7, dkU_ss]; exact (dkN_lit (x := 3) (3) rfl)) rfl), (show dkN [(21, 21)] (I7 339 2) from dkN_sub (by rw [eI7, dkU_n (by decide)]; exact (by rw [eI4, dkU_ss]; exact (dkN_lit (x := 21) (21) rfl))) rfl), (by rw [eI7, dkU_ss]), ((by rw [eI7, dkU_n (by decide)] : I7 339 0 = _).trans ((by rw [eI4, dkU_sn (by decide)] : I4 339 0 = _).trans rfl)), ((by rw [eI7, dkU_n (by decide)] : I7 339 1 = _).trans ((by rw [eI4, dkU_sn (by decide)] : I4 339 1 = _).trans rfl)), ((by rw [eI7, dkU_n (by decide)] : I7 339 2 = _).trans (by rw [eI4, dkU_ss])), ((by rw [eI7, dkU_n (by decide)] : I7 339 3 = _).trans ((by rw [eI4, dkU_sn (by decide)] : I4 339 3 = _).trans rfl)), ((by rw [eI7, dkU_n (by decide)] : I7 339 4 = _).trans ((by rw [eI4, dkU_sn (by decide)] : I4 339 4 = _).trans rfl)), ((by rw [eI7, dkU_n (by decide)] : I7 339 5 = _).trans ((by rw [eI4, dkU_sn (by decide)] : I4 339 5 = _).trans rfl)), ((by rw [eI7, dkU_n (by decide)] : I7 339 6 = _).trans ((by rw [eI4, dkU_sn (by decide)] : I4 339 6 = _).trans rfl)), ((by rw [eI7, dkU_n (by decide)] : I7 339 7 = _).trans ((by rw [eI4, dkU_sn (by decide)] : I4 339 7 = _).trans rfl)), ((by rw [eI7, dkU_n (by decide)] : I7 339 = _).trans (by rw [eI4, dkU_s, show (I0 339) = I0 339 from rfl])), trivial⟩⟩, dkW_eq ht hW⟩, hS.F ht⟩) hS.2.2 dX1_begins_29
set_option maxHeartbeats 4000000 in
set_option maxRecDepth 100000 in
theorem fx_X1_begins_13 (l : Launch) (g : dkG) (z : Nat) (I0 : dkI) (p0 : Int32) (dp0 : dkN [(20, 20)] p0) (np0 : dkN [(3, 3)] (I0 338 2))  (hO : dkOk I0) : Met l yX1_begins wsX1_begins (dkR 0) (dkPc g z [.ref (z + 338), .int p0] I0) (dkQv g z (fun I1 => dkF [(338, 338, 2, 2), (339, 339, 3, 3)] I0 I1 ∧ dkOk I1 ∧ ((dkN [(4, 4)] (I1 338 2) ∧ dkN [(20, 20)] (I1 339 3) ∧ I1 338 2 = 4 ∧ I1 339 0 = I0 339 0 ∧ I1 339 1 = I0 339 1 ∧ I1 339 2 = I0 339 2 ∧ I1 339 3 = 20 ∧ I1 339 4 = I0 339 4 ∧ I1 339 5 = I0 339 5 ∧ I1 339 6 = I0 339 6 ∧ I1 339 7 = I0 339 7 ∧ I1 339  = dkV (I0 339) 3 20 ∧ True)))) 0 0 (dkA z) := by
  obtain rfl : p0 = 20 := dkN_is dp0 rfl
  refine Met.ofW (cc := cX1_begins) (maxL := 2) (ret := none) (by decide) rfl ?_
  intro p e s m args below meth c s₁ B hml hv
  obtain ⟨ha, hW, hK, hT⟩ := hv
  have hx := B.exec
  have hb := B.bytes
  have hr := B.returns
  have hts := atoms_spec (ws := wsX1_begins) B.pre
  have hown : s.vm.findClass RX1 = some m.cls := findClass_of_methodNamed B.named
  have hlocks := B.notSynchronized
  have hS : va_S (dkA z) s.heap s.heap [] := va_S.rf
  have hF : dkF [(338, 338, 2, 2), (339, 339, 3, 3)] I0 I0 := dkF_rf _ _
  have hl := lv_entry ([.ref (z + 338), .int 20]) (n := 2) (Nat.le_of_ble_eq_true rfl)
  have hgo : entryFrame m args 2 = entryFrame m ([.ref (z + 338), .int 20] : List Value).toArray 2 := by rw [ha]
  rw [hgo, lg_entry_eq]
  generalize (lg_sl ([.ref (z + 338), .int 20]) ++ List.replicate (2 - (lg_sl ([.ref (z + 338), .int 20])).length) Slot.unset).toArray = ls at hl ⊢
  have hl : lv_has ls 2 [(0, .ref (z + 338)), (1, .int 20)] := hl
  refine lv_aload_n hx hb dX1_begins_0 rfl (lv_at hl 0 rfl) ?_
  refine dk_get (k := 338) hx hb hts iX1_begins_1 hown hK (dk_at338 hW) rfl 2 (by decide) (hts (.fieldLink RX1 19 "DogKings$Asks" "tracedCount" "I") (List.mem_of_getElem? (i := 1) rfl)) rfl dX1_begins_1 ?_
  refine lv_topi (fun v1 ev1 => ?_)
  have dv1 : dkN [(3, 3)] v1 := by rw [ev1]; exact np0
  have xv1 : v1 = 3 := dkN_is dv1 rfl
  subst xv1
  refine lv_bipush (v := 16) hx hb dX1_begins_4 (by decide) ?_
  refine lv_icmp_ge (tgt := 29) hx hb dX1_begins_6 (by decide) (fun c2 => ?_) (fun c2 => ?_)
  ·
    exact (dkN_nil (show dkN [] 16 from dkN_le1 0 (dkN_lit (x := 16) (16) rfl) (dkN_lit (x := 3) (3) rfl) (dkc_le c2) rfl)).elim
  ·
    refine lv_aload_n hx hb dX1_begins_9 rfl (lv_at hl 0 rfl) ?_
    refine dk_get (k := 338) hx hb hts iX1_begins_1 hown hK (dk_at338 hW) rfl 1 (by decide) (hts (.fieldLink RX1 11 "DogKings$Asks" "traced" "[I") (List.mem_of_getElem? (i := 2) rfl)) rfl dX1_begins_10 ?_
    refine lv_aload_n hx hb dX1_begins_13 rfl (lv_at hl 0 rfl) ?_
    refine dk_get (k := 338) hx hb hts iX1_begins_1 hown hK (dk_at338 hW) rfl 2 (by decide) (hts (.fieldLink RX1 19 "DogKings$Asks" "tracedCount" "I") (List.mem_of_getElem? (i := 1) rfl)) rfl dX1_begins_14 ?_
    refine lv_topi (fun v3 ev3 => ?_)
    have dv3 : dkN [(3, 3)] v3 := by rw [ev3]; exact np0
    have xv3 : v3 = 3 := dkN_is dv3 rfl
    subst xv3
    refine lv_iload_n hx hb dX1_begins_17 rfl (lv_at hl 1 rfl) ?_
    refine dk_ist (k := 339) hx hb hK hW (fun _ => rfl) (by decide) hS (dkN_in (n := 16) (dkN_lit (x := 3) (3) rfl) rfl) dX1_begins_18 (fun I4 H4 L4 eI4 hW hS => ?_)
    have eI4 : I4 = dkU I0 339 3 20 := eI4
    have hO := dkO_set hO eI4 (dkN_sub (dkN_lit (x := 20) (20) rfl) rfl)
    have hF := dkF_set hF eI4 rfl
    refine lv_aload_n hx hb dX1_begins_19 rfl (lv_at hl 0 rfl) ?_
    refine lv_dup hx hb dX1_begins_20 rfl ?_
    refine dk_get (k := 338) hx hb hts iX1_begins_1 hown hK (dk_at338 hW) rfl 2 (by decide) (hts (.fieldLink RX1 19 "DogKings$Asks" "tracedCount" "I") (List.mem_of_getElem? (i := 1) rfl)) rfl dX1_begins_21 ?_
    refine lv_topi (fun v5 ev5 => ?_)
    have dv5 : dkN [(3, 3)] v5 := by rw [ev5]; exact (by rw [eI4, dkU_n (by decide)]; exact np0)
    have xv5 : v5 = 3 := dkN_is dv5 rfl
    subst xv5
    refine lv_iconst (v := 1) hx hb dX1_begins_24 (by decide) ?_
    refine lv_iadd hx hb dX1_begins_25 ?_
    refine lv_topi (fun v6 ev6 => ?_)
    have dv6 : dkN [(4, 4)] v6 := by rw [ev6]; exact dkN_add (dkN_lit (x := 3) (3) rfl) (dkN_lit (x := 1) (1) rfl) rfl
    have xv6 : v6 = 4 := by rw [ev6]; rfl
    subst xv6
    refine dk_put (k := 338) hx hb hts iX1_begins_1 tyX1 tyX1_ok nmX1 hown hK hW (dk_at338 hW) hS rfl 2 (by decide) (hts (.fieldLink RX1 19 "DogKings$Asks" "tracedCount" "I") (List.mem_of_getElem? (i := 1) rfl)) rfl rfl (Nat.le_of_ble_eq_true rfl) rfl dX1_begins_26 (fun I7 H7 L7 eI7 hW hS => ?_)
    have eI7 : I7 = dkU I4 338 2 4 := eI7
    have hO := dkO_set hO eI7 (dkN_sub (dkN_lit (x := 4) (4) rfl) rfl)
    have hF := dkF_set hF eI7 rfl
    exact W.vret hx hb hr (fun t ht hW9 => ⟨⟨I7, rfl, ⟨hF, hO, ⟨(show dkN [(4, 4)] (I7 338 2) from dkN_sub (by rw [eI7, dkU_ss]; exact (dkN_lit (x := 4) (4) rfl)) rfl), (show dkN [(20, 20)] (I7 339 3) from dkN_sub (by rw [eI7, dkU_n (by decide)]; exact (by rw [eI4, dkU_ss]; exact (dkN_lit (x := 20) (20) rfl))) rfl), (by rw [eI7, dkU_ss]), ((by rw [eI7, dkU_n (by decide)] : I7 339 0 = _).trans ((by rw [eI4, dkU_sn (by decide)] : I4 339 0 = _).trans rfl)), ((by rw [eI7, dkU_n (by decide)] : I7 339 1 = _).trans ((by rw [eI4, dkU_sn (by decide)] : I4 339 1 = _).trans rfl)), ((by rw [eI7, dkU_n (by decide)] : I7 339 2 = _).trans ((by rw [eI4, dkU_sn (by decide)] : I4 339 2 = _).trans rfl)), ((by rw [eI7, dkU_n (by decide)] : I7 339 3 = _).trans (by rw [eI4, dkU_ss])), ((by rw [eI7, dkU_n (by decide)] : I7 339 4 = _).trans ((by rw [eI4, dkU_sn (by decide)] : I4 339 4 = _).trans rfl)), ((by rw [eI7, dkU_n (by decide)] : I7 339 5 = _).trans ((by rw [eI4, dkU_sn (by decide)] : I4 339 5 = _).trans rfl)), ((by rw [eI7, dkU_n (by decide)] : I7 339 6 = _).trans ((by rw [eI4, dkU_sn (by decide)] : I4 339 6 = _).trans rfl)), ((by rw [eI7, dkU_n (by decide)] : I7 339 7 = _).trans ((by rw [eI4, dkU_sn (by decide)] : I4 339 7 = _).trans rfl)), ((by rw [eI7, dkU_n (by decide)] : I7 339 = _).trans (by rw [eI4, dkU_s, show (I0 339) = I0 339 from rfl])), trivial⟩⟩, dkW_eq ht hW⟩, hS.F ht⟩) hS.2.2 dX1_begins_29
set_option maxHeartbeats 4000000 in
set_option maxRecDepth 100000 in
theorem fx_X1_gives_41 (l : Launch) (g : dkG) (z : Nat) (I0 : dkI) (p0 : Int32) (p1 : Int32) (p2 : Int32) (dp0 : dkN [(20, 20)] p0) (dp1 : dkN [(0, 5)] p1) (dp2 : dkN [(3, 3)] p2) (np0 : dkN [(3, 3)] (I0 338 2))  (tp0 : (I0 32 (Int32.toNatClampNeg p1)).toInt = (1 : Int)) (hO : dkOk I0) : Met l yX1_gives wsX1_gives (dkR 1) (dkPc g z [.ref (z + 338), .int p0, .int p1, .int p2] I0) (dkQi g z (fun r I1 => dkF [(338, 338, 2, 2), (339, 339, 3, 3)] I0 I1 ∧ dkOk I1 ∧ ((dkN [(0, 5)] r ∧ dkN [(4, 4)] (I1 338 2) ∧ dkN [(20, 20)] (I1 339 3) ∧ (I0 32 (Int32.toNatClampNeg p1)).toInt = (1 : Int) ∧ r = p1 ∧ I1 338 2 = 4 ∧ I1 339 0 = I0 339 0 ∧ I1 339 1 = I0 339 1 ∧ I1 339 2 = I0 339 2 ∧ I1 339 3 = 20 ∧ I1 339 4 = I0 339 4 ∧ I1 339 5 = I0 339 5 ∧ I1 339 6 = I0 339 6 ∧ I1 339 7 = I0 339 7 ∧ I1 339  = dkV (I0 339) 3 20 ∧ True)))) 0 0 (dkA z) := by
  obtain rfl : p0 = 20 := dkN_is dp0 rfl
  obtain rfl : p2 = 3 := dkN_is dp2 rfl
  refine Met.ofW (cc := cX1_gives) (maxL := 5) (ret := (some .int)) (by decide) rfl ?_
  intro p e s m args below meth c s₁ B hml hv
  obtain ⟨ha, hW, hK, hT⟩ := hv
  have hx := B.exec
  have hb := B.bytes
  have hr := B.returns
  have hts := atoms_spec (ws := wsX1_gives) B.pre
  have hown : s.vm.findClass RX1 = some m.cls := findClass_of_methodNamed B.named
  have hlocks := B.notSynchronized
  have hS : va_S (dkA z) s.heap s.heap [] := va_S.rf
  have hF : dkF [(338, 338, 2, 2), (339, 339, 3, 3)] I0 I0 := dkF_rf _ _
  have hl := lv_entry ([.ref (z + 338), .int 20, .int p1, .int 3]) (n := 5) (Nat.le_of_ble_eq_true rfl)
  have hgo : entryFrame m args 5 = entryFrame m ([.ref (z + 338), .int 20, .int p1, .int 3] : List Value).toArray 5 := by rw [ha]
  rw [hgo, lg_entry_eq]
  generalize (lg_sl ([.ref (z + 338), .int 20, .int p1, .int 3]) ++ List.replicate (5 - (lg_sl ([.ref (z + 338), .int 20, .int p1, .int 3])).length) Slot.unset).toArray = ls at hl ⊢
  have hl : lv_has ls 5 [(0, .ref (z + 338)), (1, .int 20), (2, .int p1), (3, .int 3)] := hl
  refine lv_iload_n hx hb dX1_gives_0 rfl (lv_at hl 3 rfl) ?_
  refine lv_iconst (v := 5) hx hb dX1_gives_1 (by decide) ?_
  refine lv_icmp_le (tgt := 8) hx hb dX1_gives_2 (by decide) (fun c1 => ?_) (fun c1 => ?_)
  ·
    refine lv_aload_n hx hb dX1_gives_8 rfl (lv_at hl 0 rfl) ?_
    refine lv_iload_n hx hb dX1_gives_9 rfl (lv_at hl 1 rfl) ?_
    refine dk_Vv (As := [.int 20]) (rest := []) ⟨hx, hb, hml, hown, hts⟩ (fx_X1_begins_13 l g z I0 20 (dkN_lit (x := 20) (20) rfl) (show dkN [(3, 3)] (I0 338 2) from dkN_sub np0 rfl) hO) (cwV 1 hts gX1_gives_X1_begins rfl rfl rfl (by decide +kernel) ⟨Nat.le_of_ble_eq_true rfl, Nat.le_of_ble_eq_true rfl⟩) (dk_at338 hW) rfl hK hT hW hS rfl hl.1 rfl (Nat.le_of_ble_eq_true rfl) dX1_gives_10 ⟨Nat.zero_le _, Nat.zero_le _⟩ (fun I2 H2 L2 hp2 hW hS => ?_)
    obtain ⟨hF2, hO, hc2⟩ := hp2
    have hF := dkF_call hF hF2 rfl
    obtain ⟨f2_338_2, f2_339_3, xh2_0, xh2_1, xh2_2, xh2_3, xh2_4, xh2_5, xh2_6, xh2_7, xh2_8, xh2_9, -⟩ := hc2
    have y3 : I2 338 2 = 4 := by have h := xh2_0; exact h
    have y4 : I2 339 0 = I0 339 0 := by have h := xh2_1; exact h
    have y5 : I2 339 1 = I0 339 1 := by have h := xh2_2; exact h
    have y6 : I2 339 2 = I0 339 2 := by have h := xh2_3; exact h
    have y7 : I2 339 3 = 20 := by have h := xh2_4; exact h
    have y8 : I2 339 4 = I0 339 4 := by have h := xh2_5; exact h
    have y9 : I2 339 5 = I0 339 5 := by have h := xh2_6; exact h
    have y10 : I2 339 6 = I0 339 6 := by have h := xh2_7; exact h
    have y11 : I2 339 7 = I0 339 7 := by have h := xh2_8; exact h
    have y12 : I2 339 = dkV (I0 339) 3 20 := by have h := xh2_9; exact h
    refine lv_iload_n hx hb dX1_gives_13 rfl (lv_at hl 3 rfl) ?_
    refine lv_iconst (v := 1) hx hb dX1_gives_14 (by decide) ?_
    refine lv_iadd hx hb dX1_gives_15 ?_
    refine lv_topi (fun v13 ev13 => ?_)
    have dv13 : dkN [(4, 4)] v13 := by rw [ev13]; exact dkN_add (dkN_lit (x := 3) (3) rfl) (dkN_lit (x := 1) (1) rfl) rfl
    have xv13 : v13 = 4 := by rw [ev13]; rfl
    subst xv13
    refine lv_istore (lv' := [(4, .int 4), (0, .ref (z + 338)), (1, .int 20), (2, .int p1), (3, .int 3)]) hx hb dX1_gives_16 hl (by decide) rfl (fun ls hl => ?_)
    refine lv_iload_n hx hb dX1_gives_18 rfl (lv_at hl 2 rfl) ?_
    have qc14 : (20 : Int32).toInt = 20 := rfl
    refine lv_tableIn (tgt := 161) hx hb dX1_gives_19 (by rw [qc14]; decide) (by rw [qc14]; decide) (by rw [qc14]; rfl) (by decide) ?_
    refine lv_iload_n hx hb dX1_gives_161 rfl (lv_at hl 3 rfl) ?_
    exact W.iret (v := p1) hx hb hr (fun t ht hW9 => ⟨⟨p1, I2, rfl, ⟨hF, hO, ⟨dkN_sub dp1 rfl, (show dkN [(4, 4)] (I2 338 2) from dkN_sub f2_338_2 rfl), (show dkN [(20, 20)] (I2 339 3) from dkN_sub f2_339_3 rfl), tp0, rfl, y3, y4, y5, y6, y7, y8, y9, y10, y11, y12, trivial⟩⟩, dkW_eq ht hW⟩, hS.F ht⟩) hS.2.2 dX1_gives_162
  ·
    exact (dkN_nil (show dkN [] 3 from dkN_le2 1 (dkN_lit (x := 5) (5) rfl) (dkN_lit (x := 3) (3) rfl) (dkc_nle c1) rfl)).elim
set_option maxHeartbeats 4000000 in
set_option maxRecDepth 100000 in
theorem fx_X1_gives_40 (l : Launch) (g : dkG) (z : Nat) (I0 : dkI) (p0 : Int32) (p1 : Int32) (p2 : Int32) (dp0 : dkN [(21, 21)] p0) (dp1 : dkN [(0, 5)] p1) (dp2 : dkN [(2, 2)] p2) (np0 : dkN [(2, 2)] (I0 338 2))  (tp0 : (I0 32 (Int32.toNatClampNeg p1)).toInt = (1 : Int)) (hO : dkOk I0) : Met l yX1_gives wsX1_gives (dkR 2) (dkPc g z [.ref (z + 338), .int p0, .int p1, .int p2] I0) (dkQi g z (fun r I1 => dkF [(338, 338, 2, 2), (339, 339, 2, 3)] I0 I1 ∧ dkOk I1 ∧ ((True ∧ dkN [(4, 4)] (I1 338 2) ∧ dkN [(21, 21)] (I1 339 2) ∧ dkN [(20, 20)] (I1 339 3) ∧ (I0 32 (Int32.toNatClampNeg p1)).toInt = (1 : Int) ∧ ((I0 32) (Int32.toNatClampNeg p1)).toInt = (1 : Int) ∧ r = p1 + (I0 34 (Int32.toNatClampNeg p1)) ∧ I1 338 2 = 4 ∧ I1 339 0 = I0 339 0 ∧ I1 339 1 = I0 339 1 ∧ I1 339 2 = 21 ∧ I1 339 3 = 20 ∧ I1 339 4 = I0 339 4 ∧ I1 339 5 = I0 339 5 ∧ I1 339 6 = I0 339 6 ∧ I1 339 7 = I0 339 7 ∧ I1 339  = dkV (dkV (I0 339) 2 21) 3 20 ∧ True)))) 0 0 (dkA z) := by
  obtain rfl : p0 = 21 := dkN_is dp0 rfl
  obtain rfl : p2 = 2 := dkN_is dp2 rfl
  refine Met.ofW (cc := cX1_gives) (maxL := 5) (ret := (some .int)) (by decide) rfl ?_
  intro p e s m args below meth c s₁ B hml hv
  obtain ⟨ha, hW, hK, hT⟩ := hv
  have hx := B.exec
  have hb := B.bytes
  have hr := B.returns
  have hts := atoms_spec (ws := wsX1_gives) B.pre
  have hown : s.vm.findClass RX1 = some m.cls := findClass_of_methodNamed B.named
  have hlocks := B.notSynchronized
  have hS : va_S (dkA z) s.heap s.heap [] := va_S.rf
  have hF : dkF [(338, 338, 2, 2), (339, 339, 2, 3)] I0 I0 := dkF_rf _ _
  have hl := lv_entry ([.ref (z + 338), .int 21, .int p1, .int 2]) (n := 5) (Nat.le_of_ble_eq_true rfl)
  have hgo : entryFrame m args 5 = entryFrame m ([.ref (z + 338), .int 21, .int p1, .int 2] : List Value).toArray 5 := by rw [ha]
  rw [hgo, lg_entry_eq]
  generalize (lg_sl ([.ref (z + 338), .int 21, .int p1, .int 2]) ++ List.replicate (5 - (lg_sl ([.ref (z + 338), .int 21, .int p1, .int 2])).length) Slot.unset).toArray = ls at hl ⊢
  have hl : lv_has ls 5 [(0, .ref (z + 338)), (1, .int 21), (2, .int p1), (3, .int 2)] := hl
  refine lv_iload_n hx hb dX1_gives_0 rfl (lv_at hl 3 rfl) ?_
  refine lv_iconst (v := 5) hx hb dX1_gives_1 (by decide) ?_
  refine lv_icmp_le (tgt := 8) hx hb dX1_gives_2 (by decide) (fun c1 => ?_) (fun c1 => ?_)
  ·
    refine lv_aload_n hx hb dX1_gives_8 rfl (lv_at hl 0 rfl) ?_
    refine lv_iload_n hx hb dX1_gives_9 rfl (lv_at hl 1 rfl) ?_
    refine dk_Vv (As := [.int 21]) (rest := []) ⟨hx, hb, hml, hown, hts⟩ (fx_X1_begins_12 l g z I0 21 (dkN_lit (x := 21) (21) rfl) (show dkN [(2, 2)] (I0 338 2) from dkN_sub np0 rfl) hO) (cwV 1 hts gX1_gives_X1_begins rfl rfl rfl (by decide +kernel) ⟨Nat.le_of_ble_eq_true rfl, Nat.le_of_ble_eq_true rfl⟩) (dk_at338 hW) rfl hK hT hW hS rfl hl.1 rfl (Nat.le_of_ble_eq_true rfl) dX1_gives_10 ⟨Nat.zero_le _, Nat.zero_le _⟩ (fun I2 H2 L2 hp2 hW hS => ?_)
    obtain ⟨hF2, hO, hc2⟩ := hp2
    have hF := dkF_call hF hF2 rfl
    obtain ⟨f2_338_2, f2_339_2, xh2_0, xh2_1, xh2_2, xh2_3, xh2_4, xh2_5, xh2_6, xh2_7, xh2_8, xh2_9, -⟩ := hc2
    have y3 : I2 338 2 = 3 := by have h := xh2_0; exact h
    have y4 : I2 339 0 = I0 339 0 := by have h := xh2_1; exact h
    have y5 : I2 339 1 = I0 339 1 := by have h := xh2_2; exact h
    have y6 : I2 339 2 = 21 := by have h := xh2_3; exact h
    have y7 : I2 339 3 = I0 339 3 := by have h := xh2_4; exact h
    have y8 : I2 339 4 = I0 339 4 := by have h := xh2_5; exact h
    have y9 : I2 339 5 = I0 339 5 := by have h := xh2_6; exact h
    have y10 : I2 339 6 = I0 339 6 := by have h := xh2_7; exact h
    have y11 : I2 339 7 = I0 339 7 := by have h := xh2_8; exact h
    have y12 : I2 339 = dkV (I0 339) 2 21 := by have h := xh2_9; exact h
    refine lv_iload_n hx hb dX1_gives_13 rfl (lv_at hl 3 rfl) ?_
    refine lv_iconst (v := 1) hx hb dX1_gives_14 (by decide) ?_
    refine lv_iadd hx hb dX1_gives_15 ?_
    refine lv_topi (fun v13 ev13 => ?_)
    have dv13 : dkN [(3, 3)] v13 := by rw [ev13]; exact dkN_add (dkN_lit (x := 2) (2) rfl) (dkN_lit (x := 1) (1) rfl) rfl
    have xv13 : v13 = 3 := by rw [ev13]; rfl
    subst xv13
    refine lv_istore (lv' := [(4, .int 3), (0, .ref (z + 338)), (1, .int 21), (2, .int p1), (3, .int 2)]) hx hb dX1_gives_16 hl (by decide) rfl (fun ls hl => ?_)
    refine lv_iload_n hx hb dX1_gives_18 rfl (lv_at hl 2 rfl) ?_
    have qc14 : (21 : Int32).toInt = 21 := rfl
    refine lv_tableIn (tgt := 163) hx hb dX1_gives_19 (by rw [qc14]; decide) (by rw [qc14]; decide) (by rw [qc14]; rfl) (by decide) ?_
    refine lv_aload_n hx hb dX1_gives_163 rfl (lv_at hl 1 rfl) ?_
    refine lv_bipush (v := 20) hx hb dX1_gives_164 (by decide) ?_
    refine lv_iload_n hx hb dX1_gives_166 rfl (lv_at hl 3 rfl) ?_
    refine lv_iload hx hb dX1_gives_167 (lv_at hl 0 rfl) ?_
    refine dk_Vi (As := [.int 20, .int p1, .int 3]) (rest := []) ⟨hx, hb, hml, hown, hts⟩ (fx_X1_gives_41 l g z I2 20 p1 3 (dkN_lit (x := 20) (20) rfl) dp1 (dkN_lit (x := 3) (3) rfl) (show dkN [(3, 3)] (I2 338 2) from dkN_sub f2_338_2 rfl) (by rw [(show I2 32 = I0 32 from ((funext fun j => hF2 32 j (dkNin_k rfl (dkNin_k rfl dkNin_nil))).trans rfl))]; exact tp0) hO) (cwV 3 hts gX1_gives_X1_gives rfl rfl rfl (by decide +kernel) ⟨Nat.le_of_ble_eq_true rfl, Nat.le_of_ble_eq_true rfl⟩) (dk_at338 hW) rfl hK hT hW hS rfl hl.1 rfl (Nat.le_of_ble_eq_true rfl) dX1_gives_169 ⟨Nat.zero_le _, Nat.zero_le _⟩ (fun v15 I15 H15 L15 hp15 hW hS => ?_)
    obtain ⟨hF15, hO, hc15⟩ := hp15
    have hF := dkF_call hF hF15 rfl
    obtain ⟨dv15, f15_338_2, f15_339_3, x15_0, xr15, xh15_0, xh15_1, xh15_2, xh15_3, xh15_4, xh15_5, xh15_6, xh15_7, xh15_8, xh15_9, -⟩ := hc15
    have w16 : I2 32 = I0 32 := ((funext fun j => hF2 32 j (dkNin_k rfl (dkNin_k rfl dkNin_nil))).trans rfl)
    have q17 : ((I0 32) (Int32.toNatClampNeg p1)).toInt = (1 : Int) := by have h := x15_0; rw [w16] at h; exact h
    have y18 : I15 338 2 = 4 := by have h := xh15_0; exact h
    have w19 : I2 339 0 = I0 339 0 := y4
    have y20 : I15 339 0 = I0 339 0 := by have h := xh15_1; rw [w19] at h; exact h
    have w21 : I2 339 1 = I0 339 1 := y5
    have y22 : I15 339 1 = I0 339 1 := by have h := xh15_2; rw [w21] at h; exact h
    have w23 : I2 339 2 = 21 := y6
    have y24 : I15 339 2 = 21 := by have h := xh15_3; rw [w23] at h; exact h
    have y25 : I15 339 3 = 20 := by have h := xh15_4; exact h
    have w26 : I2 339 4 = I0 339 4 := y8
    have y27 : I15 339 4 = I0 339 4 := by have h := xh15_5; rw [w26] at h; exact h
    have w28 : I2 339 5 = I0 339 5 := y9
    have y29 : I15 339 5 = I0 339 5 := by have h := xh15_6; rw [w28] at h; exact h
    have w30 : I2 339 6 = I0 339 6 := y10
    have y31 : I15 339 6 = I0 339 6 := by have h := xh15_7; rw [w30] at h; exact h
    have w32 : I2 339 7 = I0 339 7 := y11
    have y33 : I15 339 7 = I0 339 7 := by have h := xh15_8; rw [w32] at h; exact h
    have w34 : I2 339 = dkV (I0 339) 2 21 := y12
    have y35 : I15 339 = dkV (dkV (I0 339) 2 21) 3 20 := by have h := xh15_9; rw [w34] at h; exact h
    have xv15 : v15 = p1 := by have h := xr15; exact h
    refine lv_aload_n hx hb dX1_gives_172 rfl (lv_at hl 1 rfl) ?_
    refine dk_get (k := 338) hx hb hts iX1_gives_1 hown hK (dk_at338 hW) rfl 0 (by decide) (hts (.fieldLink RX1 15 "DogKings$Asks" "now" "LDogKings$Town;") (List.mem_of_getElem? (i := 2) rfl)) rfl dX1_gives_173 ?_
    refine dk_get (k := 25) hx hb hts iX1_gives_4 hown hK (dk_at25 hW) rfl 14 (by decide) (hts (.fieldLink RX1 54 "DogKings$Town" "dogAt" "[I") (List.mem_of_getElem? (i := 4) rfl)) rfl dX1_gives_176 ?_
    refine lv_iload_n hx hb dX1_gives_179 rfl (lv_at hl 3 rfl) ?_
    refine dk_ild (k := 34) hx hb hK (dk_at34 hW) (dkN_in (n := 6) dp1 rfl) dX1_gives_180 ?_
    refine lv_topi (fun v36 ev36 => ?_)
    have xv36 : v36 = I0 34 (Int32.toNatClampNeg p1) := ev36.trans ((hF15 34 (Int32.toNatClampNeg p1) (dkNin_k rfl (dkNin_k rfl dkNin_nil))).trans ((hF2 34 (Int32.toNatClampNeg p1) (dkNin_k rfl (dkNin_k rfl dkNin_nil))).trans rfl))
    refine lv_iadd hx hb dX1_gives_181 ?_
    refine lv_topi (fun v37 ev37 => ?_)
    have xv37 : v37 = p1 + (I0 34 (Int32.toNatClampNeg p1)) := by rw [ev37, xv15, xv36]
    exact W.iret (v := v37) hx hb hr (fun t ht hW9 => ⟨⟨v37, I15, rfl, ⟨hF, hO, ⟨trivial, (show dkN [(4, 4)] (I15 338 2) from dkN_sub f15_338_2 rfl), (show dkN [(21, 21)] (I15 339 2) from dkN_sub (by rw [hF15 339 2 rfl]; exact f2_339_2) rfl), (show dkN [(20, 20)] (I15 339 3) from dkN_sub f15_339_3 rfl), tp0, q17, xv37, y18, y20, y22, y24, y25, y27, y29, y31, y33, y35, trivial⟩⟩, dkW_eq ht hW⟩, hS.F ht⟩) hS.2.2 dX1_gives_182
  ·
    exact (dkN_nil (show dkN [] 2 from dkN_le2 1 (dkN_lit (x := 5) (5) rfl) (dkN_lit (x := 2) (2) rfl) (dkc_nle c1) rfl)).elim
set_option maxHeartbeats 4000000 in
set_option maxRecDepth 100000 in
theorem fx_X1_gives_38 (l : Launch) (g : dkG) (z : Nat) (I0 : dkI) (p0 : Int32) (p1 : Int32) (p2 : Int32) (dp0 : dkN [(11, 11)] p0) (dp1 : dkN [(0, 5)] p1) (dp2 : dkN [(1, 1)] p2) (np0 : dkN [(0, 0)] (I0 338 2))  (tp0 : (I0 32 (Int32.toNatClampNeg p1)).toInt = (1 : Int)) (hO : dkOk I0) : Met l yX1_gives wsX1_gives (dkR 3) (dkPc g z [.ref (z + 338), .int p0, .int p1, .int p2] I0) (dkQi g z (fun r I1 => dkF [(338, 338, 2, 2), (339, 339, 0, 3)] I0 I1 ∧ dkOk I1 ∧ ((True ∧ dkN [(4, 4)] (I1 338 2) ∧ dkN [(11, 11)] (I1 339 0) ∧ dkN [(10, 10)] (I1 339 1) ∧ dkN [(21, 21)] (I1 339 2) ∧ dkN [(20, 20)] (I1 339 3) ∧ (I0 32 (Int32.toNatClampNeg p1)).toInt = (1 : Int) ∧ ((I0 32) (Int32.toNatClampNeg p1)).toInt = (1 : Int) ∧ r = ((I0 33) (Int32.toNatClampNeg p1)) + (p1 + ((I0 34) (Int32.toNatClampNeg p1))) ∧ I1 338 2 = 4 ∧ I1 339 0 = 11 ∧ I1 339 1 = 10 ∧ I1 339 2 = 21 ∧ I1 339 3 = 20 ∧ I1 339 4 = I0 339 4 ∧ I1 339 5 = I0 339 5 ∧ I1 339 6 = I0 339 6 ∧ I1 339 7 = I0 339 7 ∧ I1 339  = dkV (dkV (dkV (dkV (I0 339) 0 11) 1 10) 2 21) 3 20 ∧ True)))) 0 0 (dkA z) := by
  obtain rfl : p0 = 11 := dkN_is dp0 rfl
  obtain rfl : p2 = 1 := dkN_is dp2 rfl
  refine Met.ofW (cc := cX1_gives) (maxL := 5) (ret := (some .int)) (by decide) rfl ?_
  intro p e s m args below meth c s₁ B hml hv
  obtain ⟨ha, hW, hK, hT⟩ := hv
  have hx := B.exec
  have hb := B.bytes
  have hr := B.returns
  have hts := atoms_spec (ws := wsX1_gives) B.pre
  have hown : s.vm.findClass RX1 = some m.cls := findClass_of_methodNamed B.named
  have hlocks := B.notSynchronized
  have hS : va_S (dkA z) s.heap s.heap [] := va_S.rf
  have hF : dkF [(338, 338, 2, 2), (339, 339, 0, 3)] I0 I0 := dkF_rf _ _
  have hl := lv_entry ([.ref (z + 338), .int 11, .int p1, .int 1]) (n := 5) (Nat.le_of_ble_eq_true rfl)
  have hgo : entryFrame m args 5 = entryFrame m ([.ref (z + 338), .int 11, .int p1, .int 1] : List Value).toArray 5 := by rw [ha]
  rw [hgo, lg_entry_eq]
  generalize (lg_sl ([.ref (z + 338), .int 11, .int p1, .int 1]) ++ List.replicate (5 - (lg_sl ([.ref (z + 338), .int 11, .int p1, .int 1])).length) Slot.unset).toArray = ls at hl ⊢
  have hl : lv_has ls 5 [(0, .ref (z + 338)), (1, .int 11), (2, .int p1), (3, .int 1)] := hl
  refine lv_iload_n hx hb dX1_gives_0 rfl (lv_at hl 3 rfl) ?_
  refine lv_iconst (v := 5) hx hb dX1_gives_1 (by decide) ?_
  refine lv_icmp_le (tgt := 8) hx hb dX1_gives_2 (by decide) (fun c1 => ?_) (fun c1 => ?_)
  ·
    refine lv_aload_n hx hb dX1_gives_8 rfl (lv_at hl 0 rfl) ?_
    refine lv_iload_n hx hb dX1_gives_9 rfl (lv_at hl 1 rfl) ?_
    refine dk_Vv (As := [.int 11]) (rest := []) ⟨hx, hb, hml, hown, hts⟩ (fx_X1_begins_10 l g z I0 11 (dkN_lit (x := 11) (11) rfl) (show dkN [(0, 0)] (I0 338 2) from dkN_sub np0 rfl) hO) (cwV 1 hts gX1_gives_X1_begins rfl rfl rfl (by decide +kernel) ⟨Nat.le_of_ble_eq_true rfl, Nat.le_of_ble_eq_true rfl⟩) (dk_at338 hW) rfl hK hT hW hS rfl hl.1 rfl (Nat.le_of_ble_eq_true rfl) dX1_gives_10 ⟨Nat.zero_le _, Nat.zero_le _⟩ (fun I2 H2 L2 hp2 hW hS => ?_)
    obtain ⟨hF2, hO, hc2⟩ := hp2
    have hF := dkF_call hF hF2 rfl
    obtain ⟨f2_338_2, f2_339_0, xh2_0, xh2_1, xh2_2, xh2_3, xh2_4, xh2_5, xh2_6, xh2_7, xh2_8, xh2_9, -⟩ := hc2
    have y3 : I2 338 2 = 1 := by have h := xh2_0; exact h
    have y4 : I2 339 0 = 11 := by have h := xh2_1; exact h
    have y5 : I2 339 1 = I0 339 1 := by have h := xh2_2; exact h
    have y6 : I2 339 2 = I0 339 2 := by have h := xh2_3; exact h
    have y7 : I2 339 3 = I0 339 3 := by have h := xh2_4; exact h
    have y8 : I2 339 4 = I0 339 4 := by have h := xh2_5; exact h
    have y9 : I2 339 5 = I0 339 5 := by have h := xh2_6; exact h
    have y10 : I2 339 6 = I0 339 6 := by have h := xh2_7; exact h
    have y11 : I2 339 7 = I0 339 7 := by have h := xh2_8; exact h
    have y12 : I2 339 = dkV (I0 339) 0 11 := by have h := xh2_9; exact h
    refine lv_iload_n hx hb dX1_gives_13 rfl (lv_at hl 3 rfl) ?_
    refine lv_iconst (v := 1) hx hb dX1_gives_14 (by decide) ?_
    refine lv_iadd hx hb dX1_gives_15 ?_
    refine lv_topi (fun v13 ev13 => ?_)
    have dv13 : dkN [(2, 2)] v13 := by rw [ev13]; exact dkN_add (dkN_lit (x := 1) (1) rfl) (dkN_lit (x := 1) (1) rfl) rfl
    have xv13 : v13 = 2 := by rw [ev13]; rfl
    subst xv13
    refine lv_istore (lv' := [(4, .int 2), (0, .ref (z + 338)), (1, .int 11), (2, .int p1), (3, .int 1)]) hx hb dX1_gives_16 hl (by decide) rfl (fun ls hl => ?_)
    refine lv_iload_n hx hb dX1_gives_18 rfl (lv_at hl 2 rfl) ?_
    have qc14 : (11 : Int32).toInt = 11 := rfl
    refine lv_tableIn (tgt := 102) hx hb dX1_gives_19 (by rw [qc14]; decide) (by rw [qc14]; decide) (by rw [qc14]; rfl) (by decide) ?_
    refine lv_aload_n hx hb dX1_gives_102 rfl (lv_at hl 1 rfl) ?_
    refine lv_bipush (v := 10) hx hb dX1_gives_103 (by decide) ?_
    refine lv_iload_n hx hb dX1_gives_105 rfl (lv_at hl 3 rfl) ?_
    refine lv_iload hx hb dX1_gives_106 (lv_at hl 0 rfl) ?_
    refine dk_Vi (As := [.int 10, .int p1, .int 2]) (rest := []) ⟨hx, hb, hml, hown, hts⟩ (fx_X1_gives_39 l g z I2 10 p1 2 (dkN_lit (x := 10) (10) rfl) dp1 (dkN_lit (x := 2) (2) rfl) (show dkN [(1, 1)] (I2 338 2) from dkN_sub f2_338_2 rfl) (by rw [(show I2 32 = I0 32 from ((funext fun j => hF2 32 j (dkNin_k rfl (dkNin_k rfl dkNin_nil))).trans rfl))]; exact tp0) hO) (cwV 3 hts gX1_gives_X1_gives rfl rfl rfl (by decide +kernel) ⟨Nat.le_of_ble_eq_true rfl, Nat.le_of_ble_eq_true rfl⟩) (dk_at338 hW) rfl hK hT hW hS rfl hl.1 rfl (Nat.le_of_ble_eq_true rfl) dX1_gives_108 ⟨Nat.zero_le _, Nat.zero_le _⟩ (fun v15 I15 H15 L15 hp15 hW hS => ?_)
    obtain ⟨hF15, hO, hc15⟩ := hp15
    have hF := dkF_call hF hF15 rfl
    obtain ⟨_, f15_338_2, f15_339_1, x15_0, xr15, xh15_0, xh15_1, xh15_2, xh15_3, xh15_4, xh15_5, xh15_6, xh15_7, xh15_8, xh15_9, -⟩ := hc15
    have w16 : I2 32 = I0 32 := ((funext fun j => hF2 32 j (dkNin_k rfl (dkNin_k rfl dkNin_nil))).trans rfl)
    have q17 : ((I0 32) (Int32.toNatClampNeg p1)).toInt = (1 : Int) := by have h := x15_0; rw [w16] at h; exact h
    have y18 : I15 338 2 = 2 := by have h := xh15_0; exact h
    have w19 : I2 339 0 = 11 := y4
    have y20 : I15 339 0 = 11 := by have h := xh15_1; rw [w19] at h; exact h
    have y21 : I15 339 1 = 10 := by have h := xh15_2; exact h
    have w22 : I2 339 2 = I0 339 2 := y6
    have y23 : I15 339 2 = I0 339 2 := by have h := xh15_3; rw [w22] at h; exact h
    have w24 : I2 339 3 = I0 339 3 := y7
    have y25 : I15 339 3 = I0 339 3 := by have h := xh15_4; rw [w24] at h; exact h
    have w26 : I2 339 4 = I0 339 4 := y8
    have y27 : I15 339 4 = I0 339 4 := by have h := xh15_5; rw [w26] at h; exact h
    have w28 : I2 339 5 = I0 339 5 := y9
    have y29 : I15 339 5 = I0 339 5 := by have h := xh15_6; rw [w28] at h; exact h
    have w30 : I2 339 6 = I0 339 6 := y10
    have y31 : I15 339 6 = I0 339 6 := by have h := xh15_7; rw [w30] at h; exact h
    have w32 : I2 339 7 = I0 339 7 := y11
    have y33 : I15 339 7 = I0 339 7 := by have h := xh15_8; rw [w32] at h; exact h
    have w34 : I2 339 = dkV (I0 339) 0 11 := y12
    have y35 : I15 339 = dkV (dkV (I0 339) 0 11) 1 10 := by have h := xh15_9; rw [w34] at h; exact h
    have w36 : I2 33 = I0 33 := ((funext fun j => hF2 33 j (dkNin_k rfl (dkNin_k rfl dkNin_nil))).trans rfl)
    have xv15 : v15 = (I0 33) (Int32.toNatClampNeg p1) := by have h := xr15; rw [w36] at h; exact h
    refine lv_aload_n hx hb dX1_gives_111 rfl (lv_at hl 1 rfl) ?_
    refine lv_aload_n hx hb dX1_gives_112 rfl (lv_at hl 1 rfl) ?_
    refine lv_iload_n hx hb dX1_gives_113 rfl (lv_at hl 3 rfl) ?_
    refine dk_Vi (As := [.int p1]) (rest := [.ref (z + 338), .int v15]) ⟨hx, hb, hml, hown, hts⟩ (fx_X1_markBody_1 l g z I15 p1 dp1 (by rw [(show I15 32 = I0 32 from ((funext fun j => hF15 32 j (dkNin_k rfl (dkNin_k rfl dkNin_nil))).trans ((funext fun j => hF2 32 j (dkNin_k rfl (dkNin_k rfl dkNin_nil))).trans rfl)))]; exact tp0) hO) (cwV 1 hts gX1_gives_X1_markBody rfl rfl rfl (by decide +kernel) ⟨Nat.le_of_ble_eq_true rfl, Nat.le_of_ble_eq_true rfl⟩) (dk_at338 hW) rfl hK hT hW hS rfl hl.1 rfl (Nat.le_of_ble_eq_true rfl) dX1_gives_114 ⟨Nat.zero_le _, Nat.zero_le _⟩ (fun v37 I37 H37 L37 hp37 hW hS => ?_)
    obtain ⟨hF37, hO, hc37⟩ := hp37
    have hF := dkF_call hF hF37 rfl
    have eI37 : I15 = I37 := (dkF_nil hF37).symm
    subst eI37
    obtain ⟨dv37, x37_0, xr37, -⟩ := hc37
    have w38 : I15 32 = I0 32 := ((funext fun j => hF15 32 j (dkNin_k rfl (dkNin_k rfl dkNin_nil))).trans ((funext fun j => hF2 32 j (dkNin_k rfl (dkNin_k rfl dkNin_nil))).trans rfl))
    have xv37 : v37 = 21 := by have h := xr37; exact h
    have z39 : v37 = 21 := xv37
    subst z39
    refine lv_iload_n hx hb dX1_gives_117 rfl (lv_at hl 3 rfl) ?_
    refine lv_iload hx hb dX1_gives_118 (lv_at hl 0 rfl) ?_
    refine dk_Vi (As := [.int 21, .int p1, .int 2]) (rest := [.int v15]) ⟨hx, hb, hml, hown, hts⟩ (fx_X1_gives_40 l g z I15 21 p1 2 (dkN_lit (x := 21) (21) rfl) dp1 (dkN_lit (x := 2) (2) rfl) (show dkN [(2, 2)] (I15 338 2) from dkN_sub (by rw [hF37 338 2 rfl]; exact f15_338_2) rfl) (by rw [(show I15 32 = I0 32 from ((funext fun j => hF37 32 j dkNin_nil).trans ((funext fun j => hF15 32 j (dkNin_k rfl (dkNin_k rfl dkNin_nil))).trans ((funext fun j => hF2 32 j (dkNin_k rfl (dkNin_k rfl dkNin_nil))).trans rfl))))]; exact tp0) hO) (cwV 3 hts gX1_gives_X1_gives rfl rfl rfl (by decide +kernel) ⟨Nat.le_of_ble_eq_true rfl, Nat.le_of_ble_eq_true rfl⟩) (dk_at338 hW) rfl hK hT hW hS rfl hl.1 rfl (Nat.le_of_ble_eq_true rfl) dX1_gives_120 ⟨Nat.zero_le _, Nat.zero_le _⟩ (fun v40 I40 H40 L40 hp40 hW hS => ?_)
    obtain ⟨hF40, hO, hc40⟩ := hp40
    have hF := dkF_call hF hF40 rfl
    obtain ⟨_, f40_338_2, f40_339_2, f40_339_3, x40_0, x40_1, xr40, xh40_0, xh40_1, xh40_2, xh40_3, xh40_4, xh40_5, xh40_6, xh40_7, xh40_8, xh40_9, -⟩ := hc40
    have w41 : I15 32 = I0 32 := ((funext fun j => hF37 32 j dkNin_nil).trans ((funext fun j => hF15 32 j (dkNin_k rfl (dkNin_k rfl dkNin_nil))).trans ((funext fun j => hF2 32 j (dkNin_k rfl (dkNin_k rfl dkNin_nil))).trans rfl)))
    have y42 : I40 338 2 = 4 := by have h := xh40_0; exact h
    have w43 : I15 339 0 = 11 := ((hF37 339 0 rfl).trans y20)
    have y44 : I40 339 0 = 11 := by have h := xh40_1; rw [w43] at h; exact h
    have w45 : I15 339 1 = 10 := ((hF37 339 1 rfl).trans y21)
    have y46 : I40 339 1 = 10 := by have h := xh40_2; rw [w45] at h; exact h
    have y47 : I40 339 2 = 21 := by have h := xh40_3; exact h
    have y48 : I40 339 3 = 20 := by have h := xh40_4; exact h
    have w49 : I15 339 4 = I0 339 4 := ((hF37 339 4 rfl).trans y27)
    have y50 : I40 339 4 = I0 339 4 := by have h := xh40_5; rw [w49] at h; exact h
    have w51 : I15 339 5 = I0 339 5 := ((hF37 339 5 rfl).trans y29)
    have y52 : I40 339 5 = I0 339 5 := by have h := xh40_6; rw [w51] at h; exact h
    have w53 : I15 339 6 = I0 339 6 := ((hF37 339 6 rfl).trans y31)
    have y54 : I40 339 6 = I0 339 6 := by have h := xh40_7; rw [w53] at h; exact h
    have w55 : I15 339 7 = I0 339 7 := ((hF37 339 7 rfl).trans y33)
    have y56 : I40 339 7 = I0 339 7 := by have h := xh40_8; rw [w55] at h; exact h
    have w57 : I15 339 = dkV (dkV (I0 339) 0 11) 1 10 := ((funext fun j => hF37 339 j dkNin_nil).trans y35)
    have y58 : I40 339 = dkV (dkV (dkV (dkV (I0 339) 0 11) 1 10) 2 21) 3 20 := by have h := xh40_9; rw [w57] at h; exact h
    have w59 : I15 34 = I0 34 := ((funext fun j => hF37 34 j dkNin_nil).trans ((funext fun j => hF15 34 j (dkNin_k rfl (dkNin_k rfl dkNin_nil))).trans ((funext fun j => hF2 34 j (dkNin_k rfl (dkNin_k rfl dkNin_nil))).trans rfl)))
    have xv40 : v40 = p1 + ((I0 34) (Int32.toNatClampNeg p1)) := by have h := xr40; rw [w59] at h; exact h
    refine lv_iadd hx hb dX1_gives_123 ?_
    refine lv_topi (fun v60 ev60 => ?_)
    have xv60 : v60 = ((I0 33) (Int32.toNatClampNeg p1)) + (p1 + ((I0 34) (Int32.toNatClampNeg p1))) := by rw [ev60, xv15, xv40]
    exact W.iret (v := v60) hx hb hr (fun t ht hW9 => ⟨⟨v60, I40, rfl, ⟨hF, hO, ⟨trivial, (show dkN [(4, 4)] (I40 338 2) from dkN_sub f40_338_2 rfl), (show dkN [(11, 11)] (I40 339 0) from dkN_sub (by rw [hF40 339 0 rfl]; exact (by rw [hF37 339 0 rfl]; exact (by rw [hF15 339 0 rfl]; exact f2_339_0))) rfl), (show dkN [(10, 10)] (I40 339 1) from dkN_sub (by rw [hF40 339 1 rfl]; exact (by rw [hF37 339 1 rfl]; exact f15_339_1)) rfl), (show dkN [(21, 21)] (I40 339 2) from dkN_sub f40_339_2 rfl), (show dkN [(20, 20)] (I40 339 3) from dkN_sub f40_339_3 rfl), tp0, q17, xv60, y42, y44, y46, y47, y48, y50, y52, y54, y56, y58, trivial⟩⟩, dkW_eq ht hW⟩, hS.F ht⟩) hS.2.2 dX1_gives_124
  ·
    exact (dkN_nil (show dkN [] 1 from dkN_le2 1 (dkN_lit (x := 5) (5) rfl) (dkN_lit (x := 1) (1) rfl) (dkc_nle c1) rfl)).elim
set_option maxHeartbeats 4000000 in
set_option maxRecDepth 100000 in
theorem fx_X1_answer_1 (l : Launch) (g : dkG) (z : Nat) (I0 : dkI) (p0 : Int32) (p1 : Int32) (dp0 : dkN [(0, 5)] p0) (dp1 : dkN [(0, 1)] p1)  (tp0 : (I0 32 (Int32.toNatClampNeg p0)).toInt = (1 : Int)) (hO : dkOk I0) : Met l yX1_answer wsX1_answer (dkR 4) (dkPc g z [.ref (z + 338), .int p0, .int p1] I0) (dkQi g z (fun r I1 => dkF [(338, 338, 2, 2), (339, 339, 0, 3)] I0 I1 ∧ dkOk I1 ∧ ((True ∧ dkN [(1, 1)] p1 ∧ dkN [(2, 2)] (I1 338 2) ∧ dkN [(21, 21)] (I1 339 0) ∧ dkN [(20, 20)] (I1 339 1) ∧ (I0 32 (Int32.toNatClampNeg p0)).toInt = (1 : Int) ∧ p1.toInt ≠ (0 : Int) ∧ ((I0 32) (Int32.toNatClampNeg p0)).toInt = (1 : Int) ∧ r = p0 + ((I0 34) (Int32.toNatClampNeg p0)) ∧ I1 338 2 = 2 ∧ I1 339 0 = 21 ∧ I1 339 1 = 20 ∧ I1 339 2 = I0 339 2 ∧ I1 339 3 = I0 339 3 ∧ I1 339 4 = I0 339 4 ∧ I1 339 5 = I0 339 5 ∧ I1 339 6 = I0 339 6 ∧ I1 339 7 = I0 339 7 ∧ I1 339  = dkV (dkV (I0 339) 0 21) 1 20 ∧ True) ∨ (True ∧ dkN [(0, 0)] p1 ∧ dkN [(4, 4)] (I1 338 2) ∧ dkN [(11, 11)] (I1 339 0) ∧ dkN [(10, 10)] (I1 339 1) ∧ dkN [(21, 21)] (I1 339 2) ∧ dkN [(20, 20)] (I1 339 3) ∧ (I0 32 (Int32.toNatClampNeg p0)).toInt = (1 : Int) ∧ p1.toInt = (0 : Int) ∧ ((I0 32) (Int32.toNatClampNeg p0)).toInt = (1 : Int) ∧ r = ((I0 33) (Int32.toNatClampNeg p0)) + (p0 + ((I0 34) (Int32.toNatClampNeg p0))) ∧ I1 338 2 = 4 ∧ I1 339 0 = 11 ∧ I1 339 1 = 10 ∧ I1 339 2 = 21 ∧ I1 339 3 = 20 ∧ I1 339 4 = I0 339 4 ∧ I1 339 5 = I0 339 5 ∧ I1 339 6 = I0 339 6 ∧ I1 339 7 = I0 339 7 ∧ I1 339  = dkV (dkV (dkV (dkV (I0 339) 0 11) 1 10) 2 21) 3 20 ∧ True)))) 0 0 (dkA z) := by
  refine Met.ofW (cc := cX1_answer) (maxL := 3) (ret := (some .int)) (by decide) rfl ?_
  intro p e s m args below meth c s₁ B hml hv
  obtain ⟨ha, hW, hK, hT⟩ := hv
  have hx := B.exec
  have hb := B.bytes
  have hr := B.returns
  have hts := atoms_spec (ws := wsX1_answer) B.pre
  have hown : s.vm.findClass RX1 = some m.cls := findClass_of_methodNamed B.named
  have hlocks := B.notSynchronized
  have hS : va_S (dkA z) s.heap s.heap [] := va_S.rf
  have hF : dkF [(338, 338, 2, 2), (339, 339, 0, 3)] I0 I0 := dkF_rf _ _
  have hl := lv_entry ([.ref (z + 338), .int p0, .int p1]) (n := 3) (Nat.le_of_ble_eq_true rfl)
  have hgo : entryFrame m args 3 = entryFrame m ([.ref (z + 338), .int p0, .int p1] : List Value).toArray 3 := by rw [ha]
  rw [hgo, lg_entry_eq]
  generalize (lg_sl ([.ref (z + 338), .int p0, .int p1]) ++ List.replicate (3 - (lg_sl ([.ref (z + 338), .int p0, .int p1])).length) Slot.unset).toArray = ls at hl ⊢
  have hl : lv_has ls 3 [(0, .ref (z + 338)), (1, .int p0), (2, .int p1)] := hl
  refine lv_aload_n hx hb dX1_answer_0 rfl (lv_at hl 0 rfl) ?_
  refine lv_iconst (v := 0) hx hb dX1_answer_1 (by decide) ?_
  refine dk_put (k := 338) hx hb hts iX1_answer_1 tyX1 tyX1_ok nmX1 hown hK hW (dk_at338 hW) hS rfl 2 (by decide) (hts (.fieldLink RX1 19 "DogKings$Asks" "tracedCount" "I") (List.mem_of_getElem? (i := 1) rfl)) rfl rfl (Nat.le_of_ble_eq_true rfl) rfl dX1_answer_2 (fun I1 H1 L1 eI1 hW hS => ?_)
  have eI1 : I1 = dkU I0 338 2 0 := eI1
  have hO := dkO_set hO eI1 (dkN_sub (dkN_lit (x := 0) (0) rfl) rfl)
  have hF := dkF_set hF eI1 rfl
  refine lv_aload_n hx hb dX1_answer_5 rfl (lv_at hl 0 rfl) ?_
  refine lv_iload_n hx hb dX1_answer_6 rfl (lv_at hl 2 rfl) ?_
  refine lv_if_ne (tgt := 18) hx hb dX1_answer_7 (by decide) (fun c2 => ?_) (fun c2 => ?_)
  ·
    have q3 : p1.toInt ≠ (0 : Int) := (dk_ne c2)
    have d4 : dkN [(1, 1)] p1 := dkN_ne1 (0) dp1 (dkN_lit (x := 0) (0) rfl) (dk_ne c2) rfl
    refine lv_aload_n hx hb dX1_answer_18 rfl (lv_at hl 0 rfl) ?_
    refine lv_iload_n hx hb dX1_answer_19 rfl (lv_at hl 1 rfl) ?_
    refine dk_Vi (As := [.int p0]) (rest := [.ref (z + 338)]) ⟨hx, hb, hml, hown, hts⟩ (fx_X1_markBody_1 l g z I1 p0 dp0 (by rw [(show I1 32 = I0 32 from ((by rw [eI1, dkU_n (by decide)] : I1 32 = _).trans rfl))]; exact tp0) hO) (cwV 1 hts gX1_answer_X1_markBody rfl rfl rfl (by decide +kernel) ⟨Nat.le_of_ble_eq_true rfl, Nat.le_of_ble_eq_true rfl⟩) (dk_at338 hW) rfl hK hT hW hS rfl hl.1 rfl (Nat.le_of_ble_eq_true rfl) dX1_answer_20 ⟨Nat.zero_le _, Nat.zero_le _⟩ (fun v5 I5 H5 L5 hp5 hW hS => ?_)
    obtain ⟨hF5, hO, hc5⟩ := hp5
    have hF := dkF_call hF hF5 rfl
    have eI5 : I1 = I5 := (dkF_nil hF5).symm
    subst eI5
    obtain ⟨dv5, x5_0, xr5, -⟩ := hc5
    have w6 : I1 32 = I0 32 := ((by rw [eI1, dkU_n (by decide)] : I1 32 = _).trans rfl)
    have q7 : ((I0 32) (Int32.toNatClampNeg p0)).toInt = (1 : Int) := by have h := x5_0; rw [w6] at h; exact h
    have xv5 : v5 = 21 := by have h := xr5; exact h
    have z8 : v5 = 21 := xv5
    subst z8
    refine lv_iload_n hx hb dX1_answer_23 rfl (lv_at hl 1 rfl) ?_
    refine lv_iconst (v := 1) hx hb dX1_answer_24 (by decide) ?_
    refine dk_Vi (As := [.int 21, .int p0, .int 1]) (rest := []) ⟨hx, hb, hml, hown, hts⟩ (fx_X1_gives_36 l g z I1 21 p0 1 (dkN_lit (x := 21) (21) rfl) dp0 (dkN_lit (x := 1) (1) rfl) (show dkN [(0, 0)] (I1 338 2) from dkN_sub (by rw [hF5 338 2 rfl]; exact (by rw [eI1, dkU_ss]; exact (dkN_lit (x := 0) (0) rfl))) rfl) (by rw [(show I1 32 = I0 32 from ((funext fun j => hF5 32 j dkNin_nil).trans ((by rw [eI1, dkU_n (by decide)] : I1 32 = _).trans rfl)))]; exact tp0) hO) (cwV 3 hts gX1_answer_X1_gives rfl rfl rfl (by decide +kernel) ⟨Nat.le_of_ble_eq_true rfl, Nat.le_of_ble_eq_true rfl⟩) (dk_at338 hW) rfl hK hT hW hS rfl hl.1 rfl (Nat.le_of_ble_eq_true rfl) dX1_answer_25 ⟨Nat.zero_le _, Nat.zero_le _⟩ (fun v9 I9 H9 L9 hp9 hW hS => ?_)
    obtain ⟨hF9, hO, hc9⟩ := hp9
    have hF := dkF_call hF hF9 rfl
    obtain ⟨_, f9_338_2, f9_339_0, f9_339_1, x9_0, x9_1, xr9, xh9_0, xh9_1, xh9_2, xh9_3, xh9_4, xh9_5, xh9_6, xh9_7, xh9_8, xh9_9, -⟩ := hc9
    have w10 : I1 32 = I0 32 := ((funext fun j => hF5 32 j dkNin_nil).trans ((by rw [eI1, dkU_n (by decide)] : I1 32 = _).trans rfl))
    have y11 : I9 338 2 = 2 := by have h := xh9_0; exact h
    have y12 : I9 339 0 = 21 := by have h := xh9_1; exact h
    have y13 : I9 339 1 = 20 := by have h := xh9_2; exact h
    have w14 : I1 339 2 = I0 339 2 := ((hF5 339 2 rfl).trans ((by rw [eI1, dkU_n (by decide)] : I1 339 2 = _).trans rfl))
    have y15 : I9 339 2 = I0 339 2 := by have h := xh9_3; rw [w14] at h; exact h
    have w16 : I1 339 3 = I0 339 3 := ((hF5 339 3 rfl).trans ((by rw [eI1, dkU_n (by decide)] : I1 339 3 = _).trans rfl))
    have y17 : I9 339 3 = I0 339 3 := by have h := xh9_4; rw [w16] at h; exact h
    have w18 : I1 339 4 = I0 339 4 := ((hF5 339 4 rfl).trans ((by rw [eI1, dkU_n (by decide)] : I1 339 4 = _).trans rfl))
    have y19 : I9 339 4 = I0 339 4 := by have h := xh9_5; rw [w18] at h; exact h
    have w20 : I1 339 5 = I0 339 5 := ((hF5 339 5 rfl).trans ((by rw [eI1, dkU_n (by decide)] : I1 339 5 = _).trans rfl))
    have y21 : I9 339 5 = I0 339 5 := by have h := xh9_6; rw [w20] at h; exact h
    have w22 : I1 339 6 = I0 339 6 := ((hF5 339 6 rfl).trans ((by rw [eI1, dkU_n (by decide)] : I1 339 6 = _).trans rfl))
    have y23 : I9 339 6 = I0 339 6 := by have h := xh9_7; rw [w22] at h; exact h
    have w24 : I1 339 7 = I0 339 7 := ((hF5 339 7 rfl).trans ((by rw [eI1, dkU_n (by decide)] : I1 339 7 = _).trans rfl))
    have y25 : I9 339 7 = I0 339 7 := by have h := xh9_8; rw [w24] at h; exact h
    have w26 : I1 339 = I0 339 := ((funext fun j => hF5 339 j dkNin_nil).trans ((by rw [eI1, dkU_n (by decide)] : I1 339 = _).trans rfl))
    have y27 : I9 339 = dkV (dkV (I0 339) 0 21) 1 20 := by have h := xh9_9; rw [w26] at h; exact h
    have w28 : I1 34 = I0 34 := ((funext fun j => hF5 34 j dkNin_nil).trans ((by rw [eI1, dkU_n (by decide)] : I1 34 = _).trans rfl))
    have xv9 : v9 = p0 + ((I0 34) (Int32.toNatClampNeg p0)) := by have h := xr9; rw [w28] at h; exact h
    exact W.iret (v := v9) hx hb hr (fun t ht hW9 => ⟨⟨v9, I9, rfl, ⟨hF, hO, Or.inl ⟨trivial, dkN_sub d4 rfl, (show dkN [(2, 2)] (I9 338 2) from dkN_sub f9_338_2 rfl), (show dkN [(21, 21)] (I9 339 0) from dkN_sub f9_339_0 rfl), (show dkN [(20, 20)] (I9 339 1) from dkN_sub f9_339_1 rfl), tp0, q3, q7, xv9, y11, y12, y13, y15, y17, y19, y21, y23, y25, y27, trivial⟩⟩, dkW_eq ht hW⟩, hS.F ht⟩) hS.2.2 dX1_answer_28
  ·
    have q29 : p1.toInt = (0 : Int) := (congrArg Int32.toInt c2)
    have d30 : dkN [(0, 0)] p1 := dkN_eq1 dp1 (dkN_lit (x := 0) (0) rfl) (congrArg Int32.toInt c2) rfl
    refine lv_aload_n hx hb dX1_answer_10 rfl (lv_at hl 0 rfl) ?_
    refine lv_iload_n hx hb dX1_answer_11 rfl (lv_at hl 1 rfl) ?_
    refine dk_Vi (As := [.int p0]) (rest := [.ref (z + 338)]) ⟨hx, hb, hml, hown, hts⟩ (fx_X1_sizeBody_1 l g z I1 p0 dp0 (by rw [(show I1 32 = I0 32 from ((by rw [eI1, dkU_n (by decide)] : I1 32 = _).trans rfl))]; exact tp0) hO) (cwV 1 hts gX1_answer_X1_sizeBody rfl rfl rfl (by decide +kernel) ⟨Nat.le_of_ble_eq_true rfl, Nat.le_of_ble_eq_true rfl⟩) (dk_at338 hW) rfl hK hT hW hS rfl hl.1 rfl (Nat.le_of_ble_eq_true rfl) dX1_answer_12 ⟨Nat.zero_le _, Nat.zero_le _⟩ (fun v31 I31 H31 L31 hp31 hW hS => ?_)
    obtain ⟨hF31, hO, hc31⟩ := hp31
    have hF := dkF_call hF hF31 rfl
    have eI31 : I1 = I31 := (dkF_nil hF31).symm
    subst eI31
    obtain ⟨dv31, x31_0, xr31, -⟩ := hc31
    have w32 : I1 32 = I0 32 := ((by rw [eI1, dkU_n (by decide)] : I1 32 = _).trans rfl)
    have q33 : ((I0 32) (Int32.toNatClampNeg p0)).toInt = (1 : Int) := by have h := x31_0; rw [w32] at h; exact h
    have xv31 : v31 = 11 := by have h := xr31; exact h
    have z34 : v31 = 11 := xv31
    subst z34
    refine lv_goto (tgt := 23) hx hb dX1_answer_15 (by decide) ?_
    refine lv_iload_n hx hb dX1_answer_23 rfl (lv_at hl 1 rfl) ?_
    refine lv_iconst (v := 1) hx hb dX1_answer_24 (by decide) ?_
    refine dk_Vi (As := [.int 11, .int p0, .int 1]) (rest := []) ⟨hx, hb, hml, hown, hts⟩ (fx_X1_gives_38 l g z I1 11 p0 1 (dkN_lit (x := 11) (11) rfl) dp0 (dkN_lit (x := 1) (1) rfl) (show dkN [(0, 0)] (I1 338 2) from dkN_sub (by rw [hF31 338 2 rfl]; exact (by rw [eI1, dkU_ss]; exact (dkN_lit (x := 0) (0) rfl))) rfl) (by rw [(show I1 32 = I0 32 from ((funext fun j => hF31 32 j dkNin_nil).trans ((by rw [eI1, dkU_n (by decide)] : I1 32 = _).trans rfl)))]; exact tp0) hO) (cwV 3 hts gX1_answer_X1_gives rfl rfl rfl (by decide +kernel) ⟨Nat.le_of_ble_eq_true rfl, Nat.le_of_ble_eq_true rfl⟩) (dk_at338 hW) rfl hK hT hW hS rfl hl.1 rfl (Nat.le_of_ble_eq_true rfl) dX1_answer_25 ⟨Nat.zero_le _, Nat.zero_le _⟩ (fun v35 I35 H35 L35 hp35 hW hS => ?_)
    obtain ⟨hF35, hO, hc35⟩ := hp35
    have hF := dkF_call hF hF35 rfl
    obtain ⟨_, f35_338_2, f35_339_0, f35_339_1, f35_339_2, f35_339_3, x35_0, x35_1, xr35, xh35_0, xh35_1, xh35_2, xh35_3, xh35_4, xh35_5, xh35_6, xh35_7, xh35_8, xh35_9, -⟩ := hc35
    have w36 : I1 32 = I0 32 := ((funext fun j => hF31 32 j dkNin_nil).trans ((by rw [eI1, dkU_n (by decide)] : I1 32 = _).trans rfl))
    have y37 : I35 338 2 = 4 := by have h := xh35_0; exact h
    have y38 : I35 339 0 = 11 := by have h := xh35_1; exact h
    have y39 : I35 339 1 = 10 := by have h := xh35_2; exact h
    have y40 : I35 339 2 = 21 := by have h := xh35_3; exact h
    have y41 : I35 339 3 = 20 := by have h := xh35_4; exact h
    have w42 : I1 339 4 = I0 339 4 := ((hF31 339 4 rfl).trans ((by rw [eI1, dkU_n (by decide)] : I1 339 4 = _).trans rfl))
    have y43 : I35 339 4 = I0 339 4 := by have h := xh35_5; rw [w42] at h; exact h
    have w44 : I1 339 5 = I0 339 5 := ((hF31 339 5 rfl).trans ((by rw [eI1, dkU_n (by decide)] : I1 339 5 = _).trans rfl))
    have y45 : I35 339 5 = I0 339 5 := by have h := xh35_6; rw [w44] at h; exact h
    have w46 : I1 339 6 = I0 339 6 := ((hF31 339 6 rfl).trans ((by rw [eI1, dkU_n (by decide)] : I1 339 6 = _).trans rfl))
    have y47 : I35 339 6 = I0 339 6 := by have h := xh35_7; rw [w46] at h; exact h
    have w48 : I1 339 7 = I0 339 7 := ((hF31 339 7 rfl).trans ((by rw [eI1, dkU_n (by decide)] : I1 339 7 = _).trans rfl))
    have y49 : I35 339 7 = I0 339 7 := by have h := xh35_8; rw [w48] at h; exact h
    have w50 : I1 339 = I0 339 := ((funext fun j => hF31 339 j dkNin_nil).trans ((by rw [eI1, dkU_n (by decide)] : I1 339 = _).trans rfl))
    have y51 : I35 339 = dkV (dkV (dkV (dkV (I0 339) 0 11) 1 10) 2 21) 3 20 := by have h := xh35_9; rw [w50] at h; exact h
    have w52 : I1 33 = I0 33 := ((funext fun j => hF31 33 j dkNin_nil).trans ((by rw [eI1, dkU_n (by decide)] : I1 33 = _).trans rfl))
    have w53 : I1 34 = I0 34 := ((funext fun j => hF31 34 j dkNin_nil).trans ((by rw [eI1, dkU_n (by decide)] : I1 34 = _).trans rfl))
    have xv35 : v35 = ((I0 33) (Int32.toNatClampNeg p0)) + (p0 + ((I0 34) (Int32.toNatClampNeg p0))) := by have h := xr35; rw [w52, w53] at h; exact h
    exact W.iret (v := v35) hx hb hr (fun t ht hW9 => ⟨⟨v35, I35, rfl, ⟨hF, hO, Or.inr (⟨trivial, dkN_sub d30 rfl, (show dkN [(4, 4)] (I35 338 2) from dkN_sub f35_338_2 rfl), (show dkN [(11, 11)] (I35 339 0) from dkN_sub f35_339_0 rfl), (show dkN [(10, 10)] (I35 339 1) from dkN_sub f35_339_1 rfl), (show dkN [(21, 21)] (I35 339 2) from dkN_sub f35_339_2 rfl), (show dkN [(20, 20)] (I35 339 3) from dkN_sub f35_339_3 rfl), tp0, q29, q33, xv35, y37, y38, y39, y40, y41, y43, y45, y47, y49, y51, trivial⟩)⟩, dkW_eq ht hW⟩, hS.F ht⟩) hS.2.2 dX1_answer_28
