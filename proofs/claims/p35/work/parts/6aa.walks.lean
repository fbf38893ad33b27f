set_option maxHeartbeats 4000000 in
set_option maxRecDepth 100000 in
theorem fx_X5_isUpTo_8 (l : Launch) (g : dkG) (z : Nat) (I0 : dkI) (p0 : Int32) (p1 : Int32) (dp1 : dkN [(255, 255)] p1)  (hO : dkOk I0) : Met l yX5_isUpTo wsX5_isUpTo (dkR 0) (dkPc g z [.int p0, .int p1] I0) (dkQi g z (fun r I1 => dkF [] I0 I1 ∧ dkOk I1 ∧ ((dkN [(0, 0)] r ∧ dkN [(-2147483648, -1)] p0 ∧ p0.toInt + 1 ≤ (0 : Int) ∧ r = 0 ∧ True) ∨ (dkN [(0, 0)] r ∧ dkN [(256, 2147483647)] p0 ∧ (0 : Int) + 0 ≤ p0.toInt ∧ p1.toInt + 1 ≤ p0.toInt ∧ r = 0 ∧ True) ∨ (dkN [(1, 1)] r ∧ dkN [(0, 255)] p0 ∧ (0 : Int) + 0 ≤ p0.toInt ∧ p0.toInt + 0 ≤ p1.toInt ∧ r = 1 ∧ True)))) 0 0 (dkA z) := by
  refine Met.ofW (cc := cX5_isUpTo) (maxL := 2) (ret := (some .boolean)) (by decide) rfl ?_
  intro p e s m args below meth c s₁ B hml hv
  obtain ⟨ha, hW, hK, hT⟩ := hv
  have hx := B.exec
  have hb := B.bytes
  have hr := B.returns
  have hts := atoms_spec (ws := wsX5_isUpTo) B.pre
  have hown : s.vm.findClass RX5 = some m.cls := findClass_of_methodNamed B.named
  have hlocks := B.notSynchronized
  have hS : va_S (dkA z) s.heap s.heap [] := va_S.rf
  have hF : dkF [] I0 I0 := dkF_rf _ _
  have hl := lv_entry ([.int p0, .int p1]) (n := 2) (Nat.le_of_ble_eq_true rfl)
  have hgo : entryFrame m args 2 = entryFrame m ([.int p0, .int p1] : List Value).toArray 2 := by rw [ha]
  rw [hgo, lg_entry_eq]
  generalize (lg_sl ([.int p0, .int p1]) ++ List.replicate (2 - (lg_sl ([.int p0, .int p1])).length) Slot.unset).toArray = ls at hl ⊢
  have hl : lv_has ls 2 [(0, .int p0), (1, .int p1)] := hl
  refine lv_iload_n hx hb dX5_isUpTo_0 rfl (lv_at hl 0 rfl) ?_
  refine lv_if_lt (tgt := 13) hx hb dX5_isUpTo_1 (by decide) (fun c1 => ?_) (fun c1 => ?_)
  ·
    have q2 : p0.toInt + 1 ≤ (0 : Int) := (dkc_lt c1)
    have d3 : dkN [(-2147483648, -1)] p0 := dkN_le1 1 (dkN_top p0) (dkN_lit (x := 0) (0) rfl) (dkc_lt c1) rfl
    refine lv_iconst (v := 0) hx hb dX5_isUpTo_13 (by decide) ?_
    exact W.zret (v := 0) (ty := .boolean) hx hb hr rfl (fun t ht hW9 => ⟨⟨0, I0, rfl, ⟨hF, hO, Or.inl ⟨dkN_sub (dkN_lit (x := 0) (0) rfl) rfl, dkN_sub d3 rfl, q2, rfl, trivial⟩⟩, dkW_eq ht hW⟩, hS.F ht⟩) hS.2.2 dX5_isUpTo_14
  ·
    have q4 : (0 : Int) + 0 ≤ p0.toInt := (dkc_nlt c1)
    have d5 : dkN [(0, 2147483647)] p0 := dkN_le2 0 (dkN_lit (x := 0) (0) rfl) (dkN_top p0) (dkc_nlt c1) rfl
    refine lv_iload_n hx hb dX5_isUpTo_4 rfl (lv_at hl 0 rfl) ?_
    refine lv_iload_n hx hb dX5_isUpTo_5 rfl (lv_at hl 1 rfl) ?_
    refine lv_icmp_gt (tgt := 13) hx hb dX5_isUpTo_6 (by decide) (fun c6 => ?_) (fun c6 => ?_)
    ·
      have q7 : p1.toInt + 1 ≤ p0.toInt := (dkc_lt c6)
      have d8 : dkN [(256, 2147483647)] p0 := dkN_le2 1 dp1 d5 (dkc_lt c6) rfl
      refine lv_iconst (v := 0) hx hb dX5_isUpTo_13 (by decide) ?_
      exact W.zret (v := 0) (ty := .boolean) hx hb hr rfl (fun t ht hW9 => ⟨⟨0, I0, rfl, ⟨hF, hO, Or.inr (Or.inl ⟨dkN_sub (dkN_lit (x := 0) (0) rfl) rfl, dkN_sub d8 rfl, q4, q7, rfl, trivial⟩)⟩, dkW_eq ht hW⟩, hS.F ht⟩) hS.2.2 dX5_isUpTo_14
    ·
      have q9 : p0.toInt + 0 ≤ p1.toInt := (dkc_nlt c6)
      have d10 : dkN [(0, 255)] p0 := dkN_le1 0 d5 dp1 (dkc_nlt c6) rfl
      refine lv_iconst (v := 1) hx hb dX5_isUpTo_9 (by decide) ?_
      refine lv_goto (tgt := 14) hx hb dX5_isUpTo_10 (by decide) ?_
      exact W.zret (v := 1) (ty := .boolean) hx hb hr rfl (fun t ht hW9 => ⟨⟨1, I0, rfl, ⟨hF, hO, Or.inr (Or.inr (⟨dkN_sub (dkN_lit (x := 1) (1) rfl) rfl, dkN_sub d10 rfl, q4, q9, rfl, trivial⟩))⟩, dkW_eq ht hW⟩, hS.F ht⟩) hS.2.2 dX5_isUpTo_14
set_option maxHeartbeats 4000000 in
set_option maxRecDepth 100000 in
theorem fx_X2_isFull_1 (l : Launch) (g : dkG) (z : Nat) (I0 : dkI)  (hO : dkOk I0) : Met l yX2_isFull wsX2_isFull (dkR 0) (dkPc g z [.ref (z + 12)] I0) (dkQi g z (fun r I1 => dkF [] I0 I1 ∧ dkOk I1 ∧ ((dkN [(0, 0)] r ∧ dkN [(0, 89)] (I1 12 1) ∧ (I0 12 1).toInt + 1 ≤ (90 : Int) ∧ r = 0 ∧ True) ∨ (dkN [(1, 1)] r ∧ dkN [(90, 90)] (I1 12 1) ∧ (90 : Int) + 0 ≤ (I0 12 1).toInt ∧ r = 1 ∧ True)))) 0 0 (dkA z) := by
  refine Met.ofW (cc := cX2_isFull) (maxL := 1) (ret := (some .boolean)) (by decide) rfl ?_
  intro p e s m args below meth c s₁ B hml hv
  obtain ⟨ha, hW, hK, hT⟩ := hv
  have hx := B.exec
  have hb := B.bytes
  have hr := B.returns
  have hts := atoms_spec (ws := wsX2_isFull) B.pre
  have hown : s.vm.findClass RX2 = some m.cls := findClass_of_methodNamed B.named
  have hlocks := B.notSynchronized
  have hS : va_S (dkA z) s.heap s.heap [] := va_S.rf
  have hF : dkF [] I0 I0 := dkF_rf _ _
  have hl := lv_entry ([.ref (z + 12)]) (n := 1) (Nat.le_of_ble_eq_true rfl)
  have hgo : entryFrame m args 1 = entryFrame m ([.ref (z + 12)] : List Value).toArray 1 := by rw [ha]
  rw [hgo, lg_entry_eq]
  generalize (lg_sl ([.ref (z + 12)]) ++ List.replicate (1 - (lg_sl ([.ref (z + 12)])).length) Slot.unset).toArray = ls at hl ⊢
  have hl : lv_has ls 1 [(0, .ref (z + 12))] := hl
  refine lv_aload_n hx hb dX2_isFull_0 rfl (lv_at hl 0 rfl) ?_
  refine dk_get (k := 12) hx hb hts iX2_isFull_2 hown hK (dk_at12 hW) rfl 1 (by decide) (hts (.fieldLink RX2 22 "DogKings$Reader" "bytes" "I") (List.mem_of_getElem? (i := 1) rfl)) rfl dX2_isFull_1 ?_
  refine lv_topi (fun v1 ev1 => ?_)
  have dv1 : dkN [(0, 90)] v1 := by rw [ev1]; exact (hO 12 1)
  have xv1 : v1 = I0 12 1 := ev1.trans rfl
  refine lv_bipush (v := 90) hx hb dX2_isFull_4 (by decide) ?_
  refine lv_icmp_lt (tgt := 13) hx hb dX2_isFull_6 (by decide) (fun c2 => ?_) (fun c2 => ?_)
  ·
    have q3 : (I0 12 1).toInt + 1 ≤ (90 : Int) := by first | (rw [← xv1]; exact (dkc_lt c2)) | (subst xv1; exact (dkc_lt c2))
    have d4 : dkN [(0, 89)] v1 := dkN_le1 1 dv1 (dkN_lit (x := 90) (90) rfl) (dkc_lt c2) rfl
    have f5 : dkN [(0, 89)] (I0 12 1) := by rw [← ev1]; exact d4
    refine lv_iconst (v := 0) hx hb dX2_isFull_13 (by decide) ?_
    exact W.zret (v := 0) (ty := .boolean) hx hb hr rfl (fun t ht hW9 => ⟨⟨0, I0, rfl, ⟨hF, hO, Or.inl ⟨dkN_sub (dkN_lit (x := 0) (0) rfl) rfl, (show dkN [(0, 89)] (I0 12 1) from dkN_sub f5 rfl), q3, rfl, trivial⟩⟩, dkW_eq ht hW⟩, hS.F ht⟩) hS.2.2 dX2_isFull_14
  ·
    have q6 : (90 : Int) + 0 ≤ (I0 12 1).toInt := by first | (rw [← xv1]; exact (dkc_nlt c2)) | (subst xv1; exact (dkc_nlt c2))
    have d7 : dkN [(90, 90)] v1 := dkN_le2 0 (dkN_lit (x := 90) (90) rfl) dv1 (dkc_nlt c2) rfl
    have f8 : dkN [(90, 90)] (I0 12 1) := by rw [← ev1]; exact d7
    refine lv_iconst (v := 1) hx hb dX2_isFull_9 (by decide) ?_
    refine lv_goto (tgt := 14) hx hb dX2_isFull_10 (by decide) ?_
    exact W.zret (v := 1) (ty := .boolean) hx hb hr rfl (fun t ht hW9 => ⟨⟨1, I0, rfl, ⟨hF, hO, Or.inr (⟨dkN_sub (dkN_lit (x := 1) (1) rfl) rfl, (show dkN [(90, 90)] (I0 12 1) from dkN_sub f8 rfl), q6, rfl, trivial⟩)⟩, dkW_eq ht hW⟩, hS.F ht⟩) hS.2.2 dX2_isFull_14
set_option maxHeartbeats 4000000 in
set_option maxRecDepth 100000 in
theorem fx_X2_append_1 (l : Launch) (g : dkG) (z : Nat) (I0 : dkI) (p0 : Int32) (dp0 : dkN [(0, 255)] p0)  (hO : dkOk I0) : Met l yX2_append wsX2_append (dkR 1) (dkPc g z [.ref (z + 12), .int p0] I0) (dkQi g z (fun r I1 => dkF [(12, 12, 1, 1), (13, 13, 0, 89)] I0 I1 ∧ dkOk I1 ∧ ((dkN [(1, 90)] r ∧ dkN [(1, 90)] (I1 12 1) ∧ (I0 12 1).toInt + 1 ≤ (90 : Int) ∧ ((I0 12 1) + (1 : Int32)).toInt = (I0 12 1).toInt + (1 : Int) ∧ r = (I0 12 1) + (1 : Int32) ∧ I1 12 1 = (I0 12 1) + (1 : Int32) ∧ I1 13  = dkV (I0 13) (Int32.toNatClampNeg (I0 12 1)) p0 ∧ True) ∨ (dkN [(90, 90)] r ∧ dkN [(90, 90)] (I1 12 1) ∧ (90 : Int) + 0 ≤ (I0 12 1).toInt ∧ r = I0 12 1 ∧ I1 12 1 = I0 12 1 ∧ I1 13  = I0 13 ∧ True)))) 0 0 (dkA z) := by
  refine Met.ofW (cc := cX2_append) (maxL := 2) (ret := (some .int)) (by decide) rfl ?_
  intro p e s m args below meth c s₁ B hml hv
  obtain ⟨ha, hW, hK, hT⟩ := hv
  have hx := B.exec
  have hb := B.bytes
  have hr := B.returns
  have hts := atoms_spec (ws := wsX2_append) B.pre
  have hown : s.vm.findClass RX2 = some m.cls := findClass_of_methodNamed B.named
  have hlocks := B.notSynchronized
  have hS : va_S (dkA z) s.heap s.heap [] := va_S.rf
  have hF : dkF [(12, 12, 1, 1), (13, 13, 0, 89)] I0 I0 := dkF_rf _ _
  have hl := lv_entry ([.ref (z + 12), .int p0]) (n := 2) (Nat.le_of_ble_eq_true rfl)
  have hgo : entryFrame m args 2 = entryFrame m ([.ref (z + 12), .int p0] : List Value).toArray 2 := by rw [ha]
  rw [hgo, lg_entry_eq]
  generalize (lg_sl ([.ref (z + 12), .int p0]) ++ List.replicate (2 - (lg_sl ([.ref (z + 12), .int p0])).length) Slot.unset).toArray = ls at hl ⊢
  have hl : lv_has ls 2 [(0, .ref (z + 12)), (1, .int p0)] := hl
  refine lv_aload_n hx hb dX2_append_0 rfl (lv_at hl 0 rfl) ?_
  refine dk_Vi (As := []) (rest := []) ⟨hx, hb, hml, hown, hts⟩ (fx_X2_isFull_1 l g z I0 hO) (cwV 0 hts gX2_append_X2_isFull rfl rfl rfl (by decide +kernel) ⟨Nat.le_of_ble_eq_true rfl, Nat.le_of_ble_eq_true rfl⟩) (dk_at12 hW) rfl hK hT hW hS rfl hl.1 rfl (Nat.le_of_ble_eq_true rfl) dX2_append_1 ⟨Nat.zero_le _, Nat.zero_le _⟩ (fun v1 I1 H1 L1 hp1 hW hS => ?_)
  obtain ⟨hF1, hO, hc1⟩ := hp1
  have hF := dkF_call hF hF1 rfl
  have eI1 : I0 = I1 := (dkF_nil hF1).symm
  subst eI1
  rcases hc1 with ⟨dv1, f1_12_1, x1_0, xr1, -⟩ | hc1
  ·
    have q2 : (I0 12 1).toInt + 1 ≤ (90 : Int) := x1_0
    have xv1 : v1 = 0 := by have h := xr1; exact h
    refine lv_if_ne (tgt := 27) hx hb dX2_append_4 (by decide) (fun c3 => ?_) (fun c3 => ?_)
    ·
      exact absurd ((xv1).trans (rfl).symm) c3
    ·
      refine lv_aload_n hx hb dX2_append_7 rfl (lv_at hl 0 rfl) ?_
      refine dk_get (k := 12) hx hb hts iX2_append_2 hown hK (dk_at12 hW) rfl 0 (by decide) (hts (.fieldLink RX2 11 "DogKings$Reader" "tape" "[I") (List.mem_of_getElem? (i := 1) rfl)) rfl dX2_append_8 ?_
      refine lv_aload_n hx hb dX2_append_11 rfl (lv_at hl 0 rfl) ?_
      refine dk_get (k := 12) hx hb hts iX2_append_2 hown hK (dk_at12 hW) rfl 1 (by decide) (hts (.fieldLink RX2 22 "DogKings$Reader" "bytes" "I") (List.mem_of_getElem? (i := 2) rfl)) rfl dX2_append_12 ?_
      refine lv_topi (fun v4 ev4 => ?_)
      have dv4 : dkN [(0, 89)] v4 := by rw [ev4]; exact f1_12_1
      have xv4 : v4 = I0 12 1 := ev4.trans rfl
      refine lv_iload_n hx hb dX2_append_15 rfl (lv_at hl 1 rfl) ?_
      refine dk_ist (k := 13) hx hb hK hW (fun _ => rfl) (by decide) hS (dkN_in (n := 90) dv4 rfl) dX2_append_16 (fun I5 H5 L5 eI5 hW hS => ?_)
      have hO := dkO_set hO eI5 (dkN_sub dp0 rfl)
      have hF := dkF_set hF eI5 (dkIn_v dv4 rfl)
      refine lv_aload_n hx hb dX2_append_17 rfl (lv_at hl 0 rfl) ?_
      refine lv_dup hx hb dX2_append_18 rfl ?_
      refine dk_get (k := 12) hx hb hts iX2_append_2 hown hK (dk_at12 hW) rfl 1 (by decide) (hts (.fieldLink RX2 22 "DogKings$Reader" "bytes" "I") (List.mem_of_getElem? (i := 2) rfl)) rfl dX2_append_19 ?_
      refine lv_topi (fun v6 ev6 => ?_)
      have dv6 : dkN [(0, 89)] v6 := by rw [ev6]; exact (by rw [eI5, dkU_n (by decide)]; exact f1_12_1)
      have xv6 : v6 = I0 12 1 := ev6.trans ((by rw [eI5, dkU_n (by decide)] : I5 12 1 = _).trans rfl)
      refine lv_iconst (v := 1) hx hb dX2_append_22 (by decide) ?_
      refine lv_iadd hx hb dX2_append_23 ?_
      refine lv_topi (fun v7 ev7 => ?_)
      have dv7 : dkN [(1, 90)] v7 := by rw [ev7]; exact dkN_add dv6 (dkN_lit (x := 1) (1) rfl) rfl
      have xv7 : v7 = (I0 12 1) + (1 : Int32) := by rw [ev7, xv6]
      have q8 : ((I0 12 1) + (1 : Int32)).toInt = (I0 12 1).toInt + (1 : Int) := by first | (rw [← xv7, ← xv6]; exact (by rw [ev7]; exact dk_addE dv6 (dkN_lit (x := 1) (1) rfl) rfl)) | (subst xv7 xv6; exact (by rw [ev7]; exact dk_addE dv6 (dkN_lit (x := 1) (1) rfl) rfl))
      refine dk_put (k := 12) hx hb hts iX2_append_2 tyX2 tyX2_ok nmX2 hown hK hW (dk_at12 hW) hS rfl 1 (by decide) (hts (.fieldLink RX2 22 "DogKings$Reader" "bytes" "I") (List.mem_of_getElem? (i := 2) rfl)) rfl rfl (Nat.le_of_ble_eq_true rfl) rfl dX2_append_24 (fun I9 H9 L9 eI9 hW hS => ?_)
      have eI9 : I9 = dkU I5 12 1 v7 := eI9
      have hO := dkO_set hO eI9 (dkN_sub dv7 rfl)
      have hF := dkF_set hF eI9 rfl
      refine lv_aload_n hx hb dX2_append_27 rfl (lv_at hl 0 rfl) ?_
      refine dk_get (k := 12) hx hb hts iX2_append_2 hown hK (dk_at12 hW) rfl 1 (by decide) (hts (.fieldLink RX2 22 "DogKings$Reader" "bytes" "I") (List.mem_of_getElem? (i := 2) rfl)) rfl dX2_append_28 ?_
      refine lv_topi (fun v10 ev10 => ?_)
      have dv10 : dkN [(1, 90)] v10 := by rw [ev10]; exact (by rw [eI9, dkU_ss]; exact dv7)
      have xv10 : v10 = (I0 12 1) + (1 : Int32) := ev10.trans (by rw [eI9, dkU_ss, xv7])
      exact W.iret (v := v10) hx hb hr (fun t ht hW9 => ⟨⟨v10, I9, rfl, ⟨hF, hO, Or.inl ⟨dkN_sub dv10 rfl, (show dkN [(1, 90)] (I9 12 1) from dkN_sub (by rw [eI9, dkU_ss]; exact dv7) rfl), q2, q8, xv10, (by rw [eI9, dkU_ss, xv7]), ((by rw [eI9, dkU_n (by decide)] : I9 13 = _).trans (by rw [eI5, dkU_s, show (I0 13) = I0 13 from rfl, xv4])), trivial⟩⟩, dkW_eq ht hW⟩, hS.F ht⟩) hS.2.2 dX2_append_31
  ·
    obtain ⟨dv1, f1_12_1, x1_0, xr1, -⟩ := hc1
    have q11 : (90 : Int) + 0 ≤ (I0 12 1).toInt := x1_0
    have xv1 : v1 = 1 := by have h := xr1; exact h
    refine lv_if_ne (tgt := 27) hx hb dX2_append_4 (by decide) (fun c12 => ?_) (fun c12 => ?_)
    ·
      refine lv_aload_n hx hb dX2_append_27 rfl (lv_at hl 0 rfl) ?_
      refine dk_get (k := 12) hx hb hts iX2_append_2 hown hK (dk_at12 hW) rfl 1 (by decide) (hts (.fieldLink RX2 22 "DogKings$Reader" "bytes" "I") (List.mem_of_getElem? (i := 2) rfl)) rfl dX2_append_28 ?_
      refine lv_topi (fun v13 ev13 => ?_)
      have dv13 : dkN [(90, 90)] v13 := by rw [ev13]; exact f1_12_1
      have xv13 : v13 = I0 12 1 := ev13.trans rfl
      exact W.iret (v := v13) hx hb hr (fun t ht hW9 => ⟨⟨v13, I0, rfl, ⟨hF, hO, Or.inr (⟨dkN_sub dv13 rfl, (show dkN [(90, 90)] (I0 12 1) from dkN_sub f1_12_1 rfl), q11, xv13, rfl, rfl, trivial⟩)⟩, dkW_eq ht hW⟩, hS.F ht⟩) hS.2.2 dX2_append_31
    ·
      exact (dkN_nil (show dkN [] v1 from dkN_eq1 dv1 (dkN_lit (x := 0) (0) rfl) (congrArg Int32.toInt c12) rfl)).elim
set_option maxHeartbeats 4000000 in
set_option maxRecDepth 100000 in
theorem fx_X5_feed_1 (l : Launch) (g : dkG) (z : Nat) (I0 : dkI) (p0 : Int32)  (hO : dkOk I0) : Met l yX5_feed wsX5_feed (dkR 2) (dkPc g z [.ref (z + 0), .int p0] I0) (dkQi g z (fun r I1 => dkF [(12, 12, 1, 1), (13, 13, 0, 89)] I0 I1 ∧ dkOk I1 ∧ ((dkN [(-1000001, -1000001)] r ∧ dkN [(-2147483648, -1)] p0 ∧ p0.toInt + 1 ≤ (0 : Int) ∧ r = (-1000001) ∧ I1 12 1 = I0 12 1 ∧ I1 13  = I0 13 ∧ True) ∨ (dkN [(-1000001, -1000001)] r ∧ dkN [(256, 2147483647)] p0 ∧ (0 : Int) + 0 ≤ p0.toInt ∧ (255 : Int) + 1 ≤ p0.toInt ∧ r = (-1000001) ∧ I1 12 1 = I0 12 1 ∧ I1 13  = I0 13 ∧ True) ∨ (dkN [(1, 90)] r ∧ dkN [(0, 255)] p0 ∧ dkN [(1, 90)] (I1 12 1) ∧ (0 : Int) + 0 ≤ p0.toInt ∧ p0.toInt + 0 ≤ (255 : Int) ∧ (I0 12 1).toInt + 1 ≤ (90 : Int) ∧ ((I0 12 1) + (1 : Int32)).toInt = (I0 12 1).toInt + (1 : Int) ∧ r = (I0 12 1) + (1 : Int32) ∧ I1 12 1 = (I0 12 1) + (1 : Int32) ∧ I1 13  = dkV (I0 13) (Int32.toNatClampNeg (I0 12 1)) p0 ∧ True) ∨ (dkN [(90, 90)] r ∧ dkN [(0, 255)] p0 ∧ dkN [(90, 90)] (I1 12 1) ∧ (0 : Int) + 0 ≤ p0.toInt ∧ p0.toInt + 0 ≤ (255 : Int) ∧ (I0 12 1).toInt + 1 ≤ (90 : Int) ∧ (90 : Int) + 0 ≤ (I0 12 1).toInt ∧ r = I0 12 1 ∧ I1 12 1 = I0 12 1 ∧ I1 13  = I0 13 ∧ True) ∨ (dkN [(-1000003, -1000003)] r ∧ dkN [(0, 255)] p0 ∧ dkN [(90, 90)] (I1 12 1) ∧ (0 : Int) + 0 ≤ p0.toInt ∧ p0.toInt + 0 ≤ (255 : Int) ∧ (90 : Int) + 0 ≤ (I0 12 1).toInt ∧ r = (-1000003) ∧ I1 12 1 = I0 12 1 ∧ I1 13  = I0 13 ∧ True)))) 0 0 (dkA z) := by
  refine Met.ofW (cc := cX5_feed) (maxL := 2) (ret := (some .int)) (by decide) rfl ?_
  intro p e s m args below meth c s₁ B hml hv
  obtain ⟨ha, hW, hK, hT⟩ := hv
  have hx := B.exec
  have hb := B.bytes
  have hr := B.returns
  have hts := atoms_spec (ws := wsX5_feed) B.pre
  have hown : s.vm.findClass RX5 = some m.cls := findClass_of_methodNamed B.named
  have hlocks := B.notSynchronized
  have hS : va_S (dkA z) s.heap s.heap [] := va_S.rf
  have hF : dkF [(12, 12, 1, 1), (13, 13, 0, 89)] I0 I0 := dkF_rf _ _
  have hl := lv_entry ([.ref (z + 0), .int p0]) (n := 2) (Nat.le_of_ble_eq_true rfl)
  have hgo : entryFrame m args 2 = entryFrame m ([.ref (z + 0), .int p0] : List Value).toArray 2 := by rw [ha]
  rw [hgo, lg_entry_eq]
  generalize (lg_sl ([.ref (z + 0), .int p0]) ++ List.replicate (2 - (lg_sl ([.ref (z + 0), .int p0])).length) Slot.unset).toArray = ls at hl ⊢
  have hl : lv_has ls 2 [(0, .ref (z + 0)), (1, .int p0)] := hl
  refine lv_iload_n hx hb dX5_feed_0 rfl (lv_at hl 1 rfl) ?_
  refine lv_sipush (v := 255) hx hb dX5_feed_1 (by decide) ?_
  refine dk_Si (As := [.int p0, .int 255]) (rest := []) ⟨hx, hb, hml, hown, hts⟩ (fx_X5_isUpTo_8 l g z I0 p0 255 (dkN_lit (x := 255) (255) rfl) hO) (va_cwS 2 hts gX5_feed_X5_isUpTo rfl rfl rfl (by decide +kernel) ⟨Nat.le_of_ble_eq_true rfl, Nat.le_of_ble_eq_true rfl⟩) hK hT hW hS rfl hl.1 rfl (Nat.le_of_ble_eq_true rfl) dX5_feed_4 ⟨Nat.zero_le _, Nat.zero_le _⟩ (fun v1 I1 H1 L1 hp1 hW hS => ?_)
  obtain ⟨hF1, hO, hc1⟩ := hp1
  have hF := dkF_call hF hF1 rfl
  have eI1 : I0 = I1 := (dkF_nil hF1).symm
  subst eI1
  rcases hc1 with ⟨dv1, a1_0, x1_0, xr1, -⟩ | hc1
  ·
    have q2 : p0.toInt + 1 ≤ (0 : Int) := x1_0
    have xv1 : v1 = 0 := by have h := xr1; exact h
    have d3 : dkN [(-2147483648, -1)] p0 := dkN_eq1 (dkN_top p0) a1_0 rfl rfl
    refine lv_if_ne (tgt := 13) hx hb dX5_feed_7 (by decide) (fun c4 => ?_) (fun c4 => ?_)
    ·
      exact absurd ((xv1).trans (rfl).symm) c4
    ·
      refine lv_ldc (v := (-1000001)) hx hb hown (hts (.constant RX5 70 (-1000001)) (List.mem_of_getElem? (i := 1) rfl)) dX5_feed_10 ?_
      exact W.iret (v := (-1000001)) hx hb hr (fun t ht hW9 => ⟨⟨(-1000001), I0, rfl, ⟨hF, hO, Or.inl ⟨dkN_sub (dkN_lit (x := (-1000001)) (-1000001) rfl) rfl, dkN_sub d3 rfl, q2, rfl, rfl, rfl, trivial⟩⟩, dkW_eq ht hW⟩, hS.F ht⟩) hS.2.2 dX5_feed_12
  rcases hc1 with ⟨dv1, a1_0, x1_0, x1_1, xr1, -⟩ | hc1
  ·
    have q5 : (0 : Int) + 0 ≤ p0.toInt := x1_0
    have q6 : (255 : Int) + 1 ≤ p0.toInt := x1_1
    have xv1 : v1 = 0 := by have h := xr1; exact h
    have d7 : dkN [(256, 2147483647)] p0 := dkN_eq1 (dkN_top p0) a1_0 rfl rfl
    refine lv_if_ne (tgt := 13) hx hb dX5_feed_7 (by decide) (fun c8 => ?_) (fun c8 => ?_)
    ·
      exact absurd ((xv1).trans (rfl).symm) c8
    ·
      refine lv_ldc (v := (-1000001)) hx hb hown (hts (.constant RX5 70 (-1000001)) (List.mem_of_getElem? (i := 1) rfl)) dX5_feed_10 ?_
      exact W.iret (v := (-1000001)) hx hb hr (fun t ht hW9 => ⟨⟨(-1000001), I0, rfl, ⟨hF, hO, Or.inr (Or.inl ⟨dkN_sub (dkN_lit (x := (-1000001)) (-1000001) rfl) rfl, dkN_sub d7 rfl, q5, q6, rfl, rfl, rfl, trivial⟩)⟩, dkW_eq ht hW⟩, hS.F ht⟩) hS.2.2 dX5_feed_12
  ·
    obtain ⟨dv1, a1_0, x1_0, x1_1, xr1, -⟩ := hc1
    have q9 : (0 : Int) + 0 ≤ p0.toInt := x1_0
    have q10 : p0.toInt + 0 ≤ (255 : Int) := x1_1
    have xv1 : v1 = 1 := by have h := xr1; exact h
    have d11 : dkN [(0, 255)] p0 := dkN_eq1 (dkN_top p0) a1_0 rfl rfl
    refine lv_if_ne (tgt := 13) hx hb dX5_feed_7 (by decide) (fun c12 => ?_) (fun c12 => ?_)
    ·
      refine lv_aload_n hx hb dX5_feed_13 rfl (lv_at hl 0 rfl) ?_
      refine dk_get (k := 0) hx hb hts iX5_feed_5 hown hK (dk_at0 hW) rfl 4 (by decide) (hts (.fieldLink RX5 24 "DogKings" "reader" "LDogKings$Reader;") (List.mem_of_getElem? (i := 2) rfl)) rfl dX5_feed_14 ?_
      refine dk_Vi (As := []) (rest := []) ⟨hx, hb, hml, hown, hts⟩ (fx_X2_isFull_1 l g z I0 hO) (cwV 0 hts gX5_feed_X2_isFull rfl rfl rfl (by decide +kernel) ⟨Nat.le_of_ble_eq_true rfl, Nat.le_of_ble_eq_true rfl⟩) (dk_at12 hW) rfl hK hT hW hS rfl hl.1 rfl (Nat.le_of_ble_eq_true rfl) dX5_feed_17 ⟨Nat.zero_le _, Nat.zero_le _⟩ (fun v13 I13 H13 L13 hp13 hW hS => ?_)
      obtain ⟨hF13, hO, hc13⟩ := hp13
      have hF := dkF_call hF hF13 rfl
      have eI13 : I0 = I13 := (dkF_nil hF13).symm
      subst eI13
      rcases hc13 with ⟨dv13, f13_12_1, x13_0, xr13, -⟩ | hc13
      ·
        have q14 : (I0 12 1).toInt + 1 ≤ (90 : Int) := x13_0
        have xv13 : v13 = 0 := by have h := xr13; exact h
        refine lv_if_eq (tgt := 28) hx hb dX5_feed_20 (by decide) (fun c15 => ?_) (fun c15 => ?_)
        ·
          refine lv_aload_n hx hb dX5_feed_28 rfl (lv_at hl 0 rfl) ?_
          refine dk_get (k := 0) hx hb hts iX5_feed_5 hown hK (dk_at0 hW) rfl 4 (by decide) (hts (.fieldLink RX5 24 "DogKings" "reader" "LDogKings$Reader;") (List.mem_of_getElem? (i := 2) rfl)) rfl dX5_feed_29 ?_
          refine lv_iload_n hx hb dX5_feed_32 rfl (lv_at hl 1 rfl) ?_
          refine dk_Vi (As := [.int p0]) (rest := []) ⟨hx, hb, hml, hown, hts⟩ (fx_X2_append_1 l g z I0 p0 d11 hO) (cwV 1 hts gX5_feed_X2_append rfl rfl rfl (by decide +kernel) ⟨Nat.le_of_ble_eq_true rfl, Nat.le_of_ble_eq_true rfl⟩) (dk_at12 hW) rfl hK hT hW hS rfl hl.1 rfl (Nat.le_of_ble_eq_true rfl) dX5_feed_33 ⟨Nat.zero_le _, Nat.zero_le _⟩ (fun v16 I16 H16 L16 hp16 hW hS => ?_)
          obtain ⟨hF16, hO, hc16⟩ := hp16
          have hF := dkF_call hF hF16 rfl
          rcases hc16 with ⟨dv16, f16_12_1, x16_0, x16_1, xr16, xh16_0, xh16_1, -⟩ | hc16
          ·
            have q17 : ((I0 12 1) + (1 : Int32)).toInt = (I0 12 1).toInt + (1 : Int) := x16_1
            have k18 : dkN [(1, 90)] (I16 12 1) := by rw [xh16_0]; exact dkN_add f13_12_1 (dkN_lit (x := 1) (1) rfl) rfl
            have y19 : I16 12 1 = (I0 12 1) + (1 : Int32) := by have h := xh16_0; exact h
            have y20 : I16 13 = dkV (I0 13) (Int32.toNatClampNeg (I0 12 1)) p0 := by have h := xh16_1; exact h
            have xv16 : v16 = (I0 12 1) + (1 : Int32) := by have h := xr16; exact h
            exact W.iret (v := v16) hx hb hr (fun t ht hW9 => ⟨⟨v16, I16, rfl, ⟨hF, hO, Or.inr (Or.inr (Or.inl ⟨dkN_sub dv16 rfl, dkN_sub d11 rfl, (show dkN [(1, 90)] (I16 12 1) from dkN_sub k18 rfl), q9, q10, q14, q17, xv16, y19, y20, trivial⟩))⟩, dkW_eq ht hW⟩, hS.F ht⟩) hS.2.2 dX5_feed_36
          ·
            obtain ⟨dv16, f16_12_1, x16_0, xr16, xh16_0, xh16_1, -⟩ := hc16
            have q21 : (90 : Int) + 0 ≤ (I0 12 1).toInt := x16_0
            have y22 : I16 12 1 = I0 12 1 := by have h := xh16_0; exact h
            have y23 : I16 13 = I0 13 := by have h := xh16_1; exact h
            have xv16 : v16 = I0 12 1 := by have h := xr16; exact h
            exact W.iret (v := v16) hx hb hr (fun t ht hW9 => ⟨⟨v16, I16, rfl, ⟨hF, hO, Or.inr (Or.inr (Or.inr (Or.inl ⟨dkN_sub dv16 rfl, dkN_sub d11 rfl, (show dkN [(90, 90)] (I16 12 1) from dkN_sub f16_12_1 rfl), q9, q10, q14, q21, xv16, y22, y23, trivial⟩)))⟩, dkW_eq ht hW⟩, hS.F ht⟩) hS.2.2 dX5_feed_36
        ·
          exact absurd ((xv13).trans (rfl).symm) c15
      ·
        obtain ⟨dv13, f13_12_1, x13_0, xr13, -⟩ := hc13
        have q24 : (90 : Int) + 0 ≤ (I0 12 1).toInt := x13_0
        have xv13 : v13 = 1 := by have h := xr13; exact h
        refine lv_if_eq (tgt := 28) hx hb dX5_feed_20 (by decide) (fun c25 => ?_) (fun c25 => ?_)
        ·
          exact (dkN_nil (show dkN [] v13 from dkN_eq1 dv13 (dkN_lit (x := 0) (0) rfl) (congrArg Int32.toInt c25) rfl)).elim
        ·
          refine lv_ldc (v := (-1000003)) hx hb hown (hts (.constant RX5 99 (-1000003)) (List.mem_of_getElem? (i := 3) rfl)) dX5_feed_23 ?_
          refine lv_goto (tgt := 36) hx hb dX5_feed_25 (by decide) ?_
          exact W.iret (v := (-1000003)) hx hb hr (fun t ht hW9 => ⟨⟨(-1000003), I0, rfl, ⟨hF, hO, Or.inr (Or.inr (Or.inr (Or.inr (⟨dkN_sub (dkN_lit (x := (-1000003)) (-1000003) rfl) rfl, dkN_sub d11 rfl, (show dkN [(90, 90)] (I0 12 1) from dkN_sub f13_12_1 rfl), q9, q10, q24, rfl, rfl, rfl, trivial⟩))))⟩, dkW_eq ht hW⟩, hS.F ht⟩) hS.2.2 dX5_feed_36
    ·
      exact (dkN_nil (show dkN [] v1 from dkN_eq1 dv1 (dkN_lit (x := 0) (0) rfl) (congrArg Int32.toInt c12) rfl)).elim
set_option maxHeartbeats 4000000 in
set_option maxRecDepth 100000 in
theorem fx_X6_in_22 (l : Launch) (g : dkG) (z : Nat) (I0 : dkI) (p0 : Int32) (p1 : Int32) (p2 : Int32) (dp1 : dkN [(0, 0)] p1) (dp2 : dkN [(255, 255)] p2)  (hO : dkOk I0) : Met l yX6_in wsX6_in (dkR 0) (dkPc g z [.int p0, .int p1, .int p2] I0) (dkQi g z (fun r I1 => dkF [] I0 I1 ∧ dkOk I1 ∧ ((dkN [(0, 0)] r ∧ dkN [(-2147483648, -1)] p0 ∧ p0.toInt + 1 ≤ p1.toInt ∧ r = 0 ∧ True) ∨ (dkN [(0, 0)] r ∧ dkN [(256, 2147483647)] p0 ∧ p1.toInt + 0 ≤ p0.toInt ∧ p2.toInt + 1 ≤ p0.toInt ∧ r = 0 ∧ True) ∨ (dkN [(1, 1)] r ∧ dkN [(0, 255)] p0 ∧ p1.toInt + 0 ≤ p0.toInt ∧ p0.toInt + 0 ≤ p2.toInt ∧ r = 1 ∧ True)))) 0 0 (dkA z) := by
  refine Met.ofW (cc := cX6_in) (maxL := 3) (ret := (some .boolean)) (by decide) rfl ?_
  intro p e s m args below meth c s₁ B hml hv
  obtain ⟨ha, hW, hK, hT⟩ := hv
  have hx := B.exec
  have hb := B.bytes
  have hr := B.returns
  have hts := atoms_spec (ws := wsX6_in) B.pre
  have hown : s.vm.findClass RX6 = some m.cls := findClass_of_methodNamed B.named
  have hlocks := B.notSynchronized
  have hS : va_S (dkA z) s.heap s.heap [] := va_S.rf
  have hF : dkF [] I0 I0 := dkF_rf _ _
  have hl := lv_entry ([.int p0, .int p1, .int p2]) (n := 3) (Nat.le_of_ble_eq_true rfl)
  have hgo : entryFrame m args 3 = entryFrame m ([.int p0, .int p1, .int p2] : List Value).toArray 3 := by rw [ha]
  rw [hgo, lg_entry_eq]
  generalize (lg_sl ([.int p0, .int p1, .int p2]) ++ List.replicate (3 - (lg_sl ([.int p0, .int p1, .int p2])).length) Slot.unset).toArray = ls at hl ⊢
  have hl : lv_has ls 3 [(0, .int p0), (1, .int p1), (2, .int p2)] := hl
  refine lv_iload_n hx hb dX6_in_0 rfl (lv_at hl 0 rfl) ?_
  refine lv_iload_n hx hb dX6_in_1 rfl (lv_at hl 1 rfl) ?_
  refine lv_icmp_lt (tgt := 14) hx hb dX6_in_2 (by decide) (fun c1 => ?_) (fun c1 => ?_)
  ·
    have q2 : p0.toInt + 1 ≤ p1.toInt := (dkc_lt c1)
    have d3 : dkN [(-2147483648, -1)] p0 := dkN_le1 1 (dkN_top p0) dp1 (dkc_lt c1) rfl
    refine lv_iconst (v := 0) hx hb dX6_in_14 (by decide) ?_
    exact W.zret (v := 0) (ty := .boolean) hx hb hr rfl (fun t ht hW9 => ⟨⟨0, I0, rfl, ⟨hF, hO, Or.inl ⟨dkN_sub (dkN_lit (x := 0) (0) rfl) rfl, dkN_sub d3 rfl, q2, rfl, trivial⟩⟩, dkW_eq ht hW⟩, hS.F ht⟩) hS.2.2 dX6_in_15
  ·
    have q4 : p1.toInt + 0 ≤ p0.toInt := (dkc_nlt c1)
    have d5 : dkN [(0, 2147483647)] p0 := dkN_le2 0 dp1 (dkN_top p0) (dkc_nlt c1) rfl
    refine lv_iload_n hx hb dX6_in_5 rfl (lv_at hl 0 rfl) ?_
    refine lv_iload_n hx hb dX6_in_6 rfl (lv_at hl 2 rfl) ?_
    refine lv_icmp_gt (tgt := 14) hx hb dX6_in_7 (by decide) (fun c6 => ?_) (fun c6 => ?_)
    ·
      have q7 : p2.toInt + 1 ≤ p0.toInt := (dkc_lt c6)
      have d8 : dkN [(256, 2147483647)] p0 := dkN_le2 1 dp2 d5 (dkc_lt c6) rfl
      refine lv_iconst (v := 0) hx hb dX6_in_14 (by decide) ?_
      exact W.zret (v := 0) (ty := .boolean) hx hb hr rfl (fun t ht hW9 => ⟨⟨0, I0, rfl, ⟨hF, hO, Or.inr (Or.inl ⟨dkN_sub (dkN_lit (x := 0) (0) rfl) rfl, dkN_sub d8 rfl, q4, q7, rfl, trivial⟩)⟩, dkW_eq ht hW⟩, hS.F ht⟩) hS.2.2 dX6_in_15
    ·
      have q9 : p0.toInt + 0 ≤ p2.toInt := (dkc_nlt c6)
      have d10 : dkN [(0, 255)] p0 := dkN_le1 0 d5 dp2 (dkc_nlt c6) rfl
      refine lv_iconst (v := 1) hx hb dX6_in_10 (by decide) ?_
      refine lv_goto (tgt := 15) hx hb dX6_in_11 (by decide) ?_
      exact W.zret (v := 1) (ty := .boolean) hx hb hr rfl (fun t ht hW9 => ⟨⟨1, I0, rfl, ⟨hF, hO, Or.inr (Or.inr (⟨dkN_sub (dkN_lit (x := 1) (1) rfl) rfl, dkN_sub d10 rfl, q4, q9, rfl, trivial⟩))⟩, dkW_eq ht hW⟩, hS.F ht⟩) hS.2.2 dX6_in_15
set_option maxHeartbeats 4000000 in
set_option maxRecDepth 100000 in
theorem fx_X6_feed_1 (l : Launch) (g : dkG) (z : Nat) (I0 : dkI) (p0 : Int32)  (hO : dkOk I0) : Met l yX6_feed wsX6_feed (dkR 1) (dkPc g z [.ref (z + 340), .int p0] I0) (dkQi g z (fun r I1 => dkF [(340, 340, 6, 6), (345, 345, 0, 89)] I0 I1 ∧ dkOk I1 ∧ ((dkN [(-1000001, -1000001)] r ∧ dkN [(-2147483648, -1)] p0 ∧ p0.toInt + 1 ≤ (0 : Int) ∧ r = (-1000001) ∧ I1 340 6 = I0 340 6 ∧ I1 345  = I0 345 ∧ True) ∨ (dkN [(-1000001, -1000001)] r ∧ dkN [(256, 2147483647)] p0 ∧ (0 : Int) + 0 ≤ p0.toInt ∧ (255 : Int) + 1 ≤ p0.toInt ∧ r = (-1000001) ∧ I1 340 6 = I0 340 6 ∧ I1 345  = I0 345 ∧ True) ∨ (dkN [(1, 90)] r ∧ dkN [(0, 255)] p0 ∧ dkN [(1, 90)] (I1 340 6) ∧ (0 : Int) + 0 ≤ p0.toInt ∧ p0.toInt + 0 ≤ (255 : Int) ∧ (I0 340 6).toInt ≠ (90 : Int) ∧ ((I0 340 6) + (1 : Int32)).toInt = (I0 340 6).toInt + (1 : Int) ∧ r = (I0 340 6) + (1 : Int32) ∧ I1 340 6 = (I0 340 6) + (1 : Int32) ∧ I1 345  = dkV (I0 345) (Int32.toNatClampNeg (I0 340 6)) p0 ∧ True) ∨ (dkN [(-1000003, -1000003)] r ∧ dkN [(0, 255)] p0 ∧ dkN [(90, 90)] (I1 340 6) ∧ (0 : Int) + 0 ≤ p0.toInt ∧ p0.toInt + 0 ≤ (255 : Int) ∧ (I0 340 6).toInt = (90 : Int) ∧ r = (-1000003) ∧ I1 340 6 = I0 340 6 ∧ I1 345  = I0 345 ∧ True)))) 0 0 (dkA z) := by
  refine Met.ofW (cc := cX6_feed) (maxL := 2) (ret := (some .int)) (by decide) rfl ?_
  intro p e s m args below meth c s₁ B hml hv
  obtain ⟨ha, hW, hK, hT⟩ := hv
  have hx := B.exec
  have hb := B.bytes
  have hr := B.returns
  have hts := atoms_spec (ws := wsX6_feed) B.pre
  have hown : s.vm.findClass RX6 = some m.cls := findClass_of_methodNamed B.named
  have hlocks := B.notSynchronized
  have hS : va_S (dkA z) s.heap s.heap [] := va_S.rf
  have hF : dkF [(340, 340, 6, 6), (345, 345, 0, 89)] I0 I0 := dkF_rf _ _
  have hl := lv_entry ([.ref (z + 340), .int p0]) (n := 2) (Nat.le_of_ble_eq_true rfl)
  have hgo : entryFrame m args 2 = entryFrame m ([.ref (z + 340), .int p0] : List Value).toArray 2 := by rw [ha]
  rw [hgo, lg_entry_eq]
  generalize (lg_sl ([.ref (z + 340), .int p0]) ++ List.replicate (2 - (lg_sl ([.ref (z + 340), .int p0])).length) Slot.unset).toArray = ls at hl ⊢
  have hl : lv_has ls 2 [(0, .ref (z + 340)), (1, .int p0)] := hl
  refine lv_iload_n hx hb dX6_feed_0 rfl (lv_at hl 1 rfl) ?_
  refine lv_iconst (v := 0) hx hb dX6_feed_1 (by decide) ?_
  refine lv_sipush (v := 255) hx hb dX6_feed_2 (by decide) ?_
  refine dk_Si (As := [.int p0, .int 0, .int 255]) (rest := []) ⟨hx, hb, hml, hown, hts⟩ (fx_X6_in_22 l g z I0 p0 0 255 (dkN_lit (x := 0) (0) rfl) (dkN_lit (x := 255) (255) rfl) hO) (va_cwS 3 hts gX6_feed_X6_in rfl rfl rfl (by decide +kernel) ⟨Nat.le_of_ble_eq_true rfl, Nat.le_of_ble_eq_true rfl⟩) hK hT hW hS rfl hl.1 rfl (Nat.le_of_ble_eq_true rfl) dX6_feed_5 ⟨Nat.zero_le _, Nat.zero_le _⟩ (fun v1 I1 H1 L1 hp1 hW hS => ?_)
  obtain ⟨hF1, hO, hc1⟩ := hp1
  have hF := dkF_call hF hF1 rfl
  have eI1 : I0 = I1 := (dkF_nil hF1).symm
  subst eI1
  rcases hc1 with ⟨dv1, a1_0, x1_0, xr1, -⟩ | hc1
  ·
    have q2 : p0.toInt + 1 ≤ (0 : Int) := x1_0
    have xv1 : v1 = 0 := by have h := xr1; exact h
    have d3 : dkN [(-2147483648, -1)] p0 := dkN_eq1 (dkN_top p0) a1_0 rfl rfl
    refine lv_if_ne (tgt := 14) hx hb dX6_feed_8 (by decide) (fun c4 => ?_) (fun c4 => ?_)
    ·
      exact absurd ((xv1).trans (rfl).symm) c4
    ·
      refine lv_ldc (v := (-1000001)) hx hb hown (hts (.constant RX6 64 (-1000001)) (List.mem_of_getElem? (i := 1) rfl)) dX6_feed_11 ?_
      exact W.iret (v := (-1000001)) hx hb hr (fun t ht hW9 => ⟨⟨(-1000001), I0, rfl, ⟨hF, hO, Or.inl ⟨dkN_sub (dkN_lit (x := (-1000001)) (-1000001) rfl) rfl, dkN_sub d3 rfl, q2, rfl, rfl, rfl, trivial⟩⟩, dkW_eq ht hW⟩, hS.F ht⟩) hS.2.2 dX6_feed_13
  rcases hc1 with ⟨dv1, a1_0, x1_0, x1_1, xr1, -⟩ | hc1
  ·
    have q5 : (0 : Int) + 0 ≤ p0.toInt := x1_0
    have q6 : (255 : Int) + 1 ≤ p0.toInt := x1_1
    have xv1 : v1 = 0 := by have h := xr1; exact h
    have d7 : dkN [(256, 2147483647)] p0 := dkN_eq1 (dkN_top p0) a1_0 rfl rfl
    refine lv_if_ne (tgt := 14) hx hb dX6_feed_8 (by decide) (fun c8 => ?_) (fun c8 => ?_)
    ·
      exact absurd ((xv1).trans (rfl).symm) c8
    ·
      refine lv_ldc (v := (-1000001)) hx hb hown (hts (.constant RX6 64 (-1000001)) (List.mem_of_getElem? (i := 1) rfl)) dX6_feed_11 ?_
      exact W.iret (v := (-1000001)) hx hb hr (fun t ht hW9 => ⟨⟨(-1000001), I0, rfl, ⟨hF, hO, Or.inr (Or.inl ⟨dkN_sub (dkN_lit (x := (-1000001)) (-1000001) rfl) rfl, dkN_sub d7 rfl, q5, q6, rfl, rfl, rfl, trivial⟩)⟩, dkW_eq ht hW⟩, hS.F ht⟩) hS.2.2 dX6_feed_13
  ·
    obtain ⟨dv1, a1_0, x1_0, x1_1, xr1, -⟩ := hc1
    have q9 : (0 : Int) + 0 ≤ p0.toInt := x1_0
    have q10 : p0.toInt + 0 ≤ (255 : Int) := x1_1
    have xv1 : v1 = 1 := by have h := xr1; exact h
    have d11 : dkN [(0, 255)] p0 := dkN_eq1 (dkN_top p0) a1_0 rfl rfl
    refine lv_if_ne (tgt := 14) hx hb dX6_feed_8 (by decide) (fun c12 => ?_) (fun c12 => ?_)
    ·
      refine lv_aload_n hx hb dX6_feed_14 rfl (lv_at hl 0 rfl) ?_
      refine dk_get (k := 340) hx hb hts iX6_feed_6 hown hK (dk_at340 hW) rfl 6 (by decide) (hts (.fieldLink RX6 82 "DogKingsModel" "taped" "I") (List.mem_of_getElem? (i := 2) rfl)) rfl dX6_feed_15 ?_
      refine lv_topi (fun v13 ev13 => ?_)
      have dv13 : dkN [(0, 90)] v13 := by rw [ev13]; exact (hO 340 6)
      have xv13 : v13 = I0 340 6 := ev13.trans rfl
      refine lv_bipush (v := 90) hx hb dX6_feed_18 (by decide) ?_
      refine lv_icmp_ne (tgt := 26) hx hb dX6_feed_20 (by decide) (fun c14 => ?_) (fun c14 => ?_)
      ·
        have q15 : (I0 340 6).toInt ≠ (90 : Int) := by first | (rw [← xv13]; exact (dk_ne c14)) | (subst xv13; exact (dk_ne c14))
        have d16 : dkN [(0, 89)] v13 := dkN_ne1 (90) dv13 (dkN_lit (x := 90) (90) rfl) (dk_ne c14) rfl
        have f17 : dkN [(0, 89)] (I0 340 6) := by rw [← ev13]; exact d16
        refine lv_aload_n hx hb dX6_feed_26 rfl (lv_at hl 0 rfl) ?_
        refine dk_get (k := 340) hx hb hts iX6_feed_6 hown hK (dk_at340 hW) rfl 5 (by decide) (hts (.fieldLink RX6 22 "DogKingsModel" "tape" "[I") (List.mem_of_getElem? (i := 4) rfl)) rfl dX6_feed_27 ?_
        refine lv_aload_n hx hb dX6_feed_30 rfl (lv_at hl 0 rfl) ?_
        refine dk_get (k := 340) hx hb hts iX6_feed_6 hown hK (dk_at340 hW) rfl 6 (by decide) (hts (.fieldLink RX6 82 "DogKingsModel" "taped" "I") (List.mem_of_getElem? (i := 2) rfl)) rfl dX6_feed_31 ?_
        refine lv_topi (fun v18 ev18 => ?_)
        have dv18 : dkN [(0, 89)] v18 := by rw [ev18]; exact f17
        have xv18 : v18 = I0 340 6 := ev18.trans rfl
        refine lv_iload_n hx hb dX6_feed_34 rfl (lv_at hl 1 rfl) ?_
        refine dk_ist (k := 345) hx hb hK hW (fun _ => rfl) (by decide) hS (dkN_in (n := 90) dv18 rfl) dX6_feed_35 (fun I19 H19 L19 eI19 hW hS => ?_)
        have hO := dkO_set hO eI19 (dkN_sub d11 rfl)
        have hF := dkF_set hF eI19 (dkIn_v dv18 rfl)
        refine lv_aload_n hx hb dX6_feed_36 rfl (lv_at hl 0 rfl) ?_
        refine lv_dup hx hb dX6_feed_37 rfl ?_
        refine dk_get (k := 340) hx hb hts iX6_feed_6 hown hK (dk_at340 hW) rfl 6 (by decide) (hts (.fieldLink RX6 82 "DogKingsModel" "taped" "I") (List.mem_of_getElem? (i := 2) rfl)) rfl dX6_feed_38 ?_
        refine lv_topi (fun v20 ev20 => ?_)
        have dv20 : dkN [(0, 89)] v20 := by rw [ev20]; exact (by rw [eI19, dkU_n (by decide)]; exact f17)
        have xv20 : v20 = I0 340 6 := ev20.trans ((by rw [eI19, dkU_n (by decide)] : I19 340 6 = _).trans rfl)
        refine lv_iconst (v := 1) hx hb dX6_feed_41 (by decide) ?_
        refine lv_iadd hx hb dX6_feed_42 ?_
        refine lv_topi (fun v21 ev21 => ?_)
        have dv21 : dkN [(1, 90)] v21 := by rw [ev21]; exact dkN_add dv20 (dkN_lit (x := 1) (1) rfl) rfl
        have xv21 : v21 = (I0 340 6) + (1 : Int32) := by rw [ev21, xv20]
        have q22 : ((I0 340 6) + (1 : Int32)).toInt = (I0 340 6).toInt + (1 : Int) := by first | (rw [← xv21, ← xv20]; exact (by rw [ev21]; exact dk_addE dv20 (dkN_lit (x := 1) (1) rfl) rfl)) | (subst xv21 xv20; exact (by rw [ev21]; exact dk_addE dv20 (dkN_lit (x := 1) (1) rfl) rfl))
        refine dk_put (k := 340) hx hb hts iX6_feed_6 tyX6 tyX6_ok nmX6 hown hK hW (dk_at340 hW) hS rfl 6 (by decide) (hts (.fieldLink RX6 82 "DogKingsModel" "taped" "I") (List.mem_of_getElem? (i := 2) rfl)) rfl rfl (Nat.le_of_ble_eq_true rfl) rfl dX6_feed_43 (fun I23 H23 L23 eI23 hW hS => ?_)
        have eI23 : I23 = dkU I19 340 6 v21 := eI23
        have hO := dkO_set hO eI23 (dkN_sub dv21 rfl)
        have hF := dkF_set hF eI23 rfl
        refine lv_aload_n hx hb dX6_feed_46 rfl (lv_at hl 0 rfl) ?_
        refine dk_get (k := 340) hx hb hts iX6_feed_6 hown hK (dk_at340 hW) rfl 6 (by decide) (hts (.fieldLink RX6 82 "DogKingsModel" "taped" "I") (List.mem_of_getElem? (i := 2) rfl)) rfl dX6_feed_47 ?_
        refine lv_topi (fun v24 ev24 => ?_)
        have dv24 : dkN [(1, 90)] v24 := by rw [ev24]; exact (by rw [eI23, dkU_ss]; exact dv21)
        have xv24 : v24 = (I0 340 6) + (1 : Int32) := ev24.trans (by rw [eI23, dkU_ss, xv21])
        exact W.iret (v := v24) hx hb hr (fun t ht hW9 => ⟨⟨v24, I23, rfl, ⟨hF, hO, Or.inr (Or.inr (Or.inl ⟨dkN_sub dv24 rfl, dkN_sub d11 rfl, (show dkN [(1, 90)] (I23 340 6) from dkN_sub (by rw [eI23, dkU_ss]; exact dv21) rfl), q9, q10, q15, q22, xv24, (by rw [eI23, dkU_ss, xv21]), ((by rw [eI23, dkU_n (by decide)] : I23 345 = _).trans (by rw [eI19, dkU_s, show (I0 345) = I0 345 from rfl, xv18])), trivial⟩))⟩, dkW_eq ht hW⟩, hS.F ht⟩) hS.2.2 dX6_feed_50
      ·
        have q25 : (I0 340 6).toInt = (90 : Int) := by first | (rw [← xv13]; exact (congrArg Int32.toInt c14)) | (subst xv13; exact (congrArg Int32.toInt c14))
        have d26 : dkN [(90, 90)] v13 := dkN_eq1 dv13 (dkN_lit (x := 90) (90) rfl) (congrArg Int32.toInt c14) rfl
        have f27 : dkN [(90, 90)] (I0 340 6) := by rw [← ev13]; exact d26
        refine lv_ldc (v := (-1000003)) hx hb hown (hts (.constant RX6 85 (-1000003)) (List.mem_of_getElem? (i := 3) rfl)) dX6_feed_23 ?_
        exact W.iret (v := (-1000003)) hx hb hr (fun t ht hW9 => ⟨⟨(-1000003), I0, rfl, ⟨hF, hO, Or.inr (Or.inr (Or.inr (⟨dkN_sub (dkN_lit (x := (-1000003)) (-1000003) rfl) rfl, dkN_sub d11 rfl, (show dkN [(90, 90)] (I0 340 6) from dkN_sub f27 rfl), q9, q10, q25, rfl, rfl, rfl, trivial⟩)))⟩, dkW_eq ht hW⟩, hS.F ht⟩) hS.2.2 dX6_feed_25
    ·
      exact (dkN_nil (show dkN [] v1 from dkN_eq1 dv1 (dkN_lit (x := 0) (0) rfl) (congrArg Int32.toInt c12) rfl)).elim
set_option maxHeartbeats 4000000 in
set_option maxRecDepth 100000 in
theorem fx_X2_coming_1 (l : Launch) (g : dkG) (z : Nat) (I0 : dkI)  (hO : dkOk I0) : Met l yX2_coming wsX2_coming (dkR 0) (dkPc g z [.ref (z + 12)] I0) (dkQi g z (fun r I1 => dkF [] I0 I1 ∧ dkOk I1 ∧ ((dkN [(-1000000, -1000000)] r ∧ (I0 12 1).toInt + 0 ≤ (I0 12 2).toInt ∧ r = (-1000000) ∧ True) ∨ (dkN [(0, 255)] r ∧ dkN [(1, 90)] (I1 12 1) ∧ dkN [(0, 89)] (I1 12 2) ∧ (I0 12 2).toInt + 1 ≤ (I0 12 1).toInt ∧ r = I0 13 (Int32.toNatClampNeg (I0 12 2)) ∧ True)))) 0 0 (dkA z) := by
  refine Met.ofW (cc := cX2_coming) (maxL := 1) (ret := (some .int)) (by decide) rfl ?_
  intro p e s m args below meth c s₁ B hml hv
  obtain ⟨ha, hW, hK, hT⟩ := hv
  have hx := B.exec
  have hb := B.bytes
  have hr := B.returns
  have hts := atoms_spec (ws := wsX2_coming) B.pre
  have hown : s.vm.findClass RX2 = some m.cls := findClass_of_methodNamed B.named
  have hlocks := B.notSynchronized
  have hS : va_S (dkA z) s.heap s.heap [] := va_S.rf
  have hF : dkF [] I0 I0 := dkF_rf _ _
  have hl := lv_entry ([.ref (z + 12)]) (n := 1) (Nat.le_of_ble_eq_true rfl)
  have hgo : entryFrame m args 1 = entryFrame m ([.ref (z + 12)] : List Value).toArray 1 := by rw [ha]
  rw [hgo, lg_entry_eq]
  generalize (lg_sl ([.ref (z + 12)]) ++ List.replicate (1 - (lg_sl ([.ref (z + 12)])).length) Slot.unset).toArray = ls at hl ⊢
  have hl : lv_has ls 1 [(0, .ref (z + 12))] := hl
  refine lv_aload_n hx hb dX2_coming_0 rfl (lv_at hl 0 rfl) ?_
  refine dk_get (k := 12) hx hb hts iX2_coming_2 hown hK (dk_at12 hW) rfl 2 (by decide) (hts (.fieldLink RX2 30 "DogKings$Reader" "at" "I") (List.mem_of_getElem? (i := 1) rfl)) rfl dX2_coming_1 ?_
  refine lv_topi (fun v1 ev1 => ?_)
  have dv1 : dkN [(0, 90)] v1 := by rw [ev1]; exact (hO 12 2)
  have xv1 : v1 = I0 12 2 := ev1.trans rfl
  refine lv_aload_n hx hb dX2_coming_4 rfl (lv_at hl 0 rfl) ?_
  refine dk_get (k := 12) hx hb hts iX2_coming_2 hown hK (dk_at12 hW) rfl 1 (by decide) (hts (.fieldLink RX2 22 "DogKings$Reader" "bytes" "I") (List.mem_of_getElem? (i := 2) rfl)) rfl dX2_coming_5 ?_
  refine lv_topi (fun v2 ev2 => ?_)
  have dv2 : dkN [(0, 90)] v2 := by rw [ev2]; exact (hO 12 1)
  have xv2 : v2 = I0 12 1 := ev2.trans rfl
  refine lv_icmp_ge (tgt := 23) hx hb dX2_coming_8 (by decide) (fun c3 => ?_) (fun c3 => ?_)
  ·
    have q4 : (I0 12 1).toInt + 0 ≤ (I0 12 2).toInt := by first | (rw [← xv2, ← xv1]; exact (dkc_le c3)) | (subst xv2 xv1; exact (dkc_le c3))
    refine lv_ldc (v := (-1000000)) hx hb hown (hts (.constant RX2 50 (-1000000)) (List.mem_of_getElem? (i := 4) rfl)) dX2_coming_23 ?_
    exact W.iret (v := (-1000000)) hx hb hr (fun t ht hW9 => ⟨⟨(-1000000), I0, rfl, ⟨hF, hO, Or.inl ⟨dkN_sub (dkN_lit (x := (-1000000)) (-1000000) rfl) rfl, q4, rfl, trivial⟩⟩, dkW_eq ht hW⟩, hS.F ht⟩) hS.2.2 dX2_coming_25
  ·
    have q5 : (I0 12 2).toInt + 1 ≤ (I0 12 1).toInt := by first | (rw [← xv2, ← xv1]; exact (dkc_nle c3)) | (subst xv2 xv1; exact (dkc_nle c3))
    have d6 : dkN [(1, 90)] v2 := dkN_le2 1 dv1 dv2 (dkc_nle c3) rfl
    have f7 : dkN [(1, 90)] (I0 12 1) := by rw [← ev2]; exact d6
    have d8 : dkN [(0, 89)] v1 := dkN_le1 1 dv1 dv2 (dkc_nle c3) rfl
    have f9 : dkN [(0, 89)] (I0 12 2) := by rw [← ev1]; exact d8
    refine lv_aload_n hx hb dX2_coming_11 rfl (lv_at hl 0 rfl) ?_
    refine dk_get (k := 12) hx hb hts iX2_coming_2 hown hK (dk_at12 hW) rfl 0 (by decide) (hts (.fieldLink RX2 11 "DogKings$Reader" "tape" "[I") (List.mem_of_getElem? (i := 3) rfl)) rfl dX2_coming_12 ?_
    refine lv_aload_n hx hb dX2_coming_15 rfl (lv_at hl 0 rfl) ?_
    refine dk_get (k := 12) hx hb hts iX2_coming_2 hown hK (dk_at12 hW) rfl 2 (by decide) (hts (.fieldLink RX2 30 "DogKings$Reader" "at" "I") (List.mem_of_getElem? (i := 1) rfl)) rfl dX2_coming_16 ?_
    refine lv_topi (fun v10 ev10 => ?_)
    have dv10 : dkN [(0, 89)] v10 := by rw [ev10]; exact f9
    have xv10 : v10 = I0 12 2 := ev10.trans rfl
    refine dk_ild (k := 13) hx hb hK (dk_at13 hW) (dkN_in (n := 90) dv10 rfl) dX2_coming_19 ?_
    refine lv_topi (fun v11 ev11 => ?_)
    have dv11 : dkN [(0, 255)] v11 := by rw [ev11]; exact (hO 13 _)
    have xv11 : v11 = I0 13 (Int32.toNatClampNeg (I0 12 2)) := ev11.trans (by rw [xv10])
    refine lv_goto (tgt := 25) hx hb dX2_coming_20 (by decide) ?_
    exact W.iret (v := v11) hx hb hr (fun t ht hW9 => ⟨⟨v11, I0, rfl, ⟨hF, hO, Or.inr (⟨dkN_sub dv11 rfl, (show dkN [(1, 90)] (I0 12 1) from dkN_sub f7 rfl), (show dkN [(0, 89)] (I0 12 2) from dkN_sub f9 rfl), q5, xv11, trivial⟩)⟩, dkW_eq ht hW⟩, hS.F ht⟩) hS.2.2 dX2_coming_25
set_option maxHeartbeats 4000000 in
set_option maxRecDepth 100000 in
theorem fx_X2_meets_3 (l : Launch) (g : dkG) (z : Nat) (I0 : dkI) (p0 : Int32) (dp0 : dkN [(1, 1)] p0)  (hO : dkOk I0) : Met l yX2_meets wsX2_meets (dkR 0) (dkPc g z [.ref (z + 12), .int p0] I0) (dkQi g z (fun r I1 => dkF [(12, 12, 4, 5)] I0 I1 ∧ dkOk I1 ∧ ((dkN [(0, 0)] r ∧ dkN [(0, 90)] (I1 12 4) ∧ dkN [(1, 1)] (I1 12 5) ∧ r = 0 ∧ I1 12 2 = I0 12 2 ∧ I1 12 4 = I0 12 2 ∧ I1 12 5 = p0 ∧ True)))) 0 0 (dkA z) := by
  refine Met.ofW (cc := cX2_meets) (maxL := 2) (ret := (some .boolean)) (by decide) rfl ?_
  intro p e s m args below meth c s₁ B hml hv
  obtain ⟨ha, hW, hK, hT⟩ := hv
  have hx := B.exec
  have hb := B.bytes
  have hr := B.returns
  have hts := atoms_spec (ws := wsX2_meets) B.pre
  have hown : s.vm.findClass RX2 = some m.cls := findClass_of_methodNamed B.named
  have hlocks := B.notSynchronized
  have hS : va_S (dkA z) s.heap s.heap [] := va_S.rf
  have hF : dkF [(12, 12, 4, 5)] I0 I0 := dkF_rf _ _
  have hl := lv_entry ([.ref (z + 12), .int p0]) (n := 2) (Nat.le_of_ble_eq_true rfl)
  have hgo : entryFrame m args 2 = entryFrame m ([.ref (z + 12), .int p0] : List Value).toArray 2 := by rw [ha]
  rw [hgo, lg_entry_eq]
  generalize (lg_sl ([.ref (z + 12), .int p0]) ++ List.replicate (2 - (lg_sl ([.ref (z + 12), .int p0])).length) Slot.unset).toArray = ls at hl ⊢
  have hl : lv_has ls 2 [(0, .ref (z + 12)), (1, .int p0)] := hl
  refine lv_aload_n hx hb dX2_meets_0 rfl (lv_at hl 0 rfl) ?_
  refine lv_aload_n hx hb dX2_meets_1 rfl (lv_at hl 0 rfl) ?_
  refine dk_get (k := 12) hx hb hts iX2_meets_2 hown hK (dk_at12 hW) rfl 2 (by decide) (hts (.fieldLink RX2 30 "DogKings$Reader" "at" "I") (List.mem_of_getElem? (i := 1) rfl)) rfl dX2_meets_2 ?_
  refine lv_topi (fun v1 ev1 => ?_)
  have dv1 : dkN [(0, 90)] v1 := by rw [ev1]; exact (hO 12 2)
  have xv1 : v1 = I0 12 2 := ev1.trans rfl
  refine dk_put (k := 12) hx hb hts iX2_meets_2 tyX2 tyX2_ok nmX2 hown hK hW (dk_at12 hW) hS rfl 4 (by decide) (hts (.fieldLink RX2 88 "DogKings$Reader" "faultPlace" "I") (List.mem_of_getElem? (i := 2) rfl)) rfl rfl (Nat.le_of_ble_eq_true rfl) rfl dX2_meets_5 (fun I2 H2 L2 eI2 hW hS => ?_)
  have eI2 : I2 = dkU I0 12 4 v1 := eI2
  have hO := dkO_set hO eI2 (dkN_sub dv1 rfl)
  have hF := dkF_set hF eI2 rfl
  refine lv_aload_n hx hb dX2_meets_8 rfl (lv_at hl 0 rfl) ?_
  refine lv_iload_n hx hb dX2_meets_9 rfl (lv_at hl 1 rfl) ?_
  refine dk_put (k := 12) hx hb hts iX2_meets_2 tyX2 tyX2_ok nmX2 hown hK hW (dk_at12 hW) hS rfl 5 (by decide) (hts (.fieldLink RX2 91 "DogKings$Reader" "faultNumber" "I") (List.mem_of_getElem? (i := 3) rfl)) rfl rfl (Nat.le_of_ble_eq_true rfl) rfl dX2_meets_10 (fun I3 H3 L3 eI3 hW hS => ?_)
  have eI3 : I3 = dkU I2 12 5 p0 := eI3
  have hO := dkO_set hO eI3 (dkN_sub dp0 rfl)
  have hF := dkF_set hF eI3 rfl
  refine lv_iconst (v := 0) hx hb dX2_meets_13 (by decide) ?_
  exact W.zret (v := 0) (ty := .boolean) hx hb hr rfl (fun t ht hW9 => ⟨⟨0, I3, rfl, ⟨hF, hO, ⟨dkN_sub (dkN_lit (x := 0) (0) rfl) rfl, (show dkN [(0, 90)] (I3 12 4) from dkN_sub (by rw [eI3, dkU_sn (by decide)]; exact (by rw [eI2, dkU_ss]; exact dv1)) rfl), (show dkN [(1, 1)] (I3 12 5) from dkN_sub (by rw [eI3, dkU_ss]; exact dp0) rfl), rfl, ((by rw [eI3, dkU_sn (by decide)] : I3 12 2 = _).trans ((by rw [eI2, dkU_sn (by decide)] : I2 12 2 = _).trans rfl)), ((by rw [eI3, dkU_sn (by decide)] : I3 12 4 = _).trans (by rw [eI2, dkU_ss, xv1])), (by rw [eI3, dkU_ss]), trivial⟩⟩, dkW_eq ht hW⟩, hS.F ht⟩) hS.2.2 dX2_meets_14
set_option maxHeartbeats 4000000 in
set_option maxRecDepth 100000 in
theorem fx_X2_takes_4 (l : Launch) (g : dkG) (z : Nat) (I0 : dkI) (p0 : Int32) (dp0 : dkN [(116, 116)] p0)  (hO : dkOk I0) : Met l yX2_takes wsX2_takes (dkR 1) (dkPc g z [.ref (z + 12), .int p0] I0) (dkQi g z (fun r I1 => dkF [(12, 12, 2, 2), (12, 12, 4, 5)] I0 I1 ∧ dkOk I1 ∧ ((dkN [(0, 0)] r ∧ dkN [(0, 90)] (I1 12 4) ∧ dkN [(1, 1)] (I1 12 5) ∧ (I0 12 1).toInt + 0 ≤ (I0 12 2).toInt ∧ (-1000000 : Int) ≠ p0.toInt ∧ r = 0 ∧ I1 12 2 = I0 12 2 ∧ I1 12 4 = I0 12 2 ∧ I1 12 5 = 1 ∧ True) ∨ (dkN [(1, 1)] r ∧ dkN [(1, 90)] (I1 12 1) ∧ dkN [(1, 90)] (I1 12 2) ∧ (I0 12 2).toInt + 1 ≤ (I0 12 1).toInt ∧ (I0 13 (Int32.toNatClampNeg (I0 12 2))).toInt = p0.toInt ∧ ((I0 12 2) + (1 : Int32)).toInt = (I0 12 2).toInt + (1 : Int) ∧ r = 1 ∧ I1 12 2 = (I0 12 2) + (1 : Int32) ∧ I1 12 4 = I0 12 4 ∧ I1 12 5 = I0 12 5 ∧ True) ∨ (dkN [(0, 0)] r ∧ dkN [(1, 90)] (I1 12 1) ∧ dkN [(0, 89)] (I1 12 2) ∧ dkN [(0, 90)] (I1 12 4) ∧ dkN [(1, 1)] (I1 12 5) ∧ (I0 12 2).toInt + 1 ≤ (I0 12 1).toInt ∧ (I0 13 (Int32.toNatClampNeg (I0 12 2))).toInt ≠ p0.toInt ∧ r = 0 ∧ I1 12 2 = I0 12 2 ∧ I1 12 4 = I0 12 2 ∧ I1 12 5 = 1 ∧ True)))) 0 0 (dkA z) := by
  refine Met.ofW (cc := cX2_takes) (maxL := 2) (ret := (some .boolean)) (by decide) rfl ?_
  intro p e s m args below meth c s₁ B hml hv
  obtain ⟨ha, hW, hK, hT⟩ := hv
  have hx := B.exec
  have hb := B.bytes
  have hr := B.returns
  have hts := atoms_spec (ws := wsX2_takes) B.pre
  have hown : s.vm.findClass RX2 = some m.cls := findClass_of_methodNamed B.named
  have hlocks := B.notSynchronized
  have hS : va_S (dkA z) s.heap s.heap [] := va_S.rf
  have hF : dkF [(12, 12, 2, 2), (12, 12, 4, 5)] I0 I0 := dkF_rf _ _
  have hl := lv_entry ([.ref (z + 12), .int p0]) (n := 2) (Nat.le_of_ble_eq_true rfl)
  have hgo : entryFrame m args 2 = entryFrame m ([.ref (z + 12), .int p0] : List Value).toArray 2 := by rw [ha]
  rw [hgo, lg_entry_eq]
  generalize (lg_sl ([.ref (z + 12), .int p0]) ++ List.replicate (2 - (lg_sl ([.ref (z + 12), .int p0])).length) Slot.unset).toArray = ls at hl ⊢
  have hl : lv_has ls 2 [(0, .ref (z + 12)), (1, .int p0)] := hl
  refine lv_aload_n hx hb dX2_takes_0 rfl (lv_at hl 0 rfl) ?_
  refine dk_Vi (As := []) (rest := []) ⟨hx, hb, hml, hown, hts⟩ (fx_X2_coming_1 l g z I0 hO) (cwV 0 hts gX2_takes_X2_coming rfl rfl rfl (by decide +kernel) ⟨Nat.le_of_ble_eq_true rfl, Nat.le_of_ble_eq_true rfl⟩) (dk_at12 hW) rfl hK hT hW hS rfl hl.1 rfl (Nat.le_of_ble_eq_true rfl) dX2_takes_1 ⟨Nat.zero_le _, Nat.zero_le _⟩ (fun v1 I1 H1 L1 hp1 hW hS => ?_)
  obtain ⟨hF1, hO, hc1⟩ := hp1
  have hF := dkF_call hF hF1 rfl
  have eI1 : I0 = I1 := (dkF_nil hF1).symm
  subst eI1
  rcases hc1 with ⟨dv1, x1_0, xr1, -⟩ | hc1
  ·
    have q2 : (I0 12 1).toInt + 0 ≤ (I0 12 2).toInt := x1_0
    have xv1 : v1 = (-1000000) := by have h := xr1; exact h
    refine lv_iload_n hx hb dX2_takes_4 rfl (lv_at hl 1 rfl) ?_
    refine lv_icmp_eq (tgt := 14) hx hb dX2_takes_5 (by decide) (fun c3 => ?_) (fun c3 => ?_)
    ·
      exact (dkN_nil (show dkN [] v1 from dkN_eq1 dv1 dp0 (congrArg Int32.toInt c3) rfl)).elim
    ·
      have q4 : (-1000000 : Int) ≠ p0.toInt := by first | (rw [← xv1]; exact (dk_ne c3)) | (subst xv1; exact (dk_ne c3))
      refine lv_aload_n hx hb dX2_takes_8 rfl (lv_at hl 0 rfl) ?_
      refine lv_iconst (v := 1) hx hb dX2_takes_9 (by decide) ?_
      refine dk_Vi (As := [.int 1]) (rest := []) ⟨hx, hb, hml, hown, hts⟩ (fx_X2_meets_3 l g z I0 1 (dkN_lit (x := 1) (1) rfl) hO) (cwV 1 hts gX2_takes_X2_meets rfl rfl rfl (by decide +kernel) ⟨Nat.le_of_ble_eq_true rfl, Nat.le_of_ble_eq_true rfl⟩) (dk_at12 hW) rfl hK hT hW hS rfl hl.1 rfl (Nat.le_of_ble_eq_true rfl) dX2_takes_10 ⟨Nat.zero_le _, Nat.zero_le _⟩ (fun v5 I5 H5 L5 hp5 hW hS => ?_)
      obtain ⟨hF5, hO, hc5⟩ := hp5
      have hF := dkF_call hF hF5 rfl
      obtain ⟨dv5, f5_12_4, f5_12_5, xr5, xh5_0, xh5_1, xh5_2, -⟩ := hc5
      have y6 : I5 12 2 = I0 12 2 := by have h := xh5_0; exact h
      have y7 : I5 12 4 = I0 12 2 := by have h := xh5_1; exact h
      have y8 : I5 12 5 = 1 := by have h := xh5_2; exact h
      have xv5 : v5 = 0 := by have h := xr5; exact h
      exact W.zret (v := v5) (ty := .boolean) hx hb hr (dkN_zr dv5 rfl) (fun t ht hW9 => ⟨⟨v5, I5, rfl, ⟨hF, hO, Or.inl ⟨dkN_sub dv5 rfl, (show dkN [(0, 90)] (I5 12 4) from dkN_sub f5_12_4 rfl), (show dkN [(1, 1)] (I5 12 5) from dkN_sub f5_12_5 rfl), q2, q4, xv5, y6, y7, y8, trivial⟩⟩, dkW_eq ht hW⟩, hS.F ht⟩) hS.2.2 dX2_takes_13
  ·
    obtain ⟨dv1, f1_12_1, f1_12_2, x1_0, xr1, -⟩ := hc1
    have q9 : (I0 12 2).toInt + 1 ≤ (I0 12 1).toInt := x1_0
    have xv1 : v1 = I0 13 (Int32.toNatClampNeg (I0 12 2)) := by have h := xr1; exact h
    refine lv_iload_n hx hb dX2_takes_4 rfl (lv_at hl 1 rfl) ?_
    refine lv_icmp_eq (tgt := 14) hx hb dX2_takes_5 (by decide) (fun c10 => ?_) (fun c10 => ?_)
    ·
      have q11 : (I0 13 (Int32.toNatClampNeg (I0 12 2))).toInt = p0.toInt := by first | (rw [← xv1]; exact (congrArg Int32.toInt c10)) | (subst xv1; exact (congrArg Int32.toInt c10))
      have d12 : dkN [(116, 116)] v1 := dkN_eq1 dv1 dp0 (congrArg Int32.toInt c10) rfl
      refine lv_aload_n hx hb dX2_takes_14 rfl (lv_at hl 0 rfl) ?_
      refine lv_dup hx hb dX2_takes_15 rfl ?_
      refine dk_get (k := 12) hx hb hts iX2_takes_2 hown hK (dk_at12 hW) rfl 2 (by decide) (hts (.fieldLink RX2 30 "DogKings$Reader" "at" "I") (List.mem_of_getElem? (i := 1) rfl)) rfl dX2_takes_16 ?_
      refine lv_topi (fun v13 ev13 => ?_)
      have dv13 : dkN [(0, 89)] v13 := by rw [ev13]; exact f1_12_2
      have xv13 : v13 = I0 12 2 := ev13.trans rfl
      refine lv_iconst (v := 1) hx hb dX2_takes_19 (by decide) ?_
      refine lv_iadd hx hb dX2_takes_20 ?_
      refine lv_topi (fun v14 ev14 => ?_)
      have dv14 : dkN [(1, 90)] v14 := by rw [ev14]; exact dkN_add dv13 (dkN_lit (x := 1) (1) rfl) rfl
      have xv14 : v14 = (I0 12 2) + (1 : Int32) := by rw [ev14, xv13]
      have q15 : ((I0 12 2) + (1 : Int32)).toInt = (I0 12 2).toInt + (1 : Int) := by first | (rw [← xv14, ← xv13]; exact (by rw [ev14]; exact dk_addE dv13 (dkN_lit (x := 1) (1) rfl) rfl)) | (subst xv14 xv13; exact (by rw [ev14]; exact dk_addE dv13 (dkN_lit (x := 1) (1) rfl) rfl))
      refine dk_put (k := 12) hx hb hts iX2_takes_2 tyX2 tyX2_ok nmX2 hown hK hW (dk_at12 hW) hS rfl 2 (by decide) (hts (.fieldLink RX2 30 "DogKings$Reader" "at" "I") (List.mem_of_getElem? (i := 1) rfl)) rfl rfl (Nat.le_of_ble_eq_true rfl) rfl dX2_takes_21 (fun I16 H16 L16 eI16 hW hS => ?_)
      have eI16 : I16 = dkU I0 12 2 v14 := eI16
      have hO := dkO_set hO eI16 (dkN_sub dv14 rfl)
      have hF := dkF_set hF eI16 rfl
      refine lv_iconst (v := 1) hx hb dX2_takes_24 (by decide) ?_
      exact W.zret (v := 1) (ty := .boolean) hx hb hr rfl (fun t ht hW9 => ⟨⟨1, I16, rfl, ⟨hF, hO, Or.inr (Or.inl ⟨dkN_sub (dkN_lit (x := 1) (1) rfl) rfl, (show dkN [(1, 90)] (I16 12 1) from dkN_sub (by rw [eI16, dkU_sn (by decide)]; exact f1_12_1) rfl), (show dkN [(1, 90)] (I16 12 2) from dkN_sub (by rw [eI16, dkU_ss]; exact dv14) rfl), q9, q11, q15, rfl, (by rw [eI16, dkU_ss, xv14]), ((by rw [eI16, dkU_sn (by decide)] : I16 12 4 = _).trans rfl), ((by rw [eI16, dkU_sn (by decide)] : I16 12 5 = _).trans rfl), trivial⟩)⟩, dkW_eq ht hW⟩, hS.F ht⟩) hS.2.2 dX2_takes_25
    ·
      have q17 : (I0 13 (Int32.toNatClampNeg (I0 12 2))).toInt ≠ p0.toInt := by first | (rw [← xv1]; exact (dk_ne c10)) | (subst xv1; exact (dk_ne c10))
      have d18 : dkN [(0, 115), (117, 255)] v1 := dkN_ne1 (116) dv1 dp0 (dk_ne c10) rfl
      refine lv_aload_n hx hb dX2_takes_8 rfl (lv_at hl 0 rfl) ?_
      refine lv_iconst (v := 1) hx hb dX2_takes_9 (by decide) ?_
      refine dk_Vi (As := [.int 1]) (rest := []) ⟨hx, hb, hml, hown, hts⟩ (fx_X2_meets_3 l g z I0 1 (dkN_lit (x := 1) (1) rfl) hO) (cwV 1 hts gX2_takes_X2_meets rfl rfl rfl (by decide +kernel) ⟨Nat.le_of_ble_eq_true rfl, Nat.le_of_ble_eq_true rfl⟩) (dk_at12 hW) rfl hK hT hW hS rfl hl.1 rfl (Nat.le_of_ble_eq_true rfl) dX2_takes_10 ⟨Nat.zero_le _, Nat.zero_le _⟩ (fun v19 I19 H19 L19 hp19 hW hS => ?_)
      obtain ⟨hF19, hO, hc19⟩ := hp19
      have hF := dkF_call hF hF19 rfl
      obtain ⟨dv19, f19_12_4, f19_12_5, xr19, xh19_0, xh19_1, xh19_2, -⟩ := hc19
      have y20 : I19 12 2 = I0 12 2 := by have h := xh19_0; exact h
      have y21 : I19 12 4 = I0 12 2 := by have h := xh19_1; exact h
      have y22 : I19 12 5 = 1 := by have h := xh19_2; exact h
      have xv19 : v19 = 0 := by have h := xr19; exact h
      exact W.zret (v := v19) (ty := .boolean) hx hb hr (dkN_zr dv19 rfl) (fun t ht hW9 => ⟨⟨v19, I19, rfl, ⟨hF, hO, Or.inr (Or.inr (⟨dkN_sub dv19 rfl, (show dkN [(1, 90)] (I19 12 1) from dkN_sub (by rw [hF19 12 1 rfl]; exact f1_12_1) rfl), (show dkN [(0, 89)] (I19 12 2) from dkN_sub (by rw [hF19 12 2 rfl]; exact f1_12_2) rfl), (show dkN [(0, 90)] (I19 12 4) from dkN_sub f19_12_4 rfl), (show dkN [(1, 1)] (I19 12 5) from dkN_sub f19_12_5 rfl), q9, q17, xv19, y20, y21, y22, trivial⟩))⟩, dkW_eq ht hW⟩, hS.F ht⟩) hS.2.2 dX2_takes_13
set_option maxHeartbeats 4000000 in
set_option maxRecDepth 100000 in
theorem h_X2_takes_0 (l : Launch) (g : dkG) (z : Nat) (I0 : dkI) (p0 : Int32) (dp0 : dkN [(116, 116)] p0) (hO : dkOk I0) : Met l yX2_takes wsX2_takes (dkR 1) (dkPc g z [.ref (z + 12), .int p0] I0) (dkQi g z (fun r I1 => dkF [(12, 12, 2, 2), (12, 12, 4, 5)] I0 I1 ∧ dkOk I1 ∧ ((dkN [(1, 1)] r ∧ dkN [(1, 90)] (I1 12 1) ∧ dkN [(1, 90)] (I1 12 2) ∧ (dkSg (I0 13) (I0 12 1) p0 (I0 12 2)).1 = 0 ∧ r = 1 ∧ I1 12 2 = (dkSg (I0 13) (I0 12 1) p0 (I0 12 2)).2 ∧ I1 12 5 = I0 12 5 ∧ True) ∨ (dkN [(0, 0)] r ∧ (dkSg (I0 13) (I0 12 1) p0 (I0 12 2)).1 ≠ 0 ∧ r = 0 ∧ I1 12 4 = (dkSg (I0 13) (I0 12 1) p0 (I0 12 2)).2 ∧ I1 12 5 = (dkSg (I0 13) (I0 12 1) p0 (I0 12 2)).1 ∧ True)))) 0 0 (dkA z) := by
  refine dk_weakI (fx_X2_takes_4 l g z I0 p0 dp0 hO) (fun r I1 h => ?_)
  obtain ⟨hF, hO1, hc⟩ := h
  refine ⟨hF, hO1, ?_⟩
  rcases hc with ⟨d, G0, G1, u0, u1, ER, H12_2, H12_4, H12_5, -⟩ | ⟨d, G0, G1, u0, u1, u2, ER, H12_2, H12_4, H12_5, -⟩ | ⟨d, G0, G1, G2, G3, u0, u1, ER, H12_2, H12_4, H12_5, -⟩
  ·
    have e : dkSg (I0 13) (I0 12 1) p0 (I0 12 2) = (1, I0 12 2) := dkSg_f (by omega)
    exact Or.inr ⟨dkN_sub d rfl, (dkE_k e (by decide)), ER, (H12_4.trans (congrArg Prod.snd e).symm), (H12_5.trans (congrArg Prod.fst e).symm), trivial⟩
  ·
    have e : dkSg (I0 13) (I0 12 1) p0 (I0 12 2) = (0, (I0 12 2) + (1 : Int32)) := dkSg_t (by omega) (by omega)
    exact Or.inl ⟨dkN_sub d rfl, dkN_sub G0 rfl, dkN_sub G1 rfl, (congrArg Prod.fst e), ER, (H12_2.trans (congrArg Prod.snd e).symm), H12_5, trivial⟩
  ·
    have e : dkSg (I0 13) (I0 12 1) p0 (I0 12 2) = (1, I0 12 2) := dkSg_f (by omega)
    exact Or.inr ⟨dkN_sub d rfl, (dkE_k e (by decide)), ER, (H12_4.trans (congrArg Prod.snd e).symm), (H12_5.trans (congrArg Prod.fst e).symm), trivial⟩
set_option maxHeartbeats 4000000 in
set_option maxRecDepth 100000 in
theorem fx_X2_isFigure_1 (l : Launch) (g : dkG) (z : Nat) (I0 : dkI) (p0 : Int32) (dp0 : dkN [(0, 255)] p0)  (hO : dkOk I0) : Met l yX2_isFigure wsX2_isFigure (dkR 0) (dkPc g z [.int p0] I0) (dkQi g z (fun r I1 => dkF [] I0 I1 ∧ dkOk I1 ∧ ((dkN [(0, 0)] r ∧ dkN [(0, 47)] p0 ∧ p0.toInt + 1 ≤ (48 : Int) ∧ r = 0 ∧ True) ∨ (dkN [(0, 0)] r ∧ dkN [(58, 255)] p0 ∧ (48 : Int) + 0 ≤ p0.toInt ∧ (57 : Int) + 1 ≤ p0.toInt ∧ r = 0 ∧ True) ∨ (dkN [(1, 1)] r ∧ dkN [(48, 57)] p0 ∧ (48 : Int) + 0 ≤ p0.toInt ∧ p0.toInt + 0 ≤ (57 : Int) ∧ r = 1 ∧ True)))) 0 0 (dkA z) := by
  refine Met.ofW (cc := cX2_isFigure) (maxL := 1) (ret := (some .boolean)) (by decide) rfl ?_
  intro p e s m args below meth c s₁ B hml hv
  obtain ⟨ha, hW, hK, hT⟩ := hv
  have hx := B.exec
  have hb := B.bytes
  have hr := B.returns
  have hts := atoms_spec (ws := wsX2_isFigure) B.pre
  have hown : s.vm.findClass RX2 = some m.cls := findClass_of_methodNamed B.named
  have hlocks := B.notSynchronized
  have hS : va_S (dkA z) s.heap s.heap [] := va_S.rf
  have hF : dkF [] I0 I0 := dkF_rf _ _
  have hl := lv_entry ([.int p0]) (n := 1) (Nat.le_of_ble_eq_true rfl)
  have hgo : entryFrame m args 1 = entryFrame m ([.int p0] : List Value).toArray 1 := by rw [ha]
  rw [hgo, lg_entry_eq]
  generalize (lg_sl ([.int p0]) ++ List.replicate (1 - (lg_sl ([.int p0])).length) Slot.unset).toArray = ls at hl ⊢
  have hl : lv_has ls 1 [(0, .int p0)] := hl
  refine lv_iload_n hx hb dX2_isFigure_0 rfl (lv_at hl 0 rfl) ?_
  refine lv_bipush (v := 48) hx hb dX2_isFigure_1 (by decide) ?_
  refine lv_icmp_lt (tgt := 16) hx hb dX2_isFigure_3 (by decide) (fun c1 => ?_) (fun c1 => ?_)
  ·
    have q2 : p0.toInt + 1 ≤ (48 : Int) := (dkc_lt c1)
    have d3 : dkN [(0, 47)] p0 := dkN_le1 1 dp0 (dkN_lit (x := 48) (48) rfl) (dkc_lt c1) rfl
    refine lv_iconst (v := 0) hx hb dX2_isFigure_16 (by decide) ?_
    exact W.zret (v := 0) (ty := .boolean) hx hb hr rfl (fun t ht hW9 => ⟨⟨0, I0, rfl, ⟨hF, hO, Or.inl ⟨dkN_sub (dkN_lit (x := 0) (0) rfl) rfl, dkN_sub d3 rfl, q2, rfl, trivial⟩⟩, dkW_eq ht hW⟩, hS.F ht⟩) hS.2.2 dX2_isFigure_17
  ·
    have q4 : (48 : Int) + 0 ≤ p0.toInt := (dkc_nlt c1)
    have d5 : dkN [(48, 255)] p0 := dkN_le2 0 (dkN_lit (x := 48) (48) rfl) dp0 (dkc_nlt c1) rfl
    refine lv_iload_n hx hb dX2_isFigure_6 rfl (lv_at hl 0 rfl) ?_
    refine lv_bipush (v := 57) hx hb dX2_isFigure_7 (by decide) ?_
    refine lv_icmp_gt (tgt := 16) hx hb dX2_isFigure_9 (by decide) (fun c6 => ?_) (fun c6 => ?_)
    ·
      have q7 : (57 : Int) + 1 ≤ p0.toInt := (dkc_lt c6)
      have d8 : dkN [(58, 255)] p0 := dkN_le2 1 (dkN_lit (x := 57) (57) rfl) d5 (dkc_lt c6) rfl
      refine lv_iconst (v := 0) hx hb dX2_isFigure_16 (by decide) ?_
      exact W.zret (v := 0) (ty := .boolean) hx hb hr rfl (fun t ht hW9 => ⟨⟨0, I0, rfl, ⟨hF, hO, Or.inr (Or.inl ⟨dkN_sub (dkN_lit (x := 0) (0) rfl) rfl, dkN_sub d8 rfl, q4, q7, rfl, trivial⟩)⟩, dkW_eq ht hW⟩, hS.F ht⟩) hS.2.2 dX2_isFigure_17
    ·
      have q9 : p0.toInt + 0 ≤ (57 : Int) := (dkc_nlt c6)
      have d10 : dkN [(48, 57)] p0 := dkN_le1 0 d5 (dkN_lit (x := 57) (57) rfl) (dkc_nlt c6) rfl
      refine lv_iconst (v := 1) hx hb dX2_isFigure_12 (by decide) ?_
      refine lv_goto (tgt := 17) hx hb dX2_isFigure_13 (by decide) ?_
      exact W.zret (v := 1) (ty := .boolean) hx hb hr rfl (fun t ht hW9 => ⟨⟨1, I0, rfl, ⟨hF, hO, Or.inr (Or.inr (⟨dkN_sub (dkN_lit (x := 1) (1) rfl) rfl, dkN_sub d10 rfl, q4, q9, rfl, trivial⟩))⟩, dkW_eq ht hW⟩, hS.F ht⟩) hS.2.2 dX2_isFigure_17
set_option maxHeartbeats 4000000 in
set_option maxRecDepth 100000 in
theorem fx_X2_meets_4 (l : Launch) (g : dkG) (z : Nat) (I0 : dkI) (p0 : Int32) (dp0 : dkN [(2, 2)] p0)  (hO : dkOk I0) : Met l yX2_meets wsX2_meets (dkR 0) (dkPc g z [.ref (z + 12), .int p0] I0) (dkQi g z (fun r I1 => dkF [(12, 12, 4, 5)] I0 I1 ∧ dkOk I1 ∧ ((dkN [(0, 0)] r ∧ dkN [(0, 90)] (I1 12 4) ∧ dkN [(2, 2)] (I1 12 5) ∧ r = 0 ∧ I1 12 2 = I0 12 2 ∧ I1 12 4 = I0 12 2 ∧ I1 12 5 = p0 ∧ True)))) 0 0 (dkA z) := by
  refine Met.ofW (cc := cX2_meets) (maxL := 2) (ret := (some .boolean)) (by decide) rfl ?_
  intro p e s m args below meth c s₁ B hml hv
  obtain ⟨ha, hW, hK, hT⟩ := hv
  have hx := B.exec
  have hb := B.bytes
  have hr := B.returns
  have hts := atoms_spec (ws := wsX2_meets) B.pre
  have hown : s.vm.findClass RX2 = some m.cls := findClass_of_methodNamed B.named
  have hlocks := B.notSynchronized
  have hS : va_S (dkA z) s.heap s.heap [] := va_S.rf
  have hF : dkF [(12, 12, 4, 5)] I0 I0 := dkF_rf _ _
  have hl := lv_entry ([.ref (z + 12), .int p0]) (n := 2) (Nat.le_of_ble_eq_true rfl)
  have hgo : entryFrame m args 2 = entryFrame m ([.ref (z + 12), .int p0] : List Value).toArray 2 := by rw [ha]
  rw [hgo, lg_entry_eq]
  generalize (lg_sl ([.ref (z + 12), .int p0]) ++ List.replicate (2 - (lg_sl ([.ref (z + 12), .int p0])).length) Slot.unset).toArray = ls at hl ⊢
  have hl : lv_has ls 2 [(0, .ref (z + 12)), (1, .int p0)] := hl
  refine lv_aload_n hx hb dX2_meets_0 rfl (lv_at hl 0 rfl) ?_
  refine lv_aload_n hx hb dX2_meets_1 rfl (lv_at hl 0 rfl) ?_
  refine dk_get (k := 12) hx hb hts iX2_meets_2 hown hK (dk_at12 hW) rfl 2 (by decide) (hts (.fieldLink RX2 30 "DogKings$Reader" "at" "I") (List.mem_of_getElem? (i := 1) rfl)) rfl dX2_meets_2 ?_
  refine lv_topi (fun v1 ev1 => ?_)
  have dv1 : dkN [(0, 90)] v1 := by rw [ev1]; exact (hO 12 2)
  have xv1 : v1 = I0 12 2 := ev1.trans rfl
  refine dk_put (k := 12) hx hb hts iX2_meets_2 tyX2 tyX2_ok nmX2 hown hK hW (dk_at12 hW) hS rfl 4 (by decide) (hts (.fieldLink RX2 88 "DogKings$Reader" "faultPlace" "I") (List.mem_of_getElem? (i := 2) rfl)) rfl rfl (Nat.le_of_ble_eq_true rfl) rfl dX2_meets_5 (fun I2 H2 L2 eI2 hW hS => ?_)
  have eI2 : I2 = dkU I0 12 4 v1 := eI2
  have hO := dkO_set hO eI2 (dkN_sub dv1 rfl)
  have hF := dkF_set hF eI2 rfl
  refine lv_aload_n hx hb dX2_meets_8 rfl (lv_at hl 0 rfl) ?_
  refine lv_iload_n hx hb dX2_meets_9 rfl (lv_at hl 1 rfl) ?_
  refine dk_put (k := 12) hx hb hts iX2_meets_2 tyX2 tyX2_ok nmX2 hown hK hW (dk_at12 hW) hS rfl 5 (by decide) (hts (.fieldLink RX2 91 "DogKings$Reader" "faultNumber" "I") (List.mem_of_getElem? (i := 3) rfl)) rfl rfl (Nat.le_of_ble_eq_true rfl) rfl dX2_meets_10 (fun I3 H3 L3 eI3 hW hS => ?_)
  have eI3 : I3 = dkU I2 12 5 p0 := eI3
  have hO := dkO_set hO eI3 (dkN_sub dp0 rfl)
  have hF := dkF_set hF eI3 rfl
  refine lv_iconst (v := 0) hx hb dX2_meets_13 (by decide) ?_
  exact W.zret (v := 0) (ty := .boolean) hx hb hr rfl (fun t ht hW9 => ⟨⟨0, I3, rfl, ⟨hF, hO, ⟨dkN_sub (dkN_lit (x := 0) (0) rfl) rfl, (show dkN [(0, 90)] (I3 12 4) from dkN_sub (by rw [eI3, dkU_sn (by decide)]; exact (by rw [eI2, dkU_ss]; exact dv1)) rfl), (show dkN [(2, 2)] (I3 12 5) from dkN_sub (by rw [eI3, dkU_ss]; exact dp0) rfl), rfl, ((by rw [eI3, dkU_sn (by decide)] : I3 12 2 = _).trans ((by rw [eI2, dkU_sn (by decide)] : I2 12 2 = _).trans rfl)), ((by rw [eI3, dkU_sn (by decide)] : I3 12 4 = _).trans (by rw [eI2, dkU_ss, xv1])), (by rw [eI3, dkU_ss]), trivial⟩⟩, dkW_eq ht hW⟩, hS.F ht⟩) hS.2.2 dX2_meets_14
