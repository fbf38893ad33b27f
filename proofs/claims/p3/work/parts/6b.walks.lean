set_option maxHeartbeats 4000000 in
set_option maxRecDepth 100000 in
theorem f_X6_cut_1 (l : Launch) (g : dkG) (z : Nat) (I0 : dkI) (p0 : Int32) (p1 : Int32) (dp0 : dkN [(-1000000, -1000000), (0, 2)] p0)  (hO : dkOk I0) : Met l yX6_cut wsX6_cut (dkR 0) (dkPc g z [.int p0, .int p1] I0) (dkQi g z (fun r I1 => dkF [] I0 I1 ∧ dkOk I1 ∧ ((True ∧ dkN [(-1000000, -1000000), (2, 2)] p0 ∧ p0.toInt ≠ (0 : Int) ∧ p0.toInt ≠ (1 : Int) ∧ r = p1 ∧ True) ∨ (True ∧ dkN [(1, 1)] p0 ∧ p0.toInt ≠ (0 : Int) ∧ p0.toInt = (1 : Int) ∧ r = (p1 <<< ((16 : Int32) &&& 31)) >>> ((16 : Int32) &&& 31) ∧ True) ∨ (True ∧ dkN [(0, 0)] p0 ∧ p0.toInt = (0 : Int) ∧ r = (p1 <<< ((24 : Int32) &&& 31)) >>> ((24 : Int32) &&& 31) ∧ True)))) 0 0 (dkA z) := by
  refine Met.ofW (cc := cX6_cut) (maxL := 2) (ret := (some .int)) (by decide) rfl ?_
  intro p e s m args below meth c s₁ B hml hv
  obtain ⟨ha, hW, hK, hT⟩ := hv
  have hx := B.exec
  have hb := B.bytes
  have hr := B.returns
  have hts := atoms_spec (ws := wsX6_cut) B.pre
  have hown : s.vm.findClass RX6 = some m.cls := findClass_of_methodNamed B.named
  have hlocks := B.notSynchronized
  have hS : va_S (dkA z) s.heap s.heap [] := va_S.rf
  have hF : dkF [] I0 I0 := dkF_rf _ _
  have hl := lv_entry ([.int p0, .int p1]) (n := 2) (Nat.le_of_ble_eq_true rfl)
  have hgo : entryFrame m args 2 = entryFrame m ([.int p0, .int p1] : List Value).toArray 2 := by rw [ha]
  rw [hgo, lg_entry_eq]
  generalize (lg_sl ([.int p0, .int p1]) ++ List.replicate (2 - (lg_sl ([.int p0, .int p1])).length) Slot.unset).toArray = ls at hl ⊢
  have hl : lv_has ls 2 [(0, .int p0), (1, .int p1)] := hl
  refine lv_iload_n hx hb dX6_cut_0 rfl (lv_at hl 0 rfl) ?_
  refine lv_if_ne (tgt := 14) hx hb dX6_cut_1 (by decide) (fun c1 => ?_) (fun c1 => ?_)
  ·
    have q2 : p0.toInt ≠ (0 : Int) := (dk_ne c1)
    have d3 : dkN [(-1000000, -1000000), (1, 2)] p0 := dkN_ne1 (0) dp0 (dkN_lit (x := 0) (0) rfl) (dk_ne c1) rfl
    refine lv_iload_n hx hb dX6_cut_14 rfl (lv_at hl 0 rfl) ?_
    refine lv_iconst (v := 1) hx hb dX6_cut_15 (by decide) ?_
    refine lv_icmp_ne (tgt := 29) hx hb dX6_cut_16 (by decide) (fun c4 => ?_) (fun c4 => ?_)
    ·
      have q5 : p0.toInt ≠ (1 : Int) := (dk_ne c4)
      have d6 : dkN [(-1000000, -1000000), (2, 2)] p0 := dkN_ne1 (1) d3 (dkN_lit (x := 1) (1) rfl) (dk_ne c4) rfl
      refine lv_iload_n hx hb dX6_cut_29 rfl (lv_at hl 1 rfl) ?_
      exact W.iret (v := p1) hx hb hr (fun t ht hW9 => ⟨⟨p1, I0, rfl, ⟨hF, hO, Or.inl ⟨trivial, dkN_sub d6 rfl, q2, q5, rfl, trivial⟩⟩, dkW_eq ht hW⟩, hS.F ht⟩) hS.2.2 dX6_cut_30
    ·
      have q7 : p0.toInt = (1 : Int) := (congrArg Int32.toInt c4)
      have d8 : dkN [(1, 1)] p0 := dkN_eq1 d3 (dkN_lit (x := 1) (1) rfl) (congrArg Int32.toInt c4) rfl
      refine lv_iload_n hx hb dX6_cut_19 rfl (lv_at hl 1 rfl) ?_
      refine lv_bipush (v := 16) hx hb dX6_cut_20 (by decide) ?_
      refine lv_ishl hx hb dX6_cut_22 ?_
      refine lv_topi (fun v9 ev9 => ?_)
      have xv9 : v9 = p1 <<< ((16 : Int32) &&& 31) := by rw [ev9]
      refine lv_bipush (v := 16) hx hb dX6_cut_23 (by decide) ?_
      refine lv_ishr hx hb dX6_cut_25 ?_
      refine lv_topi (fun v10 ev10 => ?_)
      have xv10 : v10 = (p1 <<< ((16 : Int32) &&& 31)) >>> ((16 : Int32) &&& 31) := by rw [ev10, xv9]
      refine lv_goto (tgt := 30) hx hb dX6_cut_26 (by decide) ?_
      exact W.iret (v := v10) hx hb hr (fun t ht hW9 => ⟨⟨v10, I0, rfl, ⟨hF, hO, Or.inr (Or.inl ⟨trivial, dkN_sub d8 rfl, q2, q7, xv10, trivial⟩)⟩, dkW_eq ht hW⟩, hS.F ht⟩) hS.2.2 dX6_cut_30
  ·
    have q11 : p0.toInt = (0 : Int) := (congrArg Int32.toInt c1)
    have d12 : dkN [(0, 0)] p0 := dkN_eq1 dp0 (dkN_lit (x := 0) (0) rfl) (congrArg Int32.toInt c1) rfl
    refine lv_iload_n hx hb dX6_cut_4 rfl (lv_at hl 1 rfl) ?_
    refine lv_bipush (v := 24) hx hb dX6_cut_5 (by decide) ?_
    refine lv_ishl hx hb dX6_cut_7 ?_
    refine lv_topi (fun v13 ev13 => ?_)
    have xv13 : v13 = p1 <<< ((24 : Int32) &&& 31) := by rw [ev13]
    refine lv_bipush (v := 24) hx hb dX6_cut_8 (by decide) ?_
    refine lv_ishr hx hb dX6_cut_10 ?_
    refine lv_topi (fun v14 ev14 => ?_)
    have xv14 : v14 = (p1 <<< ((24 : Int32) &&& 31)) >>> ((24 : Int32) &&& 31) := by rw [ev14, xv13]
    refine lv_goto (tgt := 30) hx hb dX6_cut_11 (by decide) ?_
    exact W.iret (v := v14) hx hb hr (fun t ht hW9 => ⟨⟨v14, I0, rfl, ⟨hF, hO, Or.inr (Or.inr (⟨trivial, dkN_sub d12 rfl, q11, xv14, trivial⟩))⟩, dkW_eq ht hW⟩, hS.F ht⟩) hS.2.2 dX6_cut_30
set_option maxHeartbeats 4000000 in
set_option maxRecDepth 100000 in
theorem f_X6_set_1 (l : Launch) (g : dkG) (z : Nat) (I0 : dkI) (p0 : Int32) (p1 : Int32) (p2 : Int32)  (hO : dkOk I0) : Met l yX6_set wsX6_set (dkR 2) (dkPc g z [.ref (z + 340), .int p0, .int p1, .int p2] I0) (dkQi g z (fun r I1 => dkF [(340, 340, 4, 4), (343, 343, 0, 319)] I0 I1 ∧ dkOk I1 ∧ ((dkN [(-1000001, -1000001)] r ∧ dkN [(-2147483648, -1)] p0 ∧ p0.toInt + 1 ≤ (0 : Int) ∧ r = (-1000001) ∧ True) ∨ (dkN [(-1000001, -1000001)] r ∧ dkN [(8, 2147483647)] p0 ∧ (0 : Int) + 0 ≤ p0.toInt ∧ (7 : Int) + 1 ≤ p0.toInt ∧ r = (-1000001) ∧ True) ∨ (dkN [(-1000012, -1000012)] r ∧ dkN [(0, 7)] p0 ∧ dkN [(-2147483648, -1)] p1 ∧ dkN [(2, 2)] (I1 340 4) ∧ (0 : Int) + 0 ≤ p0.toInt ∧ p0.toInt + 0 ≤ (7 : Int) ∧ (I0 341 (Int32.toNatClampNeg p0)).toInt ≠ (-1000000 : Int) ∧ ((I0 342 (Int32.toNatClampNeg p0)) - (1 : Int32)).toInt = (I0 342 (Int32.toNatClampNeg p0)).toInt - (1 : Int) ∧ p1.toInt + 1 ≤ (0 : Int) ∧ ((-1000010 : Int32) - (2 : Int32)).toInt = (-1000010 : Int) - (2 : Int) ∧ r = (-1000010 : Int32) - (2 : Int32) ∧ True) ∨ (dkN [(-1000012, -1000012)] r ∧ dkN [(0, 7)] p0 ∧ dkN [(0, 2147483647)] p1 ∧ dkN [(2, 2)] (I1 340 4) ∧ (0 : Int) + 0 ≤ p0.toInt ∧ p0.toInt + 0 ≤ (7 : Int) ∧ (I0 341 (Int32.toNatClampNeg p0)).toInt ≠ (-1000000 : Int) ∧ ((I0 342 (Int32.toNatClampNeg p0)) - (1 : Int32)).toInt = (I0 342 (Int32.toNatClampNeg p0)).toInt - (1 : Int) ∧ (0 : Int) + 0 ≤ p1.toInt ∧ ((I0 342 (Int32.toNatClampNeg p0)) - (1 : Int32)).toInt + 1 ≤ p1.toInt ∧ ((-1000010 : Int32) - (2 : Int32)).toInt = (-1000010 : Int) - (2 : Int) ∧ r = (-1000010 : Int32) - (2 : Int32) ∧ True) ∨ (True ∧ dkN [(0, 7)] p0 ∧ dkN [(0, 39)] p1 ∧ dkN [(0, 0)] (I1 340 4) ∧ (0 : Int) + 0 ≤ p0.toInt ∧ p0.toInt + 0 ≤ (7 : Int) ∧ (I0 341 (Int32.toNatClampNeg p0)).toInt ≠ (-1000000 : Int) ∧ ((I0 342 (Int32.toNatClampNeg p0)) - (1 : Int32)).toInt = (I0 342 (Int32.toNatClampNeg p0)).toInt - (1 : Int) ∧ (0 : Int) + 0 ≤ p1.toInt ∧ p1.toInt + 0 ≤ ((I0 342 (Int32.toNatClampNeg p0)) - (1 : Int32)).toInt ∧ (((40 : Int32) * p0) + p1).toInt = ((40 : Int32) * p0).toInt + p1.toInt ∧ (I0 341 (Int32.toNatClampNeg p0)).toInt ≠ (0 : Int) ∧ (I0 341 (Int32.toNatClampNeg p0)).toInt ≠ (1 : Int) ∧ r = p2 ∧ True) ∨ (True ∧ dkN [(0, 7)] p0 ∧ dkN [(0, 39)] p1 ∧ dkN [(0, 0)] (I1 340 4) ∧ (0 : Int) + 0 ≤ p0.toInt ∧ p0.toInt + 0 ≤ (7 : Int) ∧ (I0 341 (Int32.toNatClampNeg p0)).toInt ≠ (-1000000 : Int) ∧ ((I0 342 (Int32.toNatClampNeg p0)) - (1 : Int32)).toInt = (I0 342 (Int32.toNatClampNeg p0)).toInt - (1 : Int) ∧ (0 : Int) + 0 ≤ p1.toInt ∧ p1.toInt + 0 ≤ ((I0 342 (Int32.toNatClampNeg p0)) - (1 : Int32)).toInt ∧ (((40 : Int32) * p0) + p1).toInt = ((40 : Int32) * p0).toInt + p1.toInt ∧ (I0 341 (Int32.toNatClampNeg p0)).toInt ≠ (0 : Int) ∧ (I0 341 (Int32.toNatClampNeg p0)).toInt = (1 : Int) ∧ r = ((p2 <<< ((16 : Int32) &&& 31)) >>> ((16 : Int32) &&& 31)) ∧ True) ∨ (True ∧ dkN [(0, 7)] p0 ∧ dkN [(0, 39)] p1 ∧ dkN [(0, 0)] (I1 340 4) ∧ (0 : Int) + 0 ≤ p0.toInt ∧ p0.toInt + 0 ≤ (7 : Int) ∧ (I0 341 (Int32.toNatClampNeg p0)).toInt ≠ (-1000000 : Int) ∧ ((I0 342 (Int32.toNatClampNeg p0)) - (1 : Int32)).toInt = (I0 342 (Int32.toNatClampNeg p0)).toInt - (1 : Int) ∧ (0 : Int) + 0 ≤ p1.toInt ∧ p1.toInt + 0 ≤ ((I0 342 (Int32.toNatClampNeg p0)) - (1 : Int32)).toInt ∧ (((40 : Int32) * p0) + p1).toInt = ((40 : Int32) * p0).toInt + p1.toInt ∧ (I0 341 (Int32.toNatClampNeg p0)).toInt = (0 : Int) ∧ r = ((p2 <<< ((24 : Int32) &&& 31)) >>> ((24 : Int32) &&& 31)) ∧ True) ∨ (dkN [(-1000011, -1000011)] r ∧ dkN [(0, 7)] p0 ∧ dkN [(1, 1)] (I1 340 4) ∧ (0 : Int) + 0 ≤ p0.toInt ∧ p0.toInt + 0 ≤ (7 : Int) ∧ (I0 341 (Int32.toNatClampNeg p0)).toInt = (-1000000 : Int) ∧ ((-1000010 : Int32) - (1 : Int32)).toInt = (-1000010 : Int) - (1 : Int) ∧ r = (-1000010 : Int32) - (1 : Int32) ∧ True)))) 0 0 (dkA z) := by
  refine Met.ofW (cc := cX6_set) (maxL := 4) (ret := (some .int)) (by decide) rfl ?_
  intro p e s m args below meth c s₁ B hml hv
  obtain ⟨ha, hW, hK, hT⟩ := hv
  have hx := B.exec
  have hb := B.bytes
  have hr := B.returns
  have hts := atoms_spec (ws := wsX6_set) B.pre
  have hown : s.vm.findClass RX6 = some m.cls := findClass_of_methodNamed B.named
  have hlocks := B.notSynchronized
  have hS : va_S (dkA z) s.heap s.heap [] := va_S.rf
  have hF : dkF [(340, 340, 4, 4), (343, 343, 0, 319)] I0 I0 := dkF_rf _ _
  have hl := lv_entry ([.ref (z + 340), .int p0, .int p1, .int p2]) (n := 4) (Nat.le_of_ble_eq_true rfl)
  have hgo : entryFrame m args 4 = entryFrame m ([.ref (z + 340), .int p0, .int p1, .int p2] : List Value).toArray 4 := by rw [ha]
  rw [hgo, lg_entry_eq]
  generalize (lg_sl ([.ref (z + 340), .int p0, .int p1, .int p2]) ++ List.replicate (4 - (lg_sl ([.ref (z + 340), .int p0, .int p1, .int p2])).length) Slot.unset).toArray = ls at hl ⊢
  have hl : lv_has ls 4 [(0, .ref (z + 340)), (1, .int p0), (2, .int p1), (3, .int p2)] := hl
  refine lv_iload_n hx hb dX6_set_0 rfl (lv_at hl 1 rfl) ?_
  refine dk_Si (As := [.int p0]) (rest := []) ⟨hx, hb, hml, hown, hts⟩ (f_X6_isRow_1 l g z I0 p0 hO) (va_cwS 1 hts gX6_set_X6_isRow rfl rfl rfl (by decide +kernel) ⟨Nat.le_of_ble_eq_true rfl, Nat.le_of_ble_eq_true rfl⟩) hK hT hW hS rfl hl.1 rfl (Nat.le_of_ble_eq_true rfl) dX6_set_1 ⟨Nat.zero_le _, Nat.zero_le _⟩ (fun v1 I1 H1 L1 hp1 hW hS => ?_)
  obtain ⟨hF1, hO, hc1⟩ := hp1
  have hF := dkF_call hF hF1 rfl
  have eI1 : I0 = I1 := (dkF_nil hF1).symm
  subst eI1
  rcases hc1 with ⟨dv1, a1_0, x1_0, xr1, -⟩ | hc1
  ·
    have q2 : p0.toInt + 1 ≤ (0 : Int) := x1_0
    have xv1 : v1 = 0 := by rw [xr1]
    have d3 : dkN [(-2147483648, -1)] p0 := dkN_eq1 (dkN_top p0) a1_0 rfl rfl
    refine lv_if_ne (tgt := 10) hx hb dX6_set_4 (by decide) (fun c4 => ?_) (fun c4 => ?_)
    ·
      exact (dkN_nil (show dkN [] v1 from dkN_ne1 (0) dv1 (dkN_lit (x := 0) (0) rfl) (dk_ne c4) rfl)).elim
    ·
      refine lv_ldc (v := (-1000001)) hx hb hown (hts (.constant RX6 64 (-1000001)) (List.mem_of_getElem? (i := 1) rfl)) dX6_set_7 ?_
      exact W.iret (v := (-1000001)) hx hb hr (fun t ht hW9 => ⟨⟨(-1000001), I0, rfl, ⟨hF, hO, Or.inl ⟨dkN_sub (dkN_lit (x := (-1000001)) (-1000001) rfl) rfl, dkN_sub d3 rfl, q2, rfl, trivial⟩⟩, dkW_eq ht hW⟩, hS.F ht⟩) hS.2.2 dX6_set_9
  rcases hc1 with ⟨dv1, a1_0, x1_0, x1_1, xr1, -⟩ | hc1
  ·
    have q5 : (0 : Int) + 0 ≤ p0.toInt := x1_0
    have q6 : (7 : Int) + 1 ≤ p0.toInt := x1_1
    have xv1 : v1 = 0 := by rw [xr1]
    have d7 : dkN [(8, 2147483647)] p0 := dkN_eq1 (dkN_top p0) a1_0 rfl rfl
    refine lv_if_ne (tgt := 10) hx hb dX6_set_4 (by decide) (fun c8 => ?_) (fun c8 => ?_)
    ·
      exact (dkN_nil (show dkN [] v1 from dkN_ne1 (0) dv1 (dkN_lit (x := 0) (0) rfl) (dk_ne c8) rfl)).elim
    ·
      refine lv_ldc (v := (-1000001)) hx hb hown (hts (.constant RX6 64 (-1000001)) (List.mem_of_getElem? (i := 1) rfl)) dX6_set_7 ?_
      exact W.iret (v := (-1000001)) hx hb hr (fun t ht hW9 => ⟨⟨(-1000001), I0, rfl, ⟨hF, hO, Or.inr (Or.inl ⟨dkN_sub (dkN_lit (x := (-1000001)) (-1000001) rfl) rfl, dkN_sub d7 rfl, q5, q6, rfl, trivial⟩)⟩, dkW_eq ht hW⟩, hS.F ht⟩) hS.2.2 dX6_set_9
  ·
    obtain ⟨dv1, a1_0, x1_0, x1_1, xr1, -⟩ := hc1
    have q9 : (0 : Int) + 0 ≤ p0.toInt := x1_0
    have q10 : p0.toInt + 0 ≤ (7 : Int) := x1_1
    have xv1 : v1 = 1 := by rw [xr1]
    have d11 : dkN [(0, 7)] p0 := dkN_eq1 (dkN_top p0) a1_0 rfl rfl
    refine lv_if_ne (tgt := 10) hx hb dX6_set_4 (by decide) (fun c12 => ?_) (fun c12 => ?_)
    ·
      refine lv_aload_n hx hb dX6_set_10 rfl (lv_at hl 0 rfl) ?_
      refine lv_iload_n hx hb dX6_set_11 rfl (lv_at hl 1 rfl) ?_
      refine dk_Vi (As := [.int p0]) (rest := []) ⟨hx, hb, hml, hown, hts⟩ (f_X6_isMissing_1 l g z I0 p0 d11 hO) (cwV 1 hts gX6_set_X6_isMissing rfl rfl rfl (by decide +kernel) ⟨Nat.le_of_ble_eq_true rfl, Nat.le_of_ble_eq_true rfl⟩) (dk_at340 hW) rfl hK hT hW hS rfl hl.1 rfl (Nat.le_of_ble_eq_true rfl) dX6_set_12 ⟨Nat.zero_le _, Nat.zero_le _⟩ (fun v13 I13 H13 L13 hp13 hW hS => ?_)
      obtain ⟨hF13, hO, hc13⟩ := hp13
      have hF := dkF_call hF hF13 rfl
      have eI13 : I0 = I13 := (dkF_nil hF13).symm
      subst eI13
      rcases hc13 with ⟨dv13, x13_0, xr13, -⟩ | hc13
      ·
        have q14 : (I0 341 (Int32.toNatClampNeg p0)).toInt ≠ (-1000000 : Int) := x13_0
        have xv13 : v13 = 0 := by rw [xr13]
        refine lv_if_eq (tgt := 24) hx hb dX6_set_15 (by decide) (fun c15 => ?_) (fun c15 => ?_)
        ·
          refine lv_iload_n hx hb dX6_set_24 rfl (lv_at hl 2 rfl) ?_
          refine lv_iconst (v := 0) hx hb dX6_set_25 (by decide) ?_
          refine lv_aload_n hx hb dX6_set_26 rfl (lv_at hl 0 rfl) ?_
          refine dk_get (k := 340) hx hb hts iX6_set_6 hown hK (dk_at340 hW) rfl 1 (by decide) (hts (.fieldLink RX6 13 "DogKingsModel" "many" "[I") (List.mem_of_getElem? (i := 2) rfl)) rfl dX6_set_27 ?_
          refine lv_iload_n hx hb dX6_set_30 rfl (lv_at hl 1 rfl) ?_
          refine dk_ild (k := 342) hx hb hK (dk_at342 hW) (dkN_in (n := 8) d11 rfl) dX6_set_31 ?_
          refine lv_topi (fun v16 ev16 => ?_)
          have dv16 : dkN [(0, 40)] v16 := by rw [ev16]; exact (hO 342 _)
          have xv16 : v16 = I0 342 (Int32.toNatClampNeg p0) := ev16.trans rfl
          refine lv_iconst (v := 1) hx hb dX6_set_32 (by decide) ?_
          refine lv_isub hx hb dX6_set_33 ?_
          refine lv_topi (fun v17 ev17 => ?_)
          have dv17 : dkN [(-1, 39)] v17 := by rw [ev17]; exact dkN_subt dv16 (dkN_lit (x := 1) (1) rfl) rfl
          have xv17 : v17 = (I0 342 (Int32.toNatClampNeg p0)) - (1 : Int32) := by rw [ev17, xv16]
          have q18 : ((I0 342 (Int32.toNatClampNeg p0)) - (1 : Int32)).toInt = (I0 342 (Int32.toNatClampNeg p0)).toInt - (1 : Int) := by rw [← xv17, ← xv16]; exact (by rw [ev17]; exact dk_subE dv16 (dkN_lit (x := 1) (1) rfl) rfl)
          refine dk_Si (As := [.int p1, .int 0, .int v17]) (rest := []) ⟨hx, hb, hml, hown, hts⟩ (f_X6_in_24 l g z I0 p1 0 v17 (dkN_lit (x := 0) (0) rfl) dv17 hO) (va_cwS 3 hts gX6_set_X6_in rfl rfl rfl (by decide +kernel) ⟨Nat.le_of_ble_eq_true rfl, Nat.le_of_ble_eq_true rfl⟩) hK hT hW hS rfl hl.1 rfl (Nat.le_of_ble_eq_true rfl) dX6_set_34 ⟨Nat.zero_le _, Nat.zero_le _⟩ (fun v19 I19 H19 L19 hp19 hW hS => ?_)
          obtain ⟨hF19, hO, hc19⟩ := hp19
          have hF := dkF_call hF hF19 rfl
          have eI19 : I0 = I19 := (dkF_nil hF19).symm
          subst eI19
          rcases hc19 with ⟨dv19, a19_0, x19_0, xr19, -⟩ | hc19
          ·
            have q20 : p1.toInt + 1 ≤ (0 : Int) := x19_0
            have xv19 : v19 = 0 := by rw [xr19]
            have d21 : dkN [(-2147483648, -1)] p1 := dkN_eq1 (dkN_top p1) a19_0 rfl rfl
            refine lv_if_ne (tgt := 46) hx hb dX6_set_37 (by decide) (fun c22 => ?_) (fun c22 => ?_)
            ·
              exact (dkN_nil (show dkN [] v19 from dkN_ne1 (0) dv19 (dkN_lit (x := 0) (0) rfl) (dk_ne c22) rfl)).elim
            ·
              refine lv_aload_n hx hb dX6_set_40 rfl (lv_at hl 0 rfl) ?_
              refine lv_iconst (v := 2) hx hb dX6_set_41 (by decide) ?_
              refine dk_Vi (As := [.int 2]) (rest := []) ⟨hx, hb, hml, hown, hts⟩ (f_X6_found_7 l g z I0 2 (dkN_lit (x := 2) (2) rfl) hO) (cwV 1 hts gX6_set_X6_found rfl rfl rfl (by decide +kernel) ⟨Nat.le_of_ble_eq_true rfl, Nat.le_of_ble_eq_true rfl⟩) (dk_at340 hW) rfl hK hT hW hS rfl hl.1 rfl (Nat.le_of_ble_eq_true rfl) dX6_set_42 ⟨Nat.zero_le _, Nat.zero_le _⟩ (fun v23 I23 H23 L23 hp23 hW hS => ?_)
              obtain ⟨hF23, hO, hc23⟩ := hp23
              have hF := dkF_call hF hF23 rfl
              obtain ⟨dv23, f23_340_4, x23_0, xr23, -⟩ := hc23
              have q24 : ((-1000010 : Int32) - (2 : Int32)).toInt = (-1000010 : Int) - (2 : Int) := x23_0
              have xv23 : v23 = (-1000010 : Int32) - (2 : Int32) := by rw [xr23]
              exact W.iret (v := v23) hx hb hr (fun t ht hW9 => ⟨⟨v23, I23, rfl, ⟨hF, hO, Or.inr (Or.inr (Or.inl ⟨dkN_sub dv23 rfl, dkN_sub d11 rfl, dkN_sub d21 rfl, (show dkN [(2, 2)] (I23 340 4) from dkN_sub f23_340_4 rfl), q9, q10, q14, q18, q20, q24, xv23, trivial⟩))⟩, dkW_eq ht hW⟩, hS.F ht⟩) hS.2.2 dX6_set_45
          rcases hc19 with ⟨dv19, a19_0, x19_0, x19_1, xr19, -⟩ | hc19
          ·
            have q25 : (0 : Int) + 0 ≤ p1.toInt := x19_0
            have q26 : ((I0 342 (Int32.toNatClampNeg p0)) - (1 : Int32)).toInt + 1 ≤ p1.toInt := by rw [← xv17]; exact x19_1
            have xv19 : v19 = 0 := by rw [xr19]
            have d27 : dkN [(0, 2147483647)] p1 := dkN_eq1 (dkN_top p1) a19_0 rfl rfl
            refine lv_if_ne (tgt := 46) hx hb dX6_set_37 (by decide) (fun c28 => ?_) (fun c28 => ?_)
            ·
              exact (dkN_nil (show dkN [] v19 from dkN_ne1 (0) dv19 (dkN_lit (x := 0) (0) rfl) (dk_ne c28) rfl)).elim
            ·
              refine lv_aload_n hx hb dX6_set_40 rfl (lv_at hl 0 rfl) ?_
              refine lv_iconst (v := 2) hx hb dX6_set_41 (by decide) ?_
              refine dk_Vi (As := [.int 2]) (rest := []) ⟨hx, hb, hml, hown, hts⟩ (f_X6_found_7 l g z I0 2 (dkN_lit (x := 2) (2) rfl) hO) (cwV 1 hts gX6_set_X6_found rfl rfl rfl (by decide +kernel) ⟨Nat.le_of_ble_eq_true rfl, Nat.le_of_ble_eq_true rfl⟩) (dk_at340 hW) rfl hK hT hW hS rfl hl.1 rfl (Nat.le_of_ble_eq_true rfl) dX6_set_42 ⟨Nat.zero_le _, Nat.zero_le _⟩ (fun v29 I29 H29 L29 hp29 hW hS => ?_)
              obtain ⟨hF29, hO, hc29⟩ := hp29
              have hF := dkF_call hF hF29 rfl
              obtain ⟨dv29, f29_340_4, x29_0, xr29, -⟩ := hc29
              have q30 : ((-1000010 : Int32) - (2 : Int32)).toInt = (-1000010 : Int) - (2 : Int) := x29_0
              have xv29 : v29 = (-1000010 : Int32) - (2 : Int32) := by rw [xr29]
              exact W.iret (v := v29) hx hb hr (fun t ht hW9 => ⟨⟨v29, I29, rfl, ⟨hF, hO, Or.inr (Or.inr (Or.inr (Or.inl ⟨dkN_sub dv29 rfl, dkN_sub d11 rfl, dkN_sub d27 rfl, (show dkN [(2, 2)] (I29 340 4) from dkN_sub f29_340_4 rfl), q9, q10, q14, q18, q25, q26, q30, xv29, trivial⟩)))⟩, dkW_eq ht hW⟩, hS.F ht⟩) hS.2.2 dX6_set_45
          ·
            obtain ⟨dv19, a19_0, a19_2, x19_0, x19_1, xr19, -⟩ := hc19
            have q31 : (0 : Int) + 0 ≤ p1.toInt := x19_0
            have q32 : p1.toInt + 0 ≤ ((I0 342 (Int32.toNatClampNeg p0)) - (1 : Int32)).toInt := by rw [← xv17]; exact x19_1
            have xv19 : v19 = 1 := by rw [xr19]
            have d33 : dkN [(0, 39)] p1 := dkN_eq1 (dkN_top p1) a19_0 rfl rfl
            have d34 : dkN [(0, 39)] v17 := dkN_eq1 dv17 a19_2 rfl rfl
            refine lv_if_ne (tgt := 46) hx hb dX6_set_37 (by decide) (fun c35 => ?_) (fun c35 => ?_)
            ·
              refine lv_aload_n hx hb dX6_set_46 rfl (lv_at hl 0 rfl) ?_
              refine dk_get (k := 340) hx hb hts iX6_set_6 hown hK (dk_at340 hW) rfl 2 (by decide) (hts (.fieldLink RX6 16 "DogKingsModel" "items" "[I") (List.mem_of_getElem? (i := 3) rfl)) rfl dX6_set_47 ?_
              refine lv_bipush (v := 40) hx hb dX6_set_50 (by decide) ?_
              refine lv_iload_n hx hb dX6_set_52 rfl (lv_at hl 1 rfl) ?_
              refine lv_imul hx hb dX6_set_53 ?_
              refine lv_topi (fun v36 ev36 => ?_)
              have dv36 : dkN [(0, 280)] v36 := by rw [ev36]; exact dkN_mulL 40 (by decide) (dkN_lit (x := 40) (40) rfl) d11 rfl
              have xv36 : v36 = (40 : Int32) * p0 := by rw [ev36]
              refine lv_iload_n hx hb dX6_set_54 rfl (lv_at hl 2 rfl) ?_
              refine lv_iadd hx hb dX6_set_55 ?_
              refine lv_topi (fun v37 ev37 => ?_)
              have dv37 : dkN [(0, 319)] v37 := by rw [ev37]; exact dkN_add dv36 d33 rfl
              have xv37 : v37 = ((40 : Int32) * p0) + p1 := by rw [ev37, xv36]
              have q38 : (((40 : Int32) * p0) + p1).toInt = ((40 : Int32) * p0).toInt + p1.toInt := by rw [← xv37, ← xv36]; exact (by rw [ev37]; exact dk_addE dv36 d33 rfl)
              refine lv_aload_n hx hb dX6_set_56 rfl (lv_at hl 0 rfl) ?_
              refine dk_get (k := 340) hx hb hts iX6_set_6 hown hK (dk_at340 hW) rfl 0 (by decide) (hts (.fieldLink RX6 7 "DogKingsModel" "lane" "[I") (List.mem_of_getElem? (i := 4) rfl)) rfl dX6_set_57 ?_
              refine lv_iload_n hx hb dX6_set_60 rfl (lv_at hl 1 rfl) ?_
              refine dk_ild (k := 341) hx hb hK (dk_at341 hW) (dkN_in (n := 8) d11 rfl) dX6_set_61 ?_
              refine lv_topi (fun v39 ev39 => ?_)
              have dv39 : dkN [(-1000000, -1000000), (0, 2)] v39 := by rw [ev39]; exact (hO 341 _)
              have xv39 : v39 = I0 341 (Int32.toNatClampNeg p0) := ev39.trans rfl
              refine lv_iload_n hx hb dX6_set_62 rfl (lv_at hl 3 rfl) ?_
              refine dk_Si (As := [.int v39, .int p2]) (rest := [.int v37, .ref (z + 343)]) ⟨hx, hb, hml, hown, hts⟩ (f_X6_cut_1 l g z I0 v39 p2 dv39 hO) (va_cwS 2 hts gX6_set_X6_cut rfl rfl rfl (by decide +kernel) ⟨Nat.le_of_ble_eq_true rfl, Nat.le_of_ble_eq_true rfl⟩) hK hT hW hS rfl hl.1 rfl (Nat.le_of_ble_eq_true rfl) dX6_set_63 ⟨Nat.zero_le _, Nat.zero_le _⟩ (fun v40 I40 H40 L40 hp40 hW hS => ?_)
              obtain ⟨hF40, hO, hc40⟩ := hp40
              have hF := dkF_call hF hF40 rfl
              have eI40 : I0 = I40 := (dkF_nil hF40).symm
              subst eI40
              rcases hc40 with ⟨_, a40_0, x40_0, x40_1, xr40, -⟩ | hc40
              ·
                have q41 : (I0 341 (Int32.toNatClampNeg p0)).toInt ≠ (0 : Int) := by rw [← xv39]; exact x40_0
                have q42 : (I0 341 (Int32.toNatClampNeg p0)).toInt ≠ (1 : Int) := by rw [← xv39]; exact x40_1
                have xv40 : v40 = p2 := by rw [xr40]
                have d43 : dkN [(-1000000, -1000000), (2, 2)] v39 := dkN_eq1 dv39 a40_0 rfl rfl
                refine dk_ist (k := 343) hx hb hK hW (fun _ => rfl) (by decide) hS (dkN_in (n := 320) dv37 rfl) dX6_set_66 (fun I44 H44 L44 eI44 hW hS => ?_)
                have hO := dkO_set hO eI44 (dkN_sub (dkN_top v40) rfl)
                have hF := dkF_set hF eI44 (dkIn_v dv37 rfl)
                refine lv_aload_n hx hb dX6_set_67 rfl (lv_at hl 0 rfl) ?_
                refine lv_aload_n hx hb dX6_set_68 rfl (lv_at hl 0 rfl) ?_
                refine dk_get (k := 340) hx hb hts iX6_set_6 hown hK (dk_at340 hW) rfl 2 (by decide) (hts (.fieldLink RX6 16 "DogKingsModel" "items" "[I") (List.mem_of_getElem? (i := 3) rfl)) rfl dX6_set_69 ?_
                refine lv_bipush (v := 40) hx hb dX6_set_72 (by decide) ?_
                refine lv_iload_n hx hb dX6_set_74 rfl (lv_at hl 1 rfl) ?_
                refine lv_imul hx hb dX6_set_75 ?_
                refine lv_topi (fun v45 ev45 => ?_)
                have dv45 : dkN [(0, 280)] v45 := by rw [ev45]; exact dkN_mulL 40 (by decide) (dkN_lit (x := 40) (40) rfl) d11 rfl
                have xv45 : v45 = (40 : Int32) * p0 := by rw [ev45]
                refine lv_iload_n hx hb dX6_set_76 rfl (lv_at hl 2 rfl) ?_
                refine lv_iadd hx hb dX6_set_77 ?_
                refine lv_topi (fun v46 ev46 => ?_)
                have dv46 : dkN [(0, 319)] v46 := by rw [ev46]; exact dkN_add dv45 d33 rfl
                have xv46 : v46 = ((40 : Int32) * p0) + p1 := by rw [ev46, xv45]
                refine dk_ild (k := 343) hx hb hK (dk_at343 hW) (dkN_in (n := 320) dv46 rfl) dX6_set_78 ?_
                refine lv_topi (fun v47 ev47 => ?_)
                have xv47 : v47 = p2 := ev47.trans (by rw [eI44, show v46 = v37 from xv46.trans xv37.symm, dkU_ss, xv40])
                refine dk_Vi (As := [.int v47]) (rest := []) ⟨hx, hb, hml, hown, hts⟩ (f_X6_well_1 l g z I44 v47 hO) (cwV 1 hts gX6_set_X6_well rfl rfl rfl (by decide +kernel) ⟨Nat.le_of_ble_eq_true rfl, Nat.le_of_ble_eq_true rfl⟩) (dk_at340 hW) rfl hK hT hW hS rfl hl.1 rfl (Nat.le_of_ble_eq_true rfl) dX6_set_79 ⟨Nat.zero_le _, Nat.zero_le _⟩ (fun v48 I48 H48 L48 hp48 hW hS => ?_)
                obtain ⟨hF48, hO, hc48⟩ := hp48
                have hF := dkF_call hF hF48 rfl
                obtain ⟨_, f48_340_4, xr48, -⟩ := hc48
                have xv48 : v48 = p2 := by rw [xr48, xv47]
                exact W.iret (v := v48) hx hb hr (fun t ht hW9 => ⟨⟨v48, I48, rfl, ⟨hF, hO, Or.inr (Or.inr (Or.inr (Or.inr (Or.inl ⟨trivial, dkN_sub d11 rfl, dkN_sub d33 rfl, (show dkN [(0, 0)] (I48 340 4) from dkN_sub f48_340_4 rfl), q9, q10, q14, q18, q31, q32, q38, q41, q42, xv48, trivial⟩))))⟩, dkW_eq ht hW⟩, hS.F ht⟩) hS.2.2 dX6_set_82
              rcases hc40 with ⟨_, a40_0, x40_0, x40_1, xr40, -⟩ | hc40
              ·
                have q49 : (I0 341 (Int32.toNatClampNeg p0)).toInt ≠ (0 : Int) := by rw [← xv39]; exact x40_0
                have q50 : (I0 341 (Int32.toNatClampNeg p0)).toInt = (1 : Int) := by rw [← xv39]; exact x40_1
                have xv40 : v40 = (p2 <<< ((16 : Int32) &&& 31)) >>> ((16 : Int32) &&& 31) := by rw [xr40]
                have d51 : dkN [(1, 1)] v39 := dkN_eq1 dv39 a40_0 rfl rfl
                refine dk_ist (k := 343) hx hb hK hW (fun _ => rfl) (by decide) hS (dkN_in (n := 320) dv37 rfl) dX6_set_66 (fun I52 H52 L52 eI52 hW hS => ?_)
                have hO := dkO_set hO eI52 (dkN_sub (dkN_top v40) rfl)
                have hF := dkF_set hF eI52 (dkIn_v dv37 rfl)
                refine lv_aload_n hx hb dX6_set_67 rfl (lv_at hl 0 rfl) ?_
                refine lv_aload_n hx hb dX6_set_68 rfl (lv_at hl 0 rfl) ?_
                refine dk_get (k := 340) hx hb hts iX6_set_6 hown hK (dk_at340 hW) rfl 2 (by decide) (hts (.fieldLink RX6 16 "DogKingsModel" "items" "[I") (List.mem_of_getElem? (i := 3) rfl)) rfl dX6_set_69 ?_
                refine lv_bipush (v := 40) hx hb dX6_set_72 (by decide) ?_
                refine lv_iload_n hx hb dX6_set_74 rfl (lv_at hl 1 rfl) ?_
                refine lv_imul hx hb dX6_set_75 ?_
                refine lv_topi (fun v53 ev53 => ?_)
                have dv53 : dkN [(0, 280)] v53 := by rw [ev53]; exact dkN_mulL 40 (by decide) (dkN_lit (x := 40) (40) rfl) d11 rfl
                have xv53 : v53 = (40 : Int32) * p0 := by rw [ev53]
                refine lv_iload_n hx hb dX6_set_76 rfl (lv_at hl 2 rfl) ?_
                refine lv_iadd hx hb dX6_set_77 ?_
                refine lv_topi (fun v54 ev54 => ?_)
                have dv54 : dkN [(0, 319)] v54 := by rw [ev54]; exact dkN_add dv53 d33 rfl
                have xv54 : v54 = ((40 : Int32) * p0) + p1 := by rw [ev54, xv53]
                refine dk_ild (k := 343) hx hb hK (dk_at343 hW) (dkN_in (n := 320) dv54 rfl) dX6_set_78 ?_
                refine lv_topi (fun v55 ev55 => ?_)
                have xv55 : v55 = (p2 <<< ((16 : Int32) &&& 31)) >>> ((16 : Int32) &&& 31) := ev55.trans (by rw [eI52, show v54 = v37 from xv54.trans xv37.symm, dkU_ss, xv40])
                refine dk_Vi (As := [.int v55]) (rest := []) ⟨hx, hb, hml, hown, hts⟩ (f_X6_well_1 l g z I52 v55 hO) (cwV 1 hts gX6_set_X6_well rfl rfl rfl (by decide +kernel) ⟨Nat.le_of_ble_eq_true rfl, Nat.le_of_ble_eq_true rfl⟩) (dk_at340 hW) rfl hK hT hW hS rfl hl.1 rfl (Nat.le_of_ble_eq_true rfl) dX6_set_79 ⟨Nat.zero_le _, Nat.zero_le _⟩ (fun v56 I56 H56 L56 hp56 hW hS => ?_)
                obtain ⟨hF56, hO, hc56⟩ := hp56
                have hF := dkF_call hF hF56 rfl
                obtain ⟨_, f56_340_4, xr56, -⟩ := hc56
                have xv56 : v56 = ((p2 <<< ((16 : Int32) &&& 31)) >>> ((16 : Int32) &&& 31)) := by rw [xr56, xv55]
                exact W.iret (v := v56) hx hb hr (fun t ht hW9 => ⟨⟨v56, I56, rfl, ⟨hF, hO, Or.inr (Or.inr (Or.inr (Or.inr (Or.inr (Or.inl ⟨trivial, dkN_sub d11 rfl, dkN_sub d33 rfl, (show dkN [(0, 0)] (I56 340 4) from dkN_sub f56_340_4 rfl), q9, q10, q14, q18, q31, q32, q38, q49, q50, xv56, trivial⟩)))))⟩, dkW_eq ht hW⟩, hS.F ht⟩) hS.2.2 dX6_set_82
              ·
                obtain ⟨_, a40_0, x40_0, xr40, -⟩ := hc40
                have q57 : (I0 341 (Int32.toNatClampNeg p0)).toInt = (0 : Int) := by rw [← xv39]; exact x40_0
                have xv40 : v40 = (p2 <<< ((24 : Int32) &&& 31)) >>> ((24 : Int32) &&& 31) := by rw [xr40]
                have d58 : dkN [(0, 0)] v39 := dkN_eq1 dv39 a40_0 rfl rfl
                refine dk_ist (k := 343) hx hb hK hW (fun _ => rfl) (by decide) hS (dkN_in (n := 320) dv37 rfl) dX6_set_66 (fun I59 H59 L59 eI59 hW hS => ?_)
                have hO := dkO_set hO eI59 (dkN_sub (dkN_top v40) rfl)
                have hF := dkF_set hF eI59 (dkIn_v dv37 rfl)
                refine lv_aload_n hx hb dX6_set_67 rfl (lv_at hl 0 rfl) ?_
                refine lv_aload_n hx hb dX6_set_68 rfl (lv_at hl 0 rfl) ?_
                refine dk_get (k := 340) hx hb hts iX6_set_6 hown hK (dk_at340 hW) rfl 2 (by decide) (hts (.fieldLink RX6 16 "DogKingsModel" "items" "[I") (List.mem_of_getElem? (i := 3) rfl)) rfl dX6_set_69 ?_
                refine lv_bipush (v := 40) hx hb dX6_set_72 (by decide) ?_
                refine lv_iload_n hx hb dX6_set_74 rfl (lv_at hl 1 rfl) ?_
                refine lv_imul hx hb dX6_set_75 ?_
                refine lv_topi (fun v60 ev60 => ?_)
                have dv60 : dkN [(0, 280)] v60 := by rw [ev60]; exact dkN_mulL 40 (by decide) (dkN_lit (x := 40) (40) rfl) d11 rfl
                have xv60 : v60 = (40 : Int32) * p0 := by rw [ev60]
                refine lv_iload_n hx hb dX6_set_76 rfl (lv_at hl 2 rfl) ?_
                refine lv_iadd hx hb dX6_set_77 ?_
                refine lv_topi (fun v61 ev61 => ?_)
                have dv61 : dkN [(0, 319)] v61 := by rw [ev61]; exact dkN_add dv60 d33 rfl
                have xv61 : v61 = ((40 : Int32) * p0) + p1 := by rw [ev61, xv60]
                refine dk_ild (k := 343) hx hb hK (dk_at343 hW) (dkN_in (n := 320) dv61 rfl) dX6_set_78 ?_
                refine lv_topi (fun v62 ev62 => ?_)
                have xv62 : v62 = (p2 <<< ((24 : Int32) &&& 31)) >>> ((24 : Int32) &&& 31) := ev62.trans (by rw [eI59, show v61 = v37 from xv61.trans xv37.symm, dkU_ss, xv40])
                refine dk_Vi (As := [.int v62]) (rest := []) ⟨hx, hb, hml, hown, hts⟩ (f_X6_well_1 l g z I59 v62 hO) (cwV 1 hts gX6_set_X6_well rfl rfl rfl (by decide +kernel) ⟨Nat.le_of_ble_eq_true rfl, Nat.le_of_ble_eq_true rfl⟩) (dk_at340 hW) rfl hK hT hW hS rfl hl.1 rfl (Nat.le_of_ble_eq_true rfl) dX6_set_79 ⟨Nat.zero_le _, Nat.zero_le _⟩ (fun v63 I63 H63 L63 hp63 hW hS => ?_)
                obtain ⟨hF63, hO, hc63⟩ := hp63
                have hF := dkF_call hF hF63 rfl
                obtain ⟨_, f63_340_4, xr63, -⟩ := hc63
                have xv63 : v63 = ((p2 <<< ((24 : Int32) &&& 31)) >>> ((24 : Int32) &&& 31)) := by rw [xr63, xv62]
                exact W.iret (v := v63) hx hb hr (fun t ht hW9 => ⟨⟨v63, I63, rfl, ⟨hF, hO, Or.inr (Or.inr (Or.inr (Or.inr (Or.inr (Or.inr (Or.inl ⟨trivial, dkN_sub d11 rfl, dkN_sub d33 rfl, (show dkN [(0, 0)] (I63 340 4) from dkN_sub f63_340_4 rfl), q9, q10, q14, q18, q31, q32, q38, q57, xv63, trivial⟩))))))⟩, dkW_eq ht hW⟩, hS.F ht⟩) hS.2.2 dX6_set_82
            ·
              exact (dkN_nil (show dkN [] v19 from dkN_eq1 dv19 (dkN_lit (x := 0) (0) rfl) (congrArg Int32.toInt c35) rfl)).elim
        ·
          exact (dkN_nil (show dkN [] v13 from dkN_ne1 (0) dv13 (dkN_lit (x := 0) (0) rfl) (dk_ne c15) rfl)).elim
      ·
        obtain ⟨dv13, x13_0, xr13, -⟩ := hc13
        have q64 : (I0 341 (Int32.toNatClampNeg p0)).toInt = (-1000000 : Int) := x13_0
        have xv13 : v13 = 1 := by rw [xr13]
        refine lv_if_eq (tgt := 24) hx hb dX6_set_15 (by decide) (fun c65 => ?_) (fun c65 => ?_)
        ·
          exact (dkN_nil (show dkN [] v13 from dkN_eq1 dv13 (dkN_lit (x := 0) (0) rfl) (congrArg Int32.toInt c65) rfl)).elim
        ·
          refine lv_aload_n hx hb dX6_set_18 rfl (lv_at hl 0 rfl) ?_
          refine lv_iconst (v := 1) hx hb dX6_set_19 (by decide) ?_
          refine dk_Vi (As := [.int 1]) (rest := []) ⟨hx, hb, hml, hown, hts⟩ (f_X6_found_6 l g z I0 1 (dkN_lit (x := 1) (1) rfl) hO) (cwV 1 hts gX6_set_X6_found rfl rfl rfl (by decide +kernel) ⟨Nat.le_of_ble_eq_true rfl, Nat.le_of_ble_eq_true rfl⟩) (dk_at340 hW) rfl hK hT hW hS rfl hl.1 rfl (Nat.le_of_ble_eq_true rfl) dX6_set_20 ⟨Nat.zero_le _, Nat.zero_le _⟩ (fun v66 I66 H66 L66 hp66 hW hS => ?_)
          obtain ⟨hF66, hO, hc66⟩ := hp66
          have hF := dkF_call hF hF66 rfl
          obtain ⟨dv66, f66_340_4, x66_0, xr66, -⟩ := hc66
          have q67 : ((-1000010 : Int32) - (1 : Int32)).toInt = (-1000010 : Int) - (1 : Int) := x66_0
          have xv66 : v66 = (-1000010 : Int32) - (1 : Int32) := by rw [xr66]
          exact W.iret (v := v66) hx hb hr (fun t ht hW9 => ⟨⟨v66, I66, rfl, ⟨hF, hO, Or.inr (Or.inr (Or.inr (Or.inr (Or.inr (Or.inr (Or.inr (⟨dkN_sub dv66 rfl, dkN_sub d11 rfl, (show dkN [(1, 1)] (I66 340 4) from dkN_sub f66_340_4 rfl), q9, q10, q64, q67, xv66, trivial⟩)))))))⟩, dkW_eq ht hW⟩, hS.F ht⟩) hS.2.2 dX6_set_23
    ·
      exact (dkN_nil (show dkN [] v1 from dkN_eq1 dv1 (dkN_lit (x := 0) (0) rfl) (congrArg Int32.toInt c12) rfl)).elim
