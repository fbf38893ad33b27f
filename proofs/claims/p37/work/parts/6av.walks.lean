set_option maxHeartbeats 4000000 in
set_option maxRecDepth 100000 in
theorem fx_X6_set_1 (l : Launch) (g : dkG) (z : Nat) (I0 : dkI) (p0 : Int32) (p1 : Int32) (p2 : Int32)  (hO : dkOk I0) : Met l yX6_set wsX6_set (dkR 2) (dkPc g z [.ref (z + 340), .int p0, .int p1, .int p2] I0) (dkQi g z (fun r I1 => dkF [(340, 340, 4, 4), (343, 343, 0, 319)] I0 I1 ∧ dkOk I1 ∧ ((dkN [(-1000001, -1000001)] r ∧ dkN [(-2147483648, -1)] p0 ∧ p0.toInt + 1 ≤ (0 : Int) ∧ r = (-1000001) ∧ I1 340 4 = I0 340 4 ∧ True) ∨ (dkN [(-1000001, -1000001)] r ∧ dkN [(8, 2147483647)] p0 ∧ (0 : Int) + 0 ≤ p0.toInt ∧ (7 : Int) + 1 ≤ p0.toInt ∧ r = (-1000001) ∧ I1 340 4 = I0 340 4 ∧ True) ∨ (dkN [(-1000012, -1000012)] r ∧ dkN [(0, 7)] p0 ∧ dkN [(-2147483648, -1)] p1 ∧ dkN [(2, 2)] (I1 340 4) ∧ (0 : Int) + 0 ≤ p0.toInt ∧ p0.toInt + 0 ≤ (7 : Int) ∧ (I0 341 (Int32.toNatClampNeg p0)).toInt ≠ (-1000000 : Int) ∧ ((I0 342 (Int32.toNatClampNeg p0)) - (1 : Int32)).toInt = (I0 342 (Int32.toNatClampNeg p0)).toInt - (1 : Int) ∧ p1.toInt + 1 ≤ (0 : Int) ∧ ((-1000010 : Int32) - (2 : Int32)).toInt = (-1000010 : Int) - (2 : Int) ∧ r = (-1000010 : Int32) - (2 : Int32) ∧ I1 340 4 = 2 ∧ True) ∨ (dkN [(-1000012, -1000012)] r ∧ dkN [(0, 7)] p0 ∧ dkN [(0, 2147483647)] p1 ∧ dkN [(2, 2)] (I1 340 4) ∧ (0 : Int) + 0 ≤ p0.toInt ∧ p0.toInt + 0 ≤ (7 : Int) ∧ (I0 341 (Int32.toNatClampNeg p0)).toInt ≠ (-1000000 : Int) ∧ ((I0 342 (Int32.toNatClampNeg p0)) - (1 : Int32)).toInt = (I0 342 (Int32.toNatClampNeg p0)).toInt - (1 : Int) ∧ (0 : Int) + 0 ≤ p1.toInt ∧ ((I0 342 (Int32.toNatClampNeg p0)) - (1 : Int32)).toInt + 1 ≤ p1.toInt ∧ ((-1000010 : Int32) - (2 : Int32)).toInt = (-1000010 : Int) - (2 : Int) ∧ r = (-1000010 : Int32) - (2 : Int32) ∧ I1 340 4 = 2 ∧ True) ∨ (True ∧ dkN [(0, 7)] p0 ∧ dkN [(0, 39)] p1 ∧ dkN [(0, 0)] (I1 340 4) ∧ (0 : Int) + 0 ≤ p0.toInt ∧ p0.toInt + 0 ≤ (7 : Int) ∧ (I0 341 (Int32.toNatClampNeg p0)).toInt ≠ (-1000000 : Int) ∧ ((I0 342 (Int32.toNatClampNeg p0)) - (1 : Int32)).toInt = (I0 342 (Int32.toNatClampNeg p0)).toInt - (1 : Int) ∧ (0 : Int) + 0 ≤ p1.toInt ∧ p1.toInt + 0 ≤ ((I0 342 (Int32.toNatClampNeg p0)) - (1 : Int32)).toInt ∧ ((40 : Int32) * p0).toInt = (40 : Int) * p0.toInt ∧ (((40 : Int32) * p0) + p1).toInt = ((40 : Int32) * p0).toInt + p1.toInt ∧ (I0 341 (Int32.toNatClampNeg p0)).toInt ≠ (0 : Int) ∧ (I0 341 (Int32.toNatClampNeg p0)).toInt ≠ (1 : Int) ∧ r = p2 ∧ I1 340 4 = 0 ∧ True) ∨ (True ∧ dkN [(0, 7)] p0 ∧ dkN [(0, 39)] p1 ∧ dkN [(0, 0)] (I1 340 4) ∧ (0 : Int) + 0 ≤ p0.toInt ∧ p0.toInt + 0 ≤ (7 : Int) ∧ (I0 341 (Int32.toNatClampNeg p0)).toInt ≠ (-1000000 : Int) ∧ ((I0 342 (Int32.toNatClampNeg p0)) - (1 : Int32)).toInt = (I0 342 (Int32.toNatClampNeg p0)).toInt - (1 : Int) ∧ (0 : Int) + 0 ≤ p1.toInt ∧ p1.toInt + 0 ≤ ((I0 342 (Int32.toNatClampNeg p0)) - (1 : Int32)).toInt ∧ ((40 : Int32) * p0).toInt = (40 : Int) * p0.toInt ∧ (((40 : Int32) * p0) + p1).toInt = ((40 : Int32) * p0).toInt + p1.toInt ∧ (I0 341 (Int32.toNatClampNeg p0)).toInt ≠ (0 : Int) ∧ (I0 341 (Int32.toNatClampNeg p0)).toInt = (1 : Int) ∧ r = ((p2 <<< ((16 : Int32) &&& 31)) >>> ((16 : Int32) &&& 31)) ∧ I1 340 4 = 0 ∧ True) ∨ (True ∧ dkN [(0, 7)] p0 ∧ dkN [(0, 39)] p1 ∧ dkN [(0, 0)] (I1 340 4) ∧ (0 : Int) + 0 ≤ p0.toInt ∧ p0.toInt + 0 ≤ (7 : Int) ∧ (I0 341 (Int32.toNatClampNeg p0)).toInt ≠ (-1000000 : Int) ∧ ((I0 342 (Int32.toNatClampNeg p0)) - (1 : Int32)).toInt = (I0 342 (Int32.toNatClampNeg p0)).toInt - (1 : Int) ∧ (0 : Int) + 0 ≤ p1.toInt ∧ p1.toInt + 0 ≤ ((I0 342 (Int32.toNatClampNeg p0)) - (1 : Int32)).toInt ∧ ((40 : Int32) * p0).toInt = (40 : Int) * p0.toInt ∧ (((40 : Int32) * p0) + p1).toInt = ((40 : Int32) * p0).toInt + p1.toInt ∧ (I0 341 (Int32.toNatClampNeg p0)).toInt = (0 : Int) ∧ r = ((p2 <<< ((24 : Int32) &&& 31)) >>> ((24 : Int32) &&& 31)) ∧ I1 340 4 = 0 ∧ True) ∨ (dkN [(-1000011, -1000011)] r ∧ dkN [(0, 7)] p0 ∧ dkN [(1, 1)] (I1 340 4) ∧ (0 : Int) + 0 ≤ p0.toInt ∧ p0.toInt + 0 ≤ (7 : Int) ∧ (I0 341 (Int32.toNatClampNeg p0)).toInt = (-1000000 : Int) ∧ ((-1000010 : Int32) - (1 : Int32)).toInt = (-1000010 : Int) - (1 : Int) ∧ r = (-1000010 : Int32) - (1 : Int32) ∧ I1 340 4 = 1 ∧ True)))) 0 0 (dkA z) := by
  refine Met.ofW (cc := cX6_set) (maxL := 4) (ret := (some .int)) (by decide) rfl ?_
  intro p e s m args below meth c s₁ B hml hv
  obtain ⟨ha, hW, hK, hT⟩ := hv
  have hx := B.exec
  have hb := B.bytes
  have hr := B.returns
  have hts := atoms_spec (ws := wsX6_set) B.pre
  have hown : s.vm.findClass RX6 = some m.cls := findClass_of_methodNamed B.named
  have hlocks := B.notSynchronized
  have hS : va_S (dkA z) s.heap s.heap [] := va_S.rf
  have hF : dkF [(340, 340, 4, 4), (343, 343, 0, 319)] I0 I0 := dkF_rf _ _
  have hl := lv_entry ([.ref (z + 340), .int p0, .int p1, .int p2]) (n := 4) (Nat.le_of_ble_eq_true rfl)
  have hgo : entryFrame m args 4 = entryFrame m ([.ref (z + 340), .int p0, .int p1, .int p2] : List Value).toArray 4 := by rw [ha]
  rw [hgo, lg_entry_eq]
  generalize (lg_sl ([.ref (z + 340), .int p0, .int p1, .int p2]) ++ List.replicate (4 - (lg_sl ([.ref (z + 340), .int p0, .int p1, .int p2])).length) Slot.unset).toArray = ls at hl ⊢
  have hl : lv_has ls 4 [(0, .ref (z + 340)), (1, .int p0), (2, .int p1), (3, .int p2)] := hl
  refine lv_iload_n hx hb dX6_set_0 rfl (lv_at hl 1 rfl) ?_
  refine dk_Si (As := [.int p0]) (rest := []) ⟨hx, hb, hml, hown, hts⟩ (fx_X6_isRow_1 l g z I0 p0 hO) (va_cwS 1 hts gX6_set_X6_isRow rfl rfl rfl (by decide +kernel) ⟨Nat.le_of_ble_eq_true rfl, Nat.le_of_ble_eq_true rfl⟩) hK hT hW hS rfl hl.1 rfl (Nat.le_of_ble_eq_true rfl) dX6_set_1 ⟨Nat.zero_le _, Nat.zero_le _⟩ (fun v1 I1 H1 L1 hp1 hW hS => ?_)
  obtain ⟨hF1, hO, hc1⟩ := hp1
  have hF := dkF_call hF hF1 rfl
  have eI1 : I0 = I1 := (dkF_nil hF1).symm
  subst eI1
  rcases hc1 with ⟨dv1, a1_0, x1_0, xr1, -⟩ | hc1
  ·
    have q2 : p0.toInt + 1 ≤ (0 : Int) := x1_0
    have xv1 : v1 = 0 := by have h := xr1; exact h
    have d3 : dkN [(-2147483648, -1)] p0 := dkN_eq1 (dkN_top p0) a1_0 rfl rfl
    refine lv_if_ne (tgt := 10) hx hb dX6_set_4 (by decide) (fun c4 => ?_) (fun c4 => ?_)
    ·
      exact absurd ((xv1).trans (rfl).symm) c4
    ·
      refine lv_ldc (v := (-1000001)) hx hb hown (hts (.constant RX6 64 (-1000001)) (List.mem_of_getElem? (i := 1) rfl)) dX6_set_7 ?_
      exact W.iret (v := (-1000001)) hx hb hr (fun t ht hW9 => ⟨⟨(-1000001), I0, rfl, ⟨hF, hO, Or.inl ⟨dkN_sub (dkN_lit (x := (-1000001)) (-1000001) rfl) rfl, dkN_sub d3 rfl, q2, rfl, rfl, trivial⟩⟩, dkW_eq ht hW⟩, hS.F ht⟩) hS.2.2 dX6_set_9
  rcases hc1 with ⟨dv1, a1_0, x1_0, x1_1, xr1, -⟩ | hc1
  ·
    have q5 : (0 : Int) + 0 ≤ p0.toInt := x1_0
    have q6 : (7 : Int) + 1 ≤ p0.toInt := x1_1
    have xv1 : v1 = 0 := by have h := xr1; exact h
    have d7 : dkN [(8, 2147483647)] p0 := dkN_eq1 (dkN_top p0) a1_0 rfl rfl
    refine lv_if_ne (tgt := 10) hx hb dX6_set_4 (by decide) (fun c8 => ?_) (fun c8 => ?_)
    ·
      exact absurd ((xv1).trans (rfl).symm) c8
    ·
      refine lv_ldc (v := (-1000001)) hx hb hown (hts (.constant RX6 64 (-1000001)) (List.mem_of_getElem? (i := 1) rfl)) dX6_set_7 ?_
      exact W.iret (v := (-1000001)) hx hb hr (fun t ht hW9 => ⟨⟨(-1000001), I0, rfl, ⟨hF, hO, Or.inr (Or.inl ⟨dkN_sub (dkN_lit (x := (-1000001)) (-1000001) rfl) rfl, dkN_sub d7 rfl, q5, q6, rfl, rfl, trivial⟩)⟩, dkW_eq ht hW⟩, hS.F ht⟩) hS.2.2 dX6_set_9
  ·
    obtain ⟨dv1, a1_0, x1_0, x1_1, xr1, -⟩ := hc1
    have q9 : (0 : Int) + 0 ≤ p0.toInt := x1_0
    have q10 : p0.toInt + 0 ≤ (7 : Int) := x1_1
    have xv1 : v1 = 1 := by have h := xr1; exact h
    have d11 : dkN [(0, 7)] p0 := dkN_eq1 (dkN_top p0) a1_0 rfl rfl
    refine lv_if_ne (tgt := 10) hx hb dX6_set_4 (by decide) (fun c12 => ?_) (fun c12 => ?_)
    ·
      refine lv_aload_n hx hb dX6_set_10 rfl (lv_at hl 0 rfl) ?_
      refine lv_iload_n hx hb dX6_set_11 rfl (lv_at hl 1 rfl) ?_
      refine dk_Vi (As := [.int p0]) (rest := []) ⟨hx, hb, hml, hown, hts⟩ (fx_X6_isMissing_1 l g z I0 p0 d11 hO) (cwV 1 hts gX6_set_X6_isMissing rfl rfl rfl (by decide +kernel) ⟨Nat.le_of_ble_eq_true rfl, Nat.le_of_ble_eq_true rfl⟩) (dk_at340 hW) rfl hK hT hW hS rfl hl.1 rfl (Nat.le_of_ble_eq_true rfl) dX6_set_12 ⟨Nat.zero_le _, Nat.zero_le _⟩ (fun v13 I13 H13 L13 hp13 hW hS => ?_)
      obtain ⟨hF13, hO, hc13⟩ := hp13
      have hF := dkF_call hF hF13 rfl
      have eI13 : I0 = I13 := (dkF_nil hF13).symm
      subst eI13
      rcases hc13 with ⟨dv13, x13_0, xr13, -⟩ | hc13
      ·
        have q14 : (I0 341 (Int32.toNatClampNeg p0)).toInt ≠ (-1000000 : Int) := x13_0
        have xv13 : v13 = 0 := by have h := xr13; exact h
        refine lv_if_eq (tgt := 24) hx hb dX6_set_15 (by decide) (fun c15 => ?_) (fun c15 => ?_)
        ·
          refine lv_iload_n hx hb dX6_set_24 rfl (lv_at hl 2 rfl) ?_
          refine lv_iconst (v := 0) hx hb dX6_set_25 (by decide) ?_
          refine lv_aload_n hx hb dX6_set_26 rfl (lv_at hl 0 rfl) ?_
          refine dk_get (k := 340) hx hb hts iX6_set_6 hown hK (dk_at340 hW) rfl 1 (by decide) (hts (.fieldLink RX6 13 "DogKingsModel" "many" "[I") (List.mem_of_getElem? (i := 2) rfl)) rfl dX6_set_27 ?_
          refine lv_iload_n hx hb dX6_set_30 rfl (lv_at hl 1 rfl) ?_
          refine dk_ild (k := 342) hx hb hK (dk_at342 hW) (dkN_in (n := 8) d11 rfl) dX6_set_31 ?_
          refine lv_topi (fun v16 ev16 => ?_)
          have dv16 : dkN [(0, 40)] v16 := by rw [ev16]; exact (hO 342 _)
          have xv16 : v16 = I0 342 (Int32.toNatClampNeg p0) := ev16.trans rfl
          refine lv_iconst (v := 1) hx hb dX6_set_32 (by decide) ?_
          refine lv_isub hx hb dX6_set_33 ?_
          refine lv_topi (fun v17 ev17 => ?_)
          have dv17 : dkN [(-1, 39)] v17 := by rw [ev17]; exact dkN_subt dv16 (dkN_lit (x := 1) (1) rfl) rfl
          have xv17 : v17 = (I0 342 (Int32.toNatClampNeg p0)) - (1 : Int32) := by rw [ev17, xv16]
          have q18 : ((I0 342 (Int32.toNatClampNeg p0)) - (1 : Int32)).toInt = (I0 342 (Int32.toNatClampNeg p0)).toInt - (1 : Int) := by first | (rw [← xv17, ← xv16]; exact (by rw [ev17]; exact dk_subE dv16 (dkN_lit (x := 1) (1) rfl) rfl)) | (subst xv17 xv16; exact (by rw [ev17]; exact dk_subE dv16 (dkN_lit (x := 1) (1) rfl) rfl))
          refine dk_Si (As := [.int p1, .int 0, .int v17]) (rest := []) ⟨hx, hb, hml, hown, hts⟩ (fx_X6_in_38 l g z I0 p1 0 v17 (dkN_lit (x := 0) (0) rfl) dv17 hO) (va_cwS 3 hts gX6_set_X6_in rfl rfl rfl (by decide +kernel) ⟨Nat.le_of_ble_eq_true rfl, Nat.le_of_ble_eq_true rfl⟩) hK hT hW hS rfl hl.1 rfl (Nat.le_of_ble_eq_true rfl) dX6_set_34 ⟨Nat.zero_le _, Nat.zero_le _⟩ (fun v19 I19 H19 L19 hp19 hW hS => ?_)
          obtain ⟨hF19, hO, hc19⟩ := hp19
          have hF := dkF_call hF hF19 rfl
          have eI19 : I0 = I19 := (dkF_nil hF19).symm
          subst eI19
          rcases hc19 with ⟨dv19, a19_0, x19_0, xr19, -⟩ | hc19
          ·
            have q20 : p1.toInt + 1 ≤ (0 : Int) := x19_0
            have xv19 : v19 = 0 := by have h := xr19; exact h
            have d21 : dkN [(-2147483648, -1)] p1 := dkN_eq1 (dkN_top p1) a19_0 rfl rfl
            refine lv_if_ne (tgt := 46) hx hb dX6_set_37 (by decide) (fun c22 => ?_) (fun c22 => ?_)
            ·
              exact absurd ((xv19).trans (rfl).symm) c22
            ·
              refine lv_aload_n hx hb dX6_set_40 rfl (lv_at hl 0 rfl) ?_
              refine lv_iconst (v := 2) hx hb dX6_set_41 (by decide) ?_
              refine dk_Vi (As := [.int 2]) (rest := []) ⟨hx, hb, hml, hown, hts⟩ (fx_X6_found_7 l g z I0 2 (dkN_lit (x := 2) (2) rfl) hO) (cwV 1 hts gX6_set_X6_found rfl rfl rfl (by decide +kernel) ⟨Nat.le_of_ble_eq_true rfl, Nat.le_of_ble_eq_true rfl⟩) (dk_at340 hW) rfl hK hT hW hS rfl hl.1 rfl (Nat.le_of_ble_eq_true rfl) dX6_set_42 ⟨Nat.zero_le _, Nat.zero_le _⟩ (fun v23 I23 H23 L23 hp23 hW hS => ?_)
              obtain ⟨hF23, hO, hc23⟩ := hp23
              have hF := dkF_call hF hF23 rfl
              obtain ⟨dv23, f23_340_4, x23_0, xr23, xh23_0, -⟩ := hc23
              have q24 : ((-1000010 : Int32) - (2 : Int32)).toInt = (-1000010 : Int) - (2 : Int) := x23_0
              have y25 : I23 340 4 = 2 := by have h := xh23_0; exact h
              have xv23 : v23 = (-1000010 : Int32) - (2 : Int32) := by have h := xr23; exact h
              exact W.iret (v := v23) hx hb hr (fun t ht hW9 => ⟨⟨v23, I23, rfl, ⟨hF, hO, Or.inr (Or.inr (Or.inl ⟨dkN_sub dv23 rfl, dkN_sub d11 rfl, dkN_sub d21 rfl, (show dkN [(2, 2)] (I23 340 4) from dkN_sub f23_340_4 rfl), q9, q10, q14, q18, q20, q24, xv23, y25, trivial⟩))⟩, dkW_eq ht hW⟩, hS.F ht⟩) hS.2.2 dX6_set_45
          rcases hc19 with ⟨dv19, a19_0, x19_0, x19_1, xr19, -⟩ | hc19
          ·
            have q26 : (0 : Int) + 0 ≤ p1.toInt := x19_0
            have q27 : ((I0 342 (Int32.toNatClampNeg p0)) - (1 : Int32)).toInt + 1 ≤ p1.toInt := by have h := x19_1; rw [xv17] at h; exact h
            have xv19 : v19 = 0 := by have h := xr19; exact h
            have d28 : dkN [(0, 2147483647)] p1 := dkN_eq1 (dkN_top p1) a19_0 rfl rfl
            refine lv_if_ne (tgt := 46) hx hb dX6_set_37 (by decide) (fun c29 => ?_) (fun c29 => ?_)
            ·
              exact absurd ((xv19).trans (rfl).symm) c29
            ·
              refine lv_aload_n hx hb dX6_set_40 rfl (lv_at hl 0 rfl) ?_
              refine lv_iconst (v := 2) hx hb dX6_set_41 (by decide) ?_
              refine dk_Vi (As := [.int 2]) (rest := []) ⟨hx, hb, hml, hown, hts⟩ (fx_X6_found_7 l g z I0 2 (dkN_lit (x := 2) (2) rfl) hO) (cwV 1 hts gX6_set_X6_found rfl rfl rfl (by decide +kernel) ⟨Nat.le_of_ble_eq_true rfl, Nat.le_of_ble_eq_true rfl⟩) (dk_at340 hW) rfl hK hT hW hS rfl hl.1 rfl (Nat.le_of_ble_eq_true rfl) dX6_set_42 ⟨Nat.zero_le _, Nat.zero_le _⟩ (fun v30 I30 H30 L30 hp30 hW hS => ?_)
              obtain ⟨hF30, hO, hc30⟩ := hp30
              have hF := dkF_call hF hF30 rfl
              obtain ⟨dv30, f30_340_4, x30_0, xr30, xh30_0, -⟩ := hc30
              have q31 : ((-1000010 : Int32) - (2 : Int32)).toInt = (-1000010 : Int) - (2 : Int) := x30_0
              have y32 : I30 340 4 = 2 := by have h := xh30_0; exact h
              have xv30 : v30 = (-1000010 : Int32) - (2 : Int32) := by have h := xr30; exact h
              exact W.iret (v := v30) hx hb hr (fun t ht hW9 => ⟨⟨v30, I30, rfl, ⟨hF, hO, Or.inr (Or.inr (Or.inr (Or.inl ⟨dkN_sub dv30 rfl, dkN_sub d11 rfl, dkN_sub d28 rfl, (show dkN [(2, 2)] (I30 340 4) from dkN_sub f30_340_4 rfl), q9, q10, q14, q18, q26, q27, q31, xv30, y32, trivial⟩)))⟩, dkW_eq ht hW⟩, hS.F ht⟩) hS.2.2 dX6_set_45
          ·
            obtain ⟨dv19, a19_0, a19_2, x19_0, x19_1, xr19, -⟩ := hc19
            have q33 : (0 : Int) + 0 ≤ p1.toInt := x19_0
            have q34 : p1.toInt + 0 ≤ ((I0 342 (Int32.toNatClampNeg p0)) - (1 : Int32)).toInt := by have h := x19_1; rw [xv17] at h; exact h
            have xv19 : v19 = 1 := by have h := xr19; exact h
            have d35 : dkN [(0, 39)] p1 := dkN_eq1 (dkN_top p1) a19_0 rfl rfl
            have d36 : dkN [(0, 39)] v17 := dkN_eq1 dv17 a19_2 rfl rfl
            refine lv_if_ne (tgt := 46) hx hb dX6_set_37 (by decide) (fun c37 => ?_) (fun c37 => ?_)
            ·
              refine lv_aload_n hx hb dX6_set_46 rfl (lv_at hl 0 rfl) ?_
              refine dk_get (k := 340) hx hb hts iX6_set_6 hown hK (dk_at340 hW) rfl 2 (by decide) (hts (.fieldLink RX6 16 "DogKingsModel" "items" "[I") (List.mem_of_getElem? (i := 3) rfl)) rfl dX6_set_47 ?_
              refine lv_bipush (v := 40) hx hb dX6_set_50 (by decide) ?_
              refine lv_iload_n hx hb dX6_set_52 rfl (lv_at hl 1 rfl) ?_
              refine lv_imul hx hb dX6_set_53 ?_
              refine lv_topi (fun v38 ev38 => ?_)
              have dv38 : dkN [(0, 280)] v38 := by rw [ev38]; exact dkN_mulL 40 (by decide) (dkN_lit (x := 40) (40) rfl) d11 rfl
              have xv38 : v38 = (40 : Int32) * p0 := by rw [ev38]
              have q39 : ((40 : Int32) * p0).toInt = (40 : Int) * p0.toInt := by first | (rw [← xv38]; exact (by rw [ev38]; exact dk_mulE 40 (x := 40) rfl d11 (by decide) rfl)) | (subst xv38; exact (by rw [ev38]; exact dk_mulE 40 (x := 40) rfl d11 (by decide) rfl))
              refine lv_iload_n hx hb dX6_set_54 rfl (lv_at hl 2 rfl) ?_
              refine lv_iadd hx hb dX6_set_55 ?_
              refine lv_topi (fun v40 ev40 => ?_)
              have dv40 : dkN [(0, 319)] v40 := by rw [ev40]; exact dkN_add dv38 d35 rfl
              have xv40 : v40 = ((40 : Int32) * p0) + p1 := by rw [ev40, xv38]
              have q41 : (((40 : Int32) * p0) + p1).toInt = ((40 : Int32) * p0).toInt + p1.toInt := by first | (rw [← xv40, ← xv38]; exact (by rw [ev40]; exact dk_addE dv38 d35 rfl)) | (subst xv40 xv38; exact (by rw [ev40]; exact dk_addE dv38 d35 rfl))
              refine lv_aload_n hx hb dX6_set_56 rfl (lv_at hl 0 rfl) ?_
              refine dk_get (k := 340) hx hb hts iX6_set_6 hown hK (dk_at340 hW) rfl 0 (by decide) (hts (.fieldLink RX6 7 "DogKingsModel" "lane" "[I") (List.mem_of_getElem? (i := 4) rfl)) rfl dX6_set_57 ?_
              refine lv_iload_n hx hb dX6_set_60 rfl (lv_at hl 1 rfl) ?_
              refine dk_ild (k := 341) hx hb hK (dk_at341 hW) (dkN_in (n := 8) d11 rfl) dX6_set_61 ?_
              refine lv_topi (fun v42 ev42 => ?_)
              have dv42 : dkN [(-1000000, -1000000), (0, 2)] v42 := by rw [ev42]; exact (hO 341 _)
              have xv42 : v42 = I0 341 (Int32.toNatClampNeg p0) := ev42.trans rfl
              refine lv_iload_n hx hb dX6_set_62 rfl (lv_at hl 3 rfl) ?_
              refine dk_Si (As := [.int v42, .int p2]) (rest := [.int v40, .ref (z + 343)]) ⟨hx, hb, hml, hown, hts⟩ (fx_X6_cut_1 l g z I0 v42 p2 dv42 hO) (va_cwS 2 hts gX6_set_X6_cut rfl rfl rfl (by decide +kernel) ⟨Nat.le_of_ble_eq_true rfl, Nat.le_of_ble_eq_true rfl⟩) hK hT hW hS rfl hl.1 rfl (Nat.le_of_ble_eq_true rfl) dX6_set_63 ⟨Nat.zero_le _, Nat.zero_le _⟩ (fun v43 I43 H43 L43 hp43 hW hS => ?_)
              obtain ⟨hF43, hO, hc43⟩ := hp43
              have hF := dkF_call hF hF43 rfl
              have eI43 : I0 = I43 := (dkF_nil hF43).symm
              subst eI43
              rcases hc43 with ⟨_, a43_0, x43_0, x43_1, xr43, -⟩ | hc43
              ·
                have q44 : (I0 341 (Int32.toNatClampNeg p0)).toInt ≠ (0 : Int) := by have h := x43_0; rw [xv42] at h; exact h
                have q45 : (I0 341 (Int32.toNatClampNeg p0)).toInt ≠ (1 : Int) := by have h := x43_1; rw [xv42] at h; exact h
                have xv43 : v43 = p2 := by have h := xr43; exact h
                have d46 : dkN [(-1000000, -1000000), (2, 2)] v42 := dkN_eq1 dv42 a43_0 rfl rfl
                refine dk_ist (k := 343) hx hb hK hW (fun _ => rfl) (by decide) hS (dkN_in (n := 320) dv40 rfl) dX6_set_66 (fun I47 H47 L47 eI47 hW hS => ?_)
                have hO := dkO_set hO eI47 (dkN_sub (dkN_top v43) rfl)
                have hF := dkF_set hF eI47 (dkIn_v dv40 rfl)
                refine lv_aload_n hx hb dX6_set_67 rfl (lv_at hl 0 rfl) ?_
                refine lv_aload_n hx hb dX6_set_68 rfl (lv_at hl 0 rfl) ?_
                refine dk_get (k := 340) hx hb hts iX6_set_6 hown hK (dk_at340 hW) rfl 2 (by decide) (hts (.fieldLink RX6 16 "DogKingsModel" "items" "[I") (List.mem_of_getElem? (i := 3) rfl)) rfl dX6_set_69 ?_
                refine lv_bipush (v := 40) hx hb dX6_set_72 (by decide) ?_
                refine lv_iload_n hx hb dX6_set_74 rfl (lv_at hl 1 rfl) ?_
                refine lv_imul hx hb dX6_set_75 ?_
                refine lv_topi (fun v48 ev48 => ?_)
                have dv48 : dkN [(0, 280)] v48 := by rw [ev48]; exact dkN_mulL 40 (by decide) (dkN_lit (x := 40) (40) rfl) d11 rfl
                have xv48 : v48 = (40 : Int32) * p0 := by rw [ev48]
                refine lv_iload_n hx hb dX6_set_76 rfl (lv_at hl 2 rfl) ?_
                refine lv_iadd hx hb dX6_set_77 ?_
                refine lv_topi (fun v49 ev49 => ?_)
                have dv49 : dkN [(0, 319)] v49 := by rw [ev49]; exact dkN_add dv48 d35 rfl
                have xv49 : v49 = ((40 : Int32) * p0) + p1 := by rw [ev49, xv48]
                refine dk_ild (k := 343) hx hb hK (dk_at343 hW) (dkN_in (n := 320) dv49 rfl) dX6_set_78 ?_
                refine lv_topi (fun v50 ev50 => ?_)
                have xv50 : v50 = p2 := ev50.trans (by rw [eI47, show v49 = v40 from xv49.trans xv40.symm, dkU_ss, xv43])
                refine dk_Vi (As := [.int v50]) (rest := []) ⟨hx, hb, hml, hown, hts⟩ (fx_X6_well_1 l g z I47 v50 hO) (cwV 1 hts gX6_set_X6_well rfl rfl rfl (by decide +kernel) ⟨Nat.le_of_ble_eq_true rfl, Nat.le_of_ble_eq_true rfl⟩) (dk_at340 hW) rfl hK hT hW hS rfl hl.1 rfl (Nat.le_of_ble_eq_true rfl) dX6_set_79 ⟨Nat.zero_le _, Nat.zero_le _⟩ (fun v51 I51 H51 L51 hp51 hW hS => ?_)
                obtain ⟨hF51, hO, hc51⟩ := hp51
                have hF := dkF_call hF hF51 rfl
                obtain ⟨_, f51_340_4, xr51, xh51_0, -⟩ := hc51
                have y52 : I51 340 4 = 0 := by have h := xh51_0; exact h
                have xv51 : v51 = p2 := by have h := xr51; rw [xv50] at h; exact h
                exact W.iret (v := v51) hx hb hr (fun t ht hW9 => ⟨⟨v51, I51, rfl, ⟨hF, hO, Or.inr (Or.inr (Or.inr (Or.inr (Or.inl ⟨trivial, dkN_sub d11 rfl, dkN_sub d35 rfl, (show dkN [(0, 0)] (I51 340 4) from dkN_sub f51_340_4 rfl), q9, q10, q14, q18, q33, q34, q39, q41, q44, q45, xv51, y52, trivial⟩))))⟩, dkW_eq ht hW⟩, hS.F ht⟩) hS.2.2 dX6_set_82
              rcases hc43 with ⟨_, a43_0, x43_0, x43_1, xr43, -⟩ | hc43
              ·
                have q53 : (I0 341 (Int32.toNatClampNeg p0)).toInt ≠ (0 : Int) := by have h := x43_0; rw [xv42] at h; exact h
                have q54 : (I0 341 (Int32.toNatClampNeg p0)).toInt = (1 : Int) := by have h := x43_1; rw [xv42] at h; exact h
                have xv43 : v43 = (p2 <<< ((16 : Int32) &&& 31)) >>> ((16 : Int32) &&& 31) := by have h := xr43; exact h
                have d55 : dkN [(1, 1)] v42 := dkN_eq1 dv42 a43_0 rfl rfl
                refine dk_ist (k := 343) hx hb hK hW (fun _ => rfl) (by decide) hS (dkN_in (n := 320) dv40 rfl) dX6_set_66 (fun I56 H56 L56 eI56 hW hS => ?_)
                have hO := dkO_set hO eI56 (dkN_sub (dkN_top v43) rfl)
                have hF := dkF_set hF eI56 (dkIn_v dv40 rfl)
                refine lv_aload_n hx hb dX6_set_67 rfl (lv_at hl 0 rfl) ?_
                refine lv_aload_n hx hb dX6_set_68 rfl (lv_at hl 0 rfl) ?_
                refine dk_get (k := 340) hx hb hts iX6_set_6 hown hK (dk_at340 hW) rfl 2 (by decide) (hts (.fieldLink RX6 16 "DogKingsModel" "items" "[I") (List.mem_of_getElem? (i := 3) rfl)) rfl dX6_set_69 ?_
                refine lv_bipush (v := 40) hx hb dX6_set_72 (by decide) ?_
                refine lv_iload_n hx hb dX6_set_74 rfl (lv_at hl 1 rfl) ?_
                refine lv_imul hx hb dX6_set_75 ?_
                refine lv_topi (fun v57 ev57 => ?_)
                have dv57 : dkN [(0, 280)] v57 := by rw [ev57]; exact dkN_mulL 40 (by decide) (dkN_lit (x := 40) (40) rfl) d11 rfl
                have xv57 : v57 = (40 : Int32) * p0 := by rw [ev57]
                refine lv_iload_n hx hb dX6_set_76 rfl (lv_at hl 2 rfl) ?_
                refine lv_iadd hx hb dX6_set_77 ?_
                refine lv_topi (fun v58 ev58 => ?_)
                have dv58 : dkN [(0, 319)] v58 := by rw [ev58]; exact dkN_add dv57 d35 rfl
                have xv58 : v58 = ((40 : Int32) * p0) + p1 := by rw [ev58, xv57]
                refine dk_ild (k := 343) hx hb hK (dk_at343 hW) (dkN_in (n := 320) dv58 rfl) dX6_set_78 ?_
                refine lv_topi (fun v59 ev59 => ?_)
                have xv59 : v59 = (p2 <<< ((16 : Int32) &&& 31)) >>> ((16 : Int32) &&& 31) := ev59.trans (by rw [eI56, show v58 = v40 from xv58.trans xv40.symm, dkU_ss, xv43])
                refine dk_Vi (As := [.int v59]) (rest := []) ⟨hx, hb, hml, hown, hts⟩ (fx_X6_well_1 l g z I56 v59 hO) (cwV 1 hts gX6_set_X6_well rfl rfl rfl (by decide +kernel) ⟨Nat.le_of_ble_eq_true rfl, Nat.le_of_ble_eq_true rfl⟩) (dk_at340 hW) rfl hK hT hW hS rfl hl.1 rfl (Nat.le_of_ble_eq_true rfl) dX6_set_79 ⟨Nat.zero_le _, Nat.zero_le _⟩ (fun v60 I60 H60 L60 hp60 hW hS => ?_)
                obtain ⟨hF60, hO, hc60⟩ := hp60
                have hF := dkF_call hF hF60 rfl
                obtain ⟨_, f60_340_4, xr60, xh60_0, -⟩ := hc60
                have y61 : I60 340 4 = 0 := by have h := xh60_0; exact h
                have xv60 : v60 = ((p2 <<< ((16 : Int32) &&& 31)) >>> ((16 : Int32) &&& 31)) := by have h := xr60; rw [xv59] at h; exact h
                exact W.iret (v := v60) hx hb hr (fun t ht hW9 => ⟨⟨v60, I60, rfl, ⟨hF, hO, Or.inr (Or.inr (Or.inr (Or.inr (Or.inr (Or.inl ⟨trivial, dkN_sub d11 rfl, dkN_sub d35 rfl, (show dkN [(0, 0)] (I60 340 4) from dkN_sub f60_340_4 rfl), q9, q10, q14, q18, q33, q34, q39, q41, q53, q54, xv60, y61, trivial⟩)))))⟩, dkW_eq ht hW⟩, hS.F ht⟩) hS.2.2 dX6_set_82
              ·
                obtain ⟨_, a43_0, x43_0, xr43, -⟩ := hc43
                have q62 : (I0 341 (Int32.toNatClampNeg p0)).toInt = (0 : Int) := by have h := x43_0; rw [xv42] at h; exact h
                have xv43 : v43 = (p2 <<< ((24 : Int32) &&& 31)) >>> ((24 : Int32) &&& 31) := by have h := xr43; exact h
                have d63 : dkN [(0, 0)] v42 := dkN_eq1 dv42 a43_0 rfl rfl
                refine dk_ist (k := 343) hx hb hK hW (fun _ => rfl) (by decide) hS (dkN_in (n := 320) dv40 rfl) dX6_set_66 (fun I64 H64 L64 eI64 hW hS => ?_)
                have hO := dkO_set hO eI64 (dkN_sub (dkN_top v43) rfl)
                have hF := dkF_set hF eI64 (dkIn_v dv40 rfl)
                refine lv_aload_n hx hb dX6_set_67 rfl (lv_at hl 0 rfl) ?_
                refine lv_aload_n hx hb dX6_set_68 rfl (lv_at hl 0 rfl) ?_
                refine dk_get (k := 340) hx hb hts iX6_set_6 hown hK (dk_at340 hW) rfl 2 (by decide) (hts (.fieldLink RX6 16 "DogKingsModel" "items" "[I") (List.mem_of_getElem? (i := 3) rfl)) rfl dX6_set_69 ?_
                refine lv_bipush (v := 40) hx hb dX6_set_72 (by decide) ?_
                refine lv_iload_n hx hb dX6_set_74 rfl (lv_at hl 1 rfl) ?_
                refine lv_imul hx hb dX6_set_75 ?_
                refine lv_topi (fun v65 ev65 => ?_)
                have dv65 : dkN [(0, 280)] v65 := by rw [ev65]; exact dkN_mulL 40 (by decide) (dkN_lit (x := 40) (40) rfl) d11 rfl
                have xv65 : v65 = (40 : Int32) * p0 := by rw [ev65]
                refine lv_iload_n hx hb dX6_set_76 rfl (lv_at hl 2 rfl) ?_
                refine lv_iadd hx hb dX6_set_77 ?_
                refine lv_topi (fun v66 ev66 => ?_)
                have dv66 : dkN [(0, 319)] v66 := by rw [ev66]; exact dkN_add dv65 d35 rfl
                have xv66 : v66 = ((40 : Int32) * p0) + p1 := by rw [ev66, xv65]
                refine dk_ild (k := 343) hx hb hK (dk_at343 hW) (dkN_in (n := 320) dv66 rfl) dX6_set_78 ?_
                refine lv_topi (fun v67 ev67 => ?_)
                have xv67 : v67 = (p2 <<< ((24 : Int32) &&& 31)) >>> ((24 : Int32) &&& 31) := ev67.trans (by rw [eI64, show v66 = v40 from xv66.trans xv40.symm, dkU_ss, xv43])
                refine dk_Vi (As := [.int v67]) (rest := []) ⟨hx, hb, hml, hown, hts⟩ (fx_X6_well_1 l g z I64 v67 hO) (cwV 1 hts gX6_set_X6_well rfl rfl rfl (by decide +kernel) ⟨Nat.le_of_ble_eq_true rfl, Nat.le_of_ble_eq_true rfl⟩) (dk_at340 hW) rfl hK hT hW hS rfl hl.1 rfl (Nat.le_of_ble_eq_true rfl) dX6_set_79 ⟨Nat.zero_le _, Nat.zero_le _⟩ (fun v68 I68 H68 L68 hp68 hW hS => ?_)
                obtain ⟨hF68, hO, hc68⟩ := hp68
                have hF := dkF_call hF hF68 rfl
                obtain ⟨_, f68_340_4, xr68, xh68_0, -⟩ := hc68
                have y69 : I68 340 4 = 0 := by have h := xh68_0; exact h
                have xv68 : v68 = ((p2 <<< ((24 : Int32) &&& 31)) >>> ((24 : Int32) &&& 31)) := by have h := xr68; rw [xv67] at h; exact h
                exact W.iret (v := v68) hx hb hr (fun t ht hW9 => ⟨⟨v68, I68, rfl, ⟨hF, hO, Or.inr (Or.inr (Or.inr (Or.inr (Or.inr (Or.inr (Or.inl ⟨trivial, dkN_sub d11 rfl, dkN_sub d35 rfl, (show dkN [(0, 0)] (I68 340 4) from dkN_sub f68_340_4 rfl), q9, q10, q14, q18, q33, q34, q39, q41, q62, xv68, y69, trivial⟩))))))⟩, dkW_eq ht hW⟩, hS.F ht⟩) hS.2.2 dX6_set_82
            ·
              exact (dkN_nil (show dkN [] v19 from dkN_eq1 dv19 (dkN_lit (x := 0) (0) rfl) (congrArg Int32.toInt c37) rfl)).elim
        ·
          exact absurd ((xv13).trans (rfl).symm) c15
      ·
        obtain ⟨dv13, x13_0, xr13, -⟩ := hc13
        have q70 : (I0 341 (Int32.toNatClampNeg p0)).toInt = (-1000000 : Int) := x13_0
        have xv13 : v13 = 1 := by have h := xr13; exact h
        refine lv_if_eq (tgt := 24) hx hb dX6_set_15 (by decide) (fun c71 => ?_) (fun c71 => ?_)
        ·
          exact (dkN_nil (show dkN [] v13 from dkN_eq1 dv13 (dkN_lit (x := 0) (0) rfl) (congrArg Int32.toInt c71) rfl)).elim
        ·
          refine lv_aload_n hx hb dX6_set_18 rfl (lv_at hl 0 rfl) ?_
          refine lv_iconst (v := 1) hx hb dX6_set_19 (by decide) ?_
          refine dk_Vi (As := [.int 1]) (rest := []) ⟨hx, hb, hml, hown, hts⟩ (fx_X6_found_6 l g z I0 1 (dkN_lit (x := 1) (1) rfl) hO) (cwV 1 hts gX6_set_X6_found rfl rfl rfl (by decide +kernel) ⟨Nat.le_of_ble_eq_true rfl, Nat.le_of_ble_eq_true rfl⟩) (dk_at340 hW) rfl hK hT hW hS rfl hl.1 rfl (Nat.le_of_ble_eq_true rfl) dX6_set_20 ⟨Nat.zero_le _, Nat.zero_le _⟩ (fun v72 I72 H72 L72 hp72 hW hS => ?_)
          obtain ⟨hF72, hO, hc72⟩ := hp72
          have hF := dkF_call hF hF72 rfl
          obtain ⟨dv72, f72_340_4, x72_0, xr72, xh72_0, -⟩ := hc72
          have q73 : ((-1000010 : Int32) - (1 : Int32)).toInt = (-1000010 : Int) - (1 : Int) := x72_0
          have y74 : I72 340 4 = 1 := by have h := xh72_0; exact h
          have xv72 : v72 = (-1000010 : Int32) - (1 : Int32) := by have h := xr72; exact h
          exact W.iret (v := v72) hx hb hr (fun t ht hW9 => ⟨⟨v72, I72, rfl, ⟨hF, hO, Or.inr (Or.inr (Or.inr (Or.inr (Or.inr (Or.inr (Or.inr (⟨dkN_sub dv72 rfl, dkN_sub d11 rfl, (show dkN [(1, 1)] (I72 340 4) from dkN_sub f72_340_4 rfl), q9, q10, q70, q73, xv72, y74, trivial⟩)))))))⟩, dkW_eq ht hW⟩, hS.F ht⟩) hS.2.2 dX6_set_23
    ·
      exact (dkN_nil (show dkN [] v1 from dkN_eq1 dv1 (dkN_lit (x := 0) (0) rfl) (congrArg Int32.toInt c12) rfl)).elim
set_option maxHeartbeats 4000000 in
set_option maxRecDepth 100000 in
theorem fx_X5_hasItems_3 (l : Launch) (g : dkG) (z : Nat) (I0 : dkI) (p0 : Int32) (p1 : Int32) (p2 : Int32) (dp0 : dkN [(0, 7)] p0)  (hO : dkOk I0) : Met l yX5_hasItems wsX5_hasItems (dkR 0) (dkPc g z [.ref (z + 0), .int p0, .int p1, .int p2] I0) (dkQi g z (fun r I1 => dkF [] I0 I1 ∧ dkOk I1 ∧ ((dkN [(0, 0)] r ∧ dkN [(-2147483648, -1)] p1 ∧ p1.toInt + 1 ≤ (0 : Int) ∧ r = 0 ∧ True) ∨ (dkN [(0, 0)] r ∧ dkN [(0, 2147483647)] p1 ∧ dkN [(-2147483648, -1)] p2 ∧ (0 : Int) + 0 ≤ p1.toInt ∧ p2.toInt + 1 ≤ (0 : Int) ∧ r = 0 ∧ True) ∨ (dkN [(0, 0)] r ∧ dkN [(0, 2147483647)] p1 ∧ dkN [(0, 2147483647)] p2 ∧ (0 : Int) + 0 ≤ p1.toInt ∧ (0 : Int) + 0 ≤ p2.toInt ∧ ((I0 11 (Int32.toNatClampNeg p0)) - p2).toInt = (I0 11 (Int32.toNatClampNeg p0)).toInt - p2.toInt ∧ ((I0 11 (Int32.toNatClampNeg p0)) - p2).toInt + 1 ≤ p1.toInt ∧ r = 0 ∧ True) ∨ (dkN [(1, 1)] r ∧ dkN [(0, 40)] p1 ∧ dkN [(0, 2147483647)] p2 ∧ p1.toInt + p2.toInt ≤ 40 ∧ (0 : Int) + 0 ≤ p1.toInt ∧ (0 : Int) + 0 ≤ p2.toInt ∧ ((I0 11 (Int32.toNatClampNeg p0)) - p2).toInt = (I0 11 (Int32.toNatClampNeg p0)).toInt - p2.toInt ∧ p1.toInt + 0 ≤ ((I0 11 (Int32.toNatClampNeg p0)) - p2).toInt ∧ r = 1 ∧ True)))) 0 0 (dkA z) := by
  refine Met.ofW (cc := cX5_hasItems) (maxL := 4) (ret := (some .boolean)) (by decide) rfl ?_
  intro p e s m args below meth c s₁ B hml hv
  obtain ⟨ha, hW, hK, hT⟩ := hv
  have hx := B.exec
  have hb := B.bytes
  have hr := B.returns
  have hts := atoms_spec (ws := wsX5_hasItems) B.pre
  have hown : s.vm.findClass RX5 = some m.cls := findClass_of_methodNamed B.named
  have hlocks := B.notSynchronized
  have hS : va_S (dkA z) s.heap s.heap [] := va_S.rf
  have hF : dkF [] I0 I0 := dkF_rf _ _
  have hl := lv_entry ([.ref (z + 0), .int p0, .int p1, .int p2]) (n := 4) (Nat.le_of_ble_eq_true rfl)
  have hgo : entryFrame m args 4 = entryFrame m ([.ref (z + 0), .int p0, .int p1, .int p2] : List Value).toArray 4 := by rw [ha]
  rw [hgo, lg_entry_eq]
  generalize (lg_sl ([.ref (z + 0), .int p0, .int p1, .int p2]) ++ List.replicate (4 - (lg_sl ([.ref (z + 0), .int p0, .int p1, .int p2])).length) Slot.unset).toArray = ls at hl ⊢
  have hl : lv_has ls 4 [(0, .ref (z + 0)), (1, .int p0), (2, .int p1), (3, .int p2)] := hl
  refine lv_iload_n hx hb dX5_hasItems_0 rfl (lv_at hl 2 rfl) ?_
  refine lv_if_lt (tgt := 24) hx hb dX5_hasItems_1 (by decide) (fun c1 => ?_) (fun c1 => ?_)
  ·
    have q2 : p1.toInt + 1 ≤ (0 : Int) := (dkc_lt c1)
    have d3 : dkN [(-2147483648, -1)] p1 := dkN_le1 1 (dkN_top p1) (dkN_lit (x := 0) (0) rfl) (dkc_lt c1) rfl
    refine lv_iconst (v := 0) hx hb dX5_hasItems_24 (by decide) ?_
    exact W.zret (v := 0) (ty := .boolean) hx hb hr rfl (fun t ht hW9 => ⟨⟨0, I0, rfl, ⟨hF, hO, Or.inl ⟨dkN_sub (dkN_lit (x := 0) (0) rfl) rfl, dkN_sub d3 rfl, q2, rfl, trivial⟩⟩, dkW_eq ht hW⟩, hS.F ht⟩) hS.2.2 dX5_hasItems_25
  ·
    have q4 : (0 : Int) + 0 ≤ p1.toInt := (dkc_nlt c1)
    have d5 : dkN [(0, 2147483647)] p1 := dkN_le2 0 (dkN_lit (x := 0) (0) rfl) (dkN_top p1) (dkc_nlt c1) rfl
    refine lv_iload_n hx hb dX5_hasItems_4 rfl (lv_at hl 3 rfl) ?_
    refine lv_if_lt (tgt := 24) hx hb dX5_hasItems_5 (by decide) (fun c6 => ?_) (fun c6 => ?_)
    ·
      have q7 : p2.toInt + 1 ≤ (0 : Int) := (dkc_lt c6)
      have d8 : dkN [(-2147483648, -1)] p2 := dkN_le1 1 (dkN_top p2) (dkN_lit (x := 0) (0) rfl) (dkc_lt c6) rfl
      refine lv_iconst (v := 0) hx hb dX5_hasItems_24 (by decide) ?_
      exact W.zret (v := 0) (ty := .boolean) hx hb hr rfl (fun t ht hW9 => ⟨⟨0, I0, rfl, ⟨hF, hO, Or.inr (Or.inl ⟨dkN_sub (dkN_lit (x := 0) (0) rfl) rfl, dkN_sub d5 rfl, dkN_sub d8 rfl, q4, q7, rfl, trivial⟩)⟩, dkW_eq ht hW⟩, hS.F ht⟩) hS.2.2 dX5_hasItems_25
    ·
      have q9 : (0 : Int) + 0 ≤ p2.toInt := (dkc_nlt c6)
      have d10 : dkN [(0, 2147483647)] p2 := dkN_le2 0 (dkN_lit (x := 0) (0) rfl) (dkN_top p2) (dkc_nlt c6) rfl
      refine lv_iload_n hx hb dX5_hasItems_8 rfl (lv_at hl 2 rfl) ?_
      refine lv_aload_n hx hb dX5_hasItems_9 rfl (lv_at hl 0 rfl) ?_
      refine dk_get (k := 0) hx hb hts iX5_hasItems_5 hown hK (dk_at0 hW) rfl 2 (by decide) (hts (.fieldLink RX5 18 "DogKings" "sizes" "[I") (List.mem_of_getElem? (i := 1) rfl)) rfl dX5_hasItems_10 ?_
      refine lv_iload_n hx hb dX5_hasItems_13 rfl (lv_at hl 1 rfl) ?_
      refine dk_ild (k := 11) hx hb hK (dk_at11 hW) (dkN_in (n := 8) dp0 rfl) dX5_hasItems_14 ?_
      refine lv_topi (fun v11 ev11 => ?_)
      have dv11 : dkN [(-1, 40)] v11 := by rw [ev11]; exact (hO 11 _)
      have xv11 : v11 = I0 11 (Int32.toNatClampNeg p0) := ev11.trans rfl
      refine lv_iload_n hx hb dX5_hasItems_15 rfl (lv_at hl 3 rfl) ?_
      refine lv_isub hx hb dX5_hasItems_16 ?_
      refine lv_topi (fun v12 ev12 => ?_)
      have dv12 : dkN [(-2147483648, 40)] v12 := by rw [ev12]; exact dkN_subt dv11 d10 rfl
      have xv12 : v12 = (I0 11 (Int32.toNatClampNeg p0)) - p2 := by rw [ev12, xv11]
      have q13 : ((I0 11 (Int32.toNatClampNeg p0)) - p2).toInt = (I0 11 (Int32.toNatClampNeg p0)).toInt - p2.toInt := by first | (rw [← xv12, ← xv11]; exact (by rw [ev12]; exact dk_subE dv11 d10 rfl)) | (subst xv12 xv11; exact (by rw [ev12]; exact dk_subE dv11 d10 rfl))
      refine lv_icmp_gt (tgt := 24) hx hb dX5_hasItems_17 (by decide) (fun c14 => ?_) (fun c14 => ?_)
      ·
        have q15 : ((I0 11 (Int32.toNatClampNeg p0)) - p2).toInt + 1 ≤ p1.toInt := by first | (rw [← xv12]; exact (dkc_lt c14)) | (subst xv12; exact (dkc_lt c14))
        refine lv_iconst (v := 0) hx hb dX5_hasItems_24 (by decide) ?_
        exact W.zret (v := 0) (ty := .boolean) hx hb hr rfl (fun t ht hW9 => ⟨⟨0, I0, rfl, ⟨hF, hO, Or.inr (Or.inr (Or.inl ⟨dkN_sub (dkN_lit (x := 0) (0) rfl) rfl, dkN_sub d5 rfl, dkN_sub d10 rfl, q4, q9, q13, q15, rfl, trivial⟩))⟩, dkW_eq ht hW⟩, hS.F ht⟩) hS.2.2 dX5_hasItems_25
      ·
        have q16 : p1.toInt + 0 ≤ ((I0 11 (Int32.toNatClampNeg p0)) - p2).toInt := by first | (rw [← xv12]; exact (dkc_nlt c14)) | (subst xv12; exact (dkc_nlt c14))
        have d17 : dkN [(0, 40)] v12 := dkN_le2 0 d5 dv12 (dkc_nlt c14) rfl
        have d18 : dkN [(0, 40)] p1 := dkN_le1 0 d5 dv12 (dkc_nlt c14) rfl
        refine lv_iconst (v := 1) hx hb dX5_hasItems_20 (by decide) ?_
        refine lv_goto (tgt := 25) hx hb dX5_hasItems_21 (by decide) ?_
        exact W.zret (v := 1) (ty := .boolean) hx hb hr rfl (fun t ht hW9 => ⟨⟨1, I0, rfl, ⟨hF, hO, Or.inr (Or.inr (Or.inr (⟨dkN_sub (dkN_lit (x := 1) (1) rfl) rfl, dkN_sub d18 rfl, dkN_sub d10 rfl, (dk_relsubR ev12 dv11 d10 (dkc_nlt c14) rfl), q4, q9, q13, q16, rfl, trivial⟩)))⟩, dkW_eq ht hW⟩, hS.F ht⟩) hS.2.2 dX5_hasItems_25
set_option maxHeartbeats 4000000 in
set_option maxRecDepth 100000 in
theorem fx_X5_hasItems_4 (l : Launch) (g : dkG) (z : Nat) (I0 : dkI) (p0 : Int32) (p1 : Int32) (p2 : Int32) (dp0 : dkN [(0, 7)] p0) (dp2 : dkN [(0, 2147483647)] p2)  (hO : dkOk I0) : Met l yX5_hasItems wsX5_hasItems (dkR 0) (dkPc g z [.ref (z + 0), .int p0, .int p1, .int p2] I0) (dkQi g z (fun r I1 => dkF [] I0 I1 ∧ dkOk I1 ∧ ((dkN [(0, 0)] r ∧ dkN [(-2147483648, -1)] p1 ∧ p1.toInt + 1 ≤ (0 : Int) ∧ r = 0 ∧ True) ∨ (dkN [(0, 0)] r ∧ dkN [(0, 2147483647)] p1 ∧ (0 : Int) + 0 ≤ p1.toInt ∧ (0 : Int) + 0 ≤ p2.toInt ∧ ((I0 11 (Int32.toNatClampNeg p0)) - p2).toInt = (I0 11 (Int32.toNatClampNeg p0)).toInt - p2.toInt ∧ ((I0 11 (Int32.toNatClampNeg p0)) - p2).toInt + 1 ≤ p1.toInt ∧ r = 0 ∧ True) ∨ (dkN [(1, 1)] r ∧ dkN [(0, 40)] p1 ∧ p1.toInt + p2.toInt ≤ 40 ∧ (0 : Int) + 0 ≤ p1.toInt ∧ (0 : Int) + 0 ≤ p2.toInt ∧ ((I0 11 (Int32.toNatClampNeg p0)) - p2).toInt = (I0 11 (Int32.toNatClampNeg p0)).toInt - p2.toInt ∧ p1.toInt + 0 ≤ ((I0 11 (Int32.toNatClampNeg p0)) - p2).toInt ∧ r = 1 ∧ True)))) 0 0 (dkA z) := by
  refine Met.ofW (cc := cX5_hasItems) (maxL := 4) (ret := (some .boolean)) (by decide) rfl ?_
  intro p e s m args below meth c s₁ B hml hv
  obtain ⟨ha, hW, hK, hT⟩ := hv
  have hx := B.exec
  have hb := B.bytes
  have hr := B.returns
  have hts := atoms_spec (ws := wsX5_hasItems) B.pre
  have hown : s.vm.findClass RX5 = some m.cls := findClass_of_methodNamed B.named
  have hlocks := B.notSynchronized
  have hS : va_S (dkA z) s.heap s.heap [] := va_S.rf
  have hF : dkF [] I0 I0 := dkF_rf _ _
  have hl := lv_entry ([.ref (z + 0), .int p0, .int p1, .int p2]) (n := 4) (Nat.le_of_ble_eq_true rfl)
  have hgo : entryFrame m args 4 = entryFrame m ([.ref (z + 0), .int p0, .int p1, .int p2] : List Value).toArray 4 := by rw [ha]
  rw [hgo, lg_entry_eq]
  generalize (lg_sl ([.ref (z + 0), .int p0, .int p1, .int p2]) ++ List.replicate (4 - (lg_sl ([.ref (z + 0), .int p0, .int p1, .int p2])).length) Slot.unset).toArray = ls at hl ⊢
  have hl : lv_has ls 4 [(0, .ref (z + 0)), (1, .int p0), (2, .int p1), (3, .int p2)] := hl
  refine lv_iload_n hx hb dX5_hasItems_0 rfl (lv_at hl 2 rfl) ?_
  refine lv_if_lt (tgt := 24) hx hb dX5_hasItems_1 (by decide) (fun c1 => ?_) (fun c1 => ?_)
  ·
    have q2 : p1.toInt + 1 ≤ (0 : Int) := (dkc_lt c1)
    have d3 : dkN [(-2147483648, -1)] p1 := dkN_le1 1 (dkN_top p1) (dkN_lit (x := 0) (0) rfl) (dkc_lt c1) rfl
    refine lv_iconst (v := 0) hx hb dX5_hasItems_24 (by decide) ?_
    exact W.zret (v := 0) (ty := .boolean) hx hb hr rfl (fun t ht hW9 => ⟨⟨0, I0, rfl, ⟨hF, hO, Or.inl ⟨dkN_sub (dkN_lit (x := 0) (0) rfl) rfl, dkN_sub d3 rfl, q2, rfl, trivial⟩⟩, dkW_eq ht hW⟩, hS.F ht⟩) hS.2.2 dX5_hasItems_25
  ·
    have q4 : (0 : Int) + 0 ≤ p1.toInt := (dkc_nlt c1)
    have d5 : dkN [(0, 2147483647)] p1 := dkN_le2 0 (dkN_lit (x := 0) (0) rfl) (dkN_top p1) (dkc_nlt c1) rfl
    refine lv_iload_n hx hb dX5_hasItems_4 rfl (lv_at hl 3 rfl) ?_
    refine lv_if_lt (tgt := 24) hx hb dX5_hasItems_5 (by decide) (fun c6 => ?_) (fun c6 => ?_)
    ·
      exact (dkN_nil (show dkN [] p2 from dkN_le1 1 dp2 (dkN_lit (x := 0) (0) rfl) (dkc_lt c6) rfl)).elim
    ·
      have q7 : (0 : Int) + 0 ≤ p2.toInt := (dkc_nlt c6)
      refine lv_iload_n hx hb dX5_hasItems_8 rfl (lv_at hl 2 rfl) ?_
      refine lv_aload_n hx hb dX5_hasItems_9 rfl (lv_at hl 0 rfl) ?_
      refine dk_get (k := 0) hx hb hts iX5_hasItems_5 hown hK (dk_at0 hW) rfl 2 (by decide) (hts (.fieldLink RX5 18 "DogKings" "sizes" "[I") (List.mem_of_getElem? (i := 1) rfl)) rfl dX5_hasItems_10 ?_
      refine lv_iload_n hx hb dX5_hasItems_13 rfl (lv_at hl 1 rfl) ?_
      refine dk_ild (k := 11) hx hb hK (dk_at11 hW) (dkN_in (n := 8) dp0 rfl) dX5_hasItems_14 ?_
      refine lv_topi (fun v8 ev8 => ?_)
      have dv8 : dkN [(-1, 40)] v8 := by rw [ev8]; exact (hO 11 _)
      have xv8 : v8 = I0 11 (Int32.toNatClampNeg p0) := ev8.trans rfl
      refine lv_iload_n hx hb dX5_hasItems_15 rfl (lv_at hl 3 rfl) ?_
      refine lv_isub hx hb dX5_hasItems_16 ?_
      refine lv_topi (fun v9 ev9 => ?_)
      have dv9 : dkN [(-2147483648, 40)] v9 := by rw [ev9]; exact dkN_subt dv8 dp2 rfl
      have xv9 : v9 = (I0 11 (Int32.toNatClampNeg p0)) - p2 := by rw [ev9, xv8]
      have q10 : ((I0 11 (Int32.toNatClampNeg p0)) - p2).toInt = (I0 11 (Int32.toNatClampNeg p0)).toInt - p2.toInt := by first | (rw [← xv9, ← xv8]; exact (by rw [ev9]; exact dk_subE dv8 dp2 rfl)) | (subst xv9 xv8; exact (by rw [ev9]; exact dk_subE dv8 dp2 rfl))
      refine lv_icmp_gt (tgt := 24) hx hb dX5_hasItems_17 (by decide) (fun c11 => ?_) (fun c11 => ?_)
      ·
        have q12 : ((I0 11 (Int32.toNatClampNeg p0)) - p2).toInt + 1 ≤ p1.toInt := by first | (rw [← xv9]; exact (dkc_lt c11)) | (subst xv9; exact (dkc_lt c11))
        refine lv_iconst (v := 0) hx hb dX5_hasItems_24 (by decide) ?_
        exact W.zret (v := 0) (ty := .boolean) hx hb hr rfl (fun t ht hW9 => ⟨⟨0, I0, rfl, ⟨hF, hO, Or.inr (Or.inl ⟨dkN_sub (dkN_lit (x := 0) (0) rfl) rfl, dkN_sub d5 rfl, q4, q7, q10, q12, rfl, trivial⟩)⟩, dkW_eq ht hW⟩, hS.F ht⟩) hS.2.2 dX5_hasItems_25
      ·
        have q13 : p1.toInt + 0 ≤ ((I0 11 (Int32.toNatClampNeg p0)) - p2).toInt := by first | (rw [← xv9]; exact (dkc_nlt c11)) | (subst xv9; exact (dkc_nlt c11))
        have d14 : dkN [(0, 40)] v9 := dkN_le2 0 d5 dv9 (dkc_nlt c11) rfl
        have d15 : dkN [(0, 40)] p1 := dkN_le1 0 d5 dv9 (dkc_nlt c11) rfl
        refine lv_iconst (v := 1) hx hb dX5_hasItems_20 (by decide) ?_
        refine lv_goto (tgt := 25) hx hb dX5_hasItems_21 (by decide) ?_
        exact W.zret (v := 1) (ty := .boolean) hx hb hr rfl (fun t ht hW9 => ⟨⟨1, I0, rfl, ⟨hF, hO, Or.inr (Or.inr (⟨dkN_sub (dkN_lit (x := 1) (1) rfl) rfl, dkN_sub d15 rfl, (dk_relsubR ev9 dv8 dp2 (dkc_nlt c11) rfl), q4, q7, q10, q13, rfl, trivial⟩))⟩, dkW_eq ht hW⟩, hS.F ht⟩) hS.2.2 dX5_hasItems_25
set_option maxHeartbeats 4000000 in
set_option maxRecDepth 100000 in
theorem fx_X5_found_8 (l : Launch) (g : dkG) (z : Nat) (I0 : dkI) (p0 : Int32) (dp0 : dkN [(5, 5)] p0)  (hO : dkOk I0) : Met l yX5_found wsX5_found (dkR 0) (dkPc g z [.ref (z + 0), .int p0] I0) (dkQi g z (fun r I1 => dkF [(0, 0, 3, 3)] I0 I1 ∧ dkOk I1 ∧ ((dkN [(-1000015, -1000015)] r ∧ dkN [(5, 5)] (I1 0 3) ∧ ((-1000010 : Int32) - p0).toInt = (-1000010 : Int) - p0.toInt ∧ r = (-1000010 : Int32) - p0 ∧ I1 0 3 = p0 ∧ True)))) 0 0 (dkA z) := by
  refine Met.ofW (cc := cX5_found) (maxL := 2) (ret := (some .int)) (by decide) rfl ?_
  intro p e s m args below meth c s₁ B hml hv
  obtain ⟨ha, hW, hK, hT⟩ := hv
  have hx := B.exec
  have hb := B.bytes
  have hr := B.returns
  have hts := atoms_spec (ws := wsX5_found) B.pre
  have hown : s.vm.findClass RX5 = some m.cls := findClass_of_methodNamed B.named
  have hlocks := B.notSynchronized
  have hS : va_S (dkA z) s.heap s.heap [] := va_S.rf
  have hF : dkF [(0, 0, 3, 3)] I0 I0 := dkF_rf _ _
  have hl := lv_entry ([.ref (z + 0), .int p0]) (n := 2) (Nat.le_of_ble_eq_true rfl)
  have hgo : entryFrame m args 2 = entryFrame m ([.ref (z + 0), .int p0] : List Value).toArray 2 := by rw [ha]
  rw [hgo, lg_entry_eq]
  generalize (lg_sl ([.ref (z + 0), .int p0]) ++ List.replicate (2 - (lg_sl ([.ref (z + 0), .int p0])).length) Slot.unset).toArray = ls at hl ⊢
  have hl : lv_has ls 2 [(0, .ref (z + 0)), (1, .int p0)] := hl
  refine lv_aload_n hx hb dX5_found_0 rfl (lv_at hl 0 rfl) ?_
  refine lv_iload_n hx hb dX5_found_1 rfl (lv_at hl 1 rfl) ?_
  refine dk_put (k := 0) hx hb hts iX5_found_5 tyX5 tyX5_ok nmX5 hown hK hW (dk_at0 hW) hS rfl 3 (by decide) (hts (.fieldLink RX5 292 "DogKings" "finding" "I") (List.mem_of_getElem? (i := 1) rfl)) rfl rfl (Nat.le_of_ble_eq_true rfl) rfl dX5_found_2 (fun I1 H1 L1 eI1 hW hS => ?_)
  have eI1 : I1 = dkU I0 0 3 p0 := eI1
  have hO := dkO_set hO eI1 (dkN_sub dp0 rfl)
  have hF := dkF_set hF eI1 rfl
  refine lv_ldcw (v := (-1000010)) hx hb hown (hts (.constant RX5 295 (-1000010)) (List.mem_of_getElem? (i := 2) rfl)) dX5_found_5 ?_
  refine lv_iload_n hx hb dX5_found_8 rfl (lv_at hl 1 rfl) ?_
  refine lv_isub hx hb dX5_found_9 ?_
  refine lv_topi (fun v2 ev2 => ?_)
  have dv2 : dkN [(-1000015, -1000015)] v2 := by rw [ev2]; exact dkN_subt (dkN_lit (x := (-1000010)) (-1000010) rfl) dp0 rfl
  have xv2 : v2 = (-1000010 : Int32) - p0 := by rw [ev2]
  have q3 : ((-1000010 : Int32) - p0).toInt = (-1000010 : Int) - p0.toInt := by first | (rw [← xv2]; exact (by rw [ev2]; exact dk_subE (dkN_lit (x := (-1000010)) (-1000010) rfl) dp0 rfl)) | (subst xv2; exact (by rw [ev2]; exact dk_subE (dkN_lit (x := (-1000010)) (-1000010) rfl) dp0 rfl))
  exact W.iret (v := v2) hx hb hr (fun t ht hW9 => ⟨⟨v2, I1, rfl, ⟨hF, hO, ⟨dkN_sub dv2 rfl, (show dkN [(5, 5)] (I1 0 3) from dkN_sub (by rw [eI1, dkU_ss]; exact dp0) rfl), q3, xv2, (by rw [eI1, dkU_ss]), trivial⟩⟩, dkW_eq ht hW⟩, hS.F ht⟩) hS.2.2 dX5_found_10
set_option maxHeartbeats 4000000 in
set_option maxRecDepth 100000 in
theorem fx_X5_copy_1 (l : Launch) (g : dkG) (z : Nat) (I0 : dkI) (p0 : Int32) (p1 : Int32) (p2 : Int32) (p3 : Int32) (p4 : Int32)  (hO : dkOk I0) : Met l yX5_copy wsX5_copy (dkR 2) (dkPc g z [.ref (z + 0), .int p0, .int p1, .int p2, .int p3, .int p4] I0) (dkQi g z (fun r I1 => dkF [(2, 9, 0, 2147483647), (0, 0, 3, 3)] I0 I1 ∧ dkOk I1 ∧ ((dkN [(-1000001, -1000001)] r ∧ dkN [(-2147483648, -1)] p0 ∧ p0.toInt + 1 ≤ (0 : Int) ∧ r = (-1000001) ∧ I1 0 3 = I0 0 3 ∧ True) ∨ (dkN [(-1000001, -1000001)] r ∧ dkN [(8, 2147483647)] p0 ∧ (0 : Int) + 0 ≤ p0.toInt ∧ (7 : Int) + 1 ≤ p0.toInt ∧ r = (-1000001) ∧ I1 0 3 = I0 0 3 ∧ True) ∨ (dkN [(-1000001, -1000001)] r ∧ dkN [(0, 7)] p0 ∧ dkN [(-2147483648, -1)] p2 ∧ (0 : Int) + 0 ≤ p0.toInt ∧ p0.toInt + 0 ≤ (7 : Int) ∧ p2.toInt + 1 ≤ (0 : Int) ∧ r = (-1000001) ∧ I1 0 3 = I0 0 3 ∧ True) ∨ (dkN [(-1000001, -1000001)] r ∧ dkN [(0, 7)] p0 ∧ dkN [(8, 2147483647)] p2 ∧ (0 : Int) + 0 ≤ p0.toInt ∧ p0.toInt + 0 ≤ (7 : Int) ∧ (0 : Int) + 0 ≤ p2.toInt ∧ (7 : Int) + 1 ≤ p2.toInt ∧ r = (-1000001) ∧ I1 0 3 = I0 0 3 ∧ True) ∨ (dkN [(-1000012, -1000012)] r ∧ dkN [(0, 7)] p0 ∧ dkN [(-2147483648, -1)] p1 ∧ dkN [(0, 7)] p2 ∧ dkN [(2, 2)] (I1 0 3) ∧ (0 : Int) + 0 ≤ p0.toInt ∧ p0.toInt + 0 ≤ (7 : Int) ∧ (0 : Int) + 0 ≤ p2.toInt ∧ p2.toInt + 0 ≤ (7 : Int) ∧ (I0 11 (Int32.toNatClampNeg p0)).toInt ≠ (-1 : Int) ∧ (I0 11 (Int32.toNatClampNeg p2)).toInt ≠ (-1 : Int) ∧ (I0 10 (Int32.toNatClampNeg p0)).toInt = (I0 10 (Int32.toNatClampNeg p2)).toInt ∧ p1.toInt + 1 ≤ (0 : Int) ∧ ((-1000010 : Int32) - (2 : Int32)).toInt = (-1000010 : Int) - (2 : Int) ∧ r = (-1000010 : Int32) - (2 : Int32) ∧ I1 0 3 = 2 ∧ True) ∨ (dkN [(-1000012, -1000012)] r ∧ dkN [(0, 7)] p0 ∧ dkN [(0, 2147483647)] p1 ∧ dkN [(0, 7)] p2 ∧ dkN [(-2147483648, -1)] p4 ∧ dkN [(2, 2)] (I1 0 3) ∧ (0 : Int) + 0 ≤ p0.toInt ∧ p0.toInt + 0 ≤ (7 : Int) ∧ (0 : Int) + 0 ≤ p2.toInt ∧ p2.toInt + 0 ≤ (7 : Int) ∧ (I0 11 (Int32.toNatClampNeg p0)).toInt ≠ (-1 : Int) ∧ (I0 11 (Int32.toNatClampNeg p2)).toInt ≠ (-1 : Int) ∧ (I0 10 (Int32.toNatClampNeg p0)).toInt = (I0 10 (Int32.toNatClampNeg p2)).toInt ∧ (0 : Int) + 0 ≤ p1.toInt ∧ p4.toInt + 1 ≤ (0 : Int) ∧ ((-1000010 : Int32) - (2 : Int32)).toInt = (-1000010 : Int) - (2 : Int) ∧ r = (-1000010 : Int32) - (2 : Int32) ∧ I1 0 3 = 2 ∧ True) ∨ (dkN [(-1000012, -1000012)] r ∧ dkN [(0, 7)] p0 ∧ dkN [(0, 2147483647)] p1 ∧ dkN [(0, 7)] p2 ∧ dkN [(0, 2147483647)] p4 ∧ dkN [(2, 2)] (I1 0 3) ∧ (0 : Int) + 0 ≤ p0.toInt ∧ p0.toInt + 0 ≤ (7 : Int) ∧ (0 : Int) + 0 ≤ p2.toInt ∧ p2.toInt + 0 ≤ (7 : Int) ∧ (I0 11 (Int32.toNatClampNeg p0)).toInt ≠ (-1 : Int) ∧ (I0 11 (Int32.toNatClampNeg p2)).toInt ≠ (-1 : Int) ∧ (I0 10 (Int32.toNatClampNeg p0)).toInt = (I0 10 (Int32.toNatClampNeg p2)).toInt ∧ (0 : Int) + 0 ≤ p1.toInt ∧ (0 : Int) + 0 ≤ p4.toInt ∧ ((I0 11 (Int32.toNatClampNeg p0)) - p4).toInt = (I0 11 (Int32.toNatClampNeg p0)).toInt - p4.toInt ∧ ((I0 11 (Int32.toNatClampNeg p0)) - p4).toInt + 1 ≤ p1.toInt ∧ ((-1000010 : Int32) - (2 : Int32)).toInt = (-1000010 : Int) - (2 : Int) ∧ r = (-1000010 : Int32) - (2 : Int32) ∧ I1 0 3 = 2 ∧ True) ∨ (dkN [(-1000012, -1000012)] r ∧ dkN [(0, 7)] p0 ∧ dkN [(0, 40)] p1 ∧ dkN [(0, 7)] p2 ∧ dkN [(-2147483648, -1)] p3 ∧ dkN [(0, 2147483647)] p4 ∧ dkN [(2, 2)] (I1 0 3) ∧ (0 : Int) + 0 ≤ p0.toInt ∧ p0.toInt + 0 ≤ (7 : Int) ∧ (0 : Int) + 0 ≤ p2.toInt ∧ p2.toInt + 0 ≤ (7 : Int) ∧ (I0 11 (Int32.toNatClampNeg p0)).toInt ≠ (-1 : Int) ∧ (I0 11 (Int32.toNatClampNeg p2)).toInt ≠ (-1 : Int) ∧ (I0 10 (Int32.toNatClampNeg p0)).toInt = (I0 10 (Int32.toNatClampNeg p2)).toInt ∧ (0 : Int) + 0 ≤ p1.toInt ∧ (0 : Int) + 0 ≤ p4.toInt ∧ ((I0 11 (Int32.toNatClampNeg p0)) - p4).toInt = (I0 11 (Int32.toNatClampNeg p0)).toInt - p4.toInt ∧ p1.toInt + 0 ≤ ((I0 11 (Int32.toNatClampNeg p0)) - p4).toInt ∧ p3.toInt + 1 ≤ (0 : Int) ∧ ((-1000010 : Int32) - (2 : Int32)).toInt = (-1000010 : Int) - (2 : Int) ∧ r = (-1000010 : Int32) - (2 : Int32) ∧ I1 0 3 = 2 ∧ True) ∨ (dkN [(-1000012, -1000012)] r ∧ dkN [(0, 7)] p0 ∧ dkN [(0, 40)] p1 ∧ dkN [(0, 7)] p2 ∧ dkN [(0, 2147483647)] p3 ∧ dkN [(0, 2147483647)] p4 ∧ dkN [(2, 2)] (I1 0 3) ∧ (0 : Int) + 0 ≤ p0.toInt ∧ p0.toInt + 0 ≤ (7 : Int) ∧ (0 : Int) + 0 ≤ p2.toInt ∧ p2.toInt + 0 ≤ (7 : Int) ∧ (I0 11 (Int32.toNatClampNeg p0)).toInt ≠ (-1 : Int) ∧ (I0 11 (Int32.toNatClampNeg p2)).toInt ≠ (-1 : Int) ∧ (I0 10 (Int32.toNatClampNeg p0)).toInt = (I0 10 (Int32.toNatClampNeg p2)).toInt ∧ (0 : Int) + 0 ≤ p1.toInt ∧ (0 : Int) + 0 ≤ p4.toInt ∧ ((I0 11 (Int32.toNatClampNeg p0)) - p4).toInt = (I0 11 (Int32.toNatClampNeg p0)).toInt - p4.toInt ∧ p1.toInt + 0 ≤ ((I0 11 (Int32.toNatClampNeg p0)) - p4).toInt ∧ (0 : Int) + 0 ≤ p3.toInt ∧ ((I0 11 (Int32.toNatClampNeg p2)) - p4).toInt = (I0 11 (Int32.toNatClampNeg p2)).toInt - p4.toInt ∧ ((I0 11 (Int32.toNatClampNeg p2)) - p4).toInt + 1 ≤ p3.toInt ∧ ((-1000010 : Int32) - (2 : Int32)).toInt = (-1000010 : Int) - (2 : Int) ∧ r = (-1000010 : Int32) - (2 : Int32) ∧ I1 0 3 = 2 ∧ True) ∨ (True ∧ dkN [(0, 7)] p0 ∧ dkN [(0, 40)] p1 ∧ dkN [(0, 7)] p2 ∧ dkN [(0, 40)] p3 ∧ dkN [(0, 2147483647)] p4 ∧ dkN [(0, 0)] (I1 0 3) ∧ (0 : Int) + 0 ≤ p0.toInt ∧ p0.toInt + 0 ≤ (7 : Int) ∧ (0 : Int) + 0 ≤ p2.toInt ∧ p2.toInt + 0 ≤ (7 : Int) ∧ (I0 11 (Int32.toNatClampNeg p0)).toInt ≠ (-1 : Int) ∧ (I0 11 (Int32.toNatClampNeg p2)).toInt ≠ (-1 : Int) ∧ (I0 10 (Int32.toNatClampNeg p0)).toInt = (I0 10 (Int32.toNatClampNeg p2)).toInt ∧ (0 : Int) + 0 ≤ p1.toInt ∧ (0 : Int) + 0 ≤ p4.toInt ∧ ((I0 11 (Int32.toNatClampNeg p0)) - p4).toInt = (I0 11 (Int32.toNatClampNeg p0)).toInt - p4.toInt ∧ p1.toInt + 0 ≤ ((I0 11 (Int32.toNatClampNeg p0)) - p4).toInt ∧ (0 : Int) + 0 ≤ p3.toInt ∧ ((I0 11 (Int32.toNatClampNeg p2)) - p4).toInt = (I0 11 (Int32.toNatClampNeg p2)).toInt - p4.toInt ∧ p3.toInt + 0 ≤ ((I0 11 (Int32.toNatClampNeg p2)) - p4).toInt ∧ r = p4 ∧ I1 0 3 = 0 ∧ True) ∨ (dkN [(-1000015, -1000015)] r ∧ dkN [(0, 7)] p0 ∧ dkN [(0, 7)] p2 ∧ dkN [(5, 5)] (I1 0 3) ∧ (0 : Int) + 0 ≤ p0.toInt ∧ p0.toInt + 0 ≤ (7 : Int) ∧ (0 : Int) + 0 ≤ p2.toInt ∧ p2.toInt + 0 ≤ (7 : Int) ∧ (I0 11 (Int32.toNatClampNeg p0)).toInt ≠ (-1 : Int) ∧ (I0 11 (Int32.toNatClampNeg p2)).toInt ≠ (-1 : Int) ∧ (I0 10 (Int32.toNatClampNeg p0)).toInt ≠ (I0 10 (Int32.toNatClampNeg p2)).toInt ∧ ((-1000010 : Int32) - (5 : Int32)).toInt = (-1000010 : Int) - (5 : Int) ∧ r = (-1000010 : Int32) - (5 : Int32) ∧ I1 0 3 = 5 ∧ True) ∨ (dkN [(-1000011, -1000011)] r ∧ dkN [(0, 7)] p0 ∧ dkN [(0, 7)] p2 ∧ dkN [(1, 1)] (I1 0 3) ∧ (0 : Int) + 0 ≤ p0.toInt ∧ p0.toInt + 0 ≤ (7 : Int) ∧ (0 : Int) + 0 ≤ p2.toInt ∧ p2.toInt + 0 ≤ (7 : Int) ∧ (I0 11 (Int32.toNatClampNeg p0)).toInt ≠ (-1 : Int) ∧ (I0 11 (Int32.toNatClampNeg p2)).toInt = (-1 : Int) ∧ ((-1000010 : Int32) - (1 : Int32)).toInt = (-1000010 : Int) - (1 : Int) ∧ r = (-1000010 : Int32) - (1 : Int32) ∧ I1 0 3 = 1 ∧ True) ∨ (dkN [(-1000011, -1000011)] r ∧ dkN [(0, 7)] p0 ∧ dkN [(0, 7)] p2 ∧ dkN [(1, 1)] (I1 0 3) ∧ (0 : Int) + 0 ≤ p0.toInt ∧ p0.toInt + 0 ≤ (7 : Int) ∧ (0 : Int) + 0 ≤ p2.toInt ∧ p2.toInt + 0 ≤ (7 : Int) ∧ (I0 11 (Int32.toNatClampNeg p0)).toInt = (-1 : Int) ∧ ((-1000010 : Int32) - (1 : Int32)).toInt = (-1000010 : Int) - (1 : Int) ∧ r = (-1000010 : Int32) - (1 : Int32) ∧ I1 0 3 = 1 ∧ True)))) 0 0 (dkA z) := by
  refine Met.ofW (cc := cX5_copy) (maxL := 6) (ret := (some .int)) (by decide) rfl ?_
  intro p e s m args below meth c s₁ B hml hv
  obtain ⟨ha, hW, hK, hT⟩ := hv
  have hx := B.exec
  have hb := B.bytes
  have hr := B.returns
  have hts := atoms_spec (ws := wsX5_copy) B.pre
  have hown : s.vm.findClass RX5 = some m.cls := findClass_of_methodNamed B.named
  have hlocks := B.notSynchronized
  have hS : va_S (dkA z) s.heap s.heap [] := va_S.rf
  have hF : dkF [(2, 9, 0, 2147483647), (0, 0, 3, 3)] I0 I0 := dkF_rf _ _
  have hl := lv_entry ([.ref (z + 0), .int p0, .int p1, .int p2, .int p3, .int p4]) (n := 6) (Nat.le_of_ble_eq_true rfl)
  have hgo : entryFrame m args 6 = entryFrame m ([.ref (z + 0), .int p0, .int p1, .int p2, .int p3, .int p4] : List Value).toArray 6 := by rw [ha]
  rw [hgo, lg_entry_eq]
  generalize (lg_sl ([.ref (z + 0), .int p0, .int p1, .int p2, .int p3, .int p4]) ++ List.replicate (6 - (lg_sl ([.ref (z + 0), .int p0, .int p1, .int p2, .int p3, .int p4])).length) Slot.unset).toArray = ls at hl ⊢
  have hl : lv_has ls 6 [(0, .ref (z + 0)), (1, .int p0), (2, .int p1), (3, .int p2), (4, .int p3), (5, .int p4)] := hl
  refine lv_iload_n hx hb dX5_copy_0 rfl (lv_at hl 1 rfl) ?_
  refine dk_Si (As := [.int p0]) (rest := []) ⟨hx, hb, hml, hown, hts⟩ (fx_X5_isRow_1 l g z I0 p0 hO) (va_cwS 1 hts gX5_copy_X5_isRow rfl rfl rfl (by decide +kernel) ⟨Nat.le_of_ble_eq_true rfl, Nat.le_of_ble_eq_true rfl⟩) hK hT hW hS rfl hl.1 rfl (Nat.le_of_ble_eq_true rfl) dX5_copy_1 ⟨Nat.zero_le _, Nat.zero_le _⟩ (fun v1 I1 H1 L1 hp1 hW hS => ?_)
  obtain ⟨hF1, hO, hc1⟩ := hp1
  have hF := dkF_call hF hF1 rfl
  have eI1 : I0 = I1 := (dkF_nil hF1).symm
  subst eI1
  rcases hc1 with ⟨dv1, a1_0, x1_0, xr1, -⟩ | hc1
  ·
    have q2 : p0.toInt + 1 ≤ (0 : Int) := x1_0
    have xv1 : v1 = 0 := by have h := xr1; exact h
    have d3 : dkN [(-2147483648, -1)] p0 := dkN_eq1 (dkN_top p0) a1_0 rfl rfl
    refine lv_if_eq (tgt := 14) hx hb dX5_copy_4 (by decide) (fun c4 => ?_) (fun c4 => ?_)
    ·
      refine lv_ldc (v := (-1000001)) hx hb hown (hts (.constant RX5 70 (-1000001)) (List.mem_of_getElem? (i := 1) rfl)) dX5_copy_14 ?_
      exact W.iret (v := (-1000001)) hx hb hr (fun t ht hW9 => ⟨⟨(-1000001), I0, rfl, ⟨hF, hO, Or.inl ⟨dkN_sub (dkN_lit (x := (-1000001)) (-1000001) rfl) rfl, dkN_sub d3 rfl, q2, rfl, rfl, trivial⟩⟩, dkW_eq ht hW⟩, hS.F ht⟩) hS.2.2 dX5_copy_16
    ·
      exact absurd ((xv1).trans (rfl).symm) c4
  rcases hc1 with ⟨dv1, a1_0, x1_0, x1_1, xr1, -⟩ | hc1
  ·
    have q5 : (0 : Int) + 0 ≤ p0.toInt := x1_0
    have q6 : (7 : Int) + 1 ≤ p0.toInt := x1_1
    have xv1 : v1 = 0 := by have h := xr1; exact h
    have d7 : dkN [(8, 2147483647)] p0 := dkN_eq1 (dkN_top p0) a1_0 rfl rfl
    refine lv_if_eq (tgt := 14) hx hb dX5_copy_4 (by decide) (fun c8 => ?_) (fun c8 => ?_)
    ·
      refine lv_ldc (v := (-1000001)) hx hb hown (hts (.constant RX5 70 (-1000001)) (List.mem_of_getElem? (i := 1) rfl)) dX5_copy_14 ?_
      exact W.iret (v := (-1000001)) hx hb hr (fun t ht hW9 => ⟨⟨(-1000001), I0, rfl, ⟨hF, hO, Or.inr (Or.inl ⟨dkN_sub (dkN_lit (x := (-1000001)) (-1000001) rfl) rfl, dkN_sub d7 rfl, q5, q6, rfl, rfl, trivial⟩)⟩, dkW_eq ht hW⟩, hS.F ht⟩) hS.2.2 dX5_copy_16
    ·
      exact absurd ((xv1).trans (rfl).symm) c8
  ·
    obtain ⟨dv1, a1_0, x1_0, x1_1, xr1, -⟩ := hc1
    have q9 : (0 : Int) + 0 ≤ p0.toInt := x1_0
    have q10 : p0.toInt + 0 ≤ (7 : Int) := x1_1
    have xv1 : v1 = 1 := by have h := xr1; exact h
    have d11 : dkN [(0, 7)] p0 := dkN_eq1 (dkN_top p0) a1_0 rfl rfl
    refine lv_if_eq (tgt := 14) hx hb dX5_copy_4 (by decide) (fun c12 => ?_) (fun c12 => ?_)
    ·
      exact (dkN_nil (show dkN [] v1 from dkN_eq1 dv1 (dkN_lit (x := 0) (0) rfl) (congrArg Int32.toInt c12) rfl)).elim
    ·
      refine lv_iload_n hx hb dX5_copy_7 rfl (lv_at hl 3 rfl) ?_
      refine dk_Si (As := [.int p2]) (rest := []) ⟨hx, hb, hml, hown, hts⟩ (fx_X5_isRow_1 l g z I0 p2 hO) (va_cwS 1 hts gX5_copy_X5_isRow rfl rfl rfl (by decide +kernel) ⟨Nat.le_of_ble_eq_true rfl, Nat.le_of_ble_eq_true rfl⟩) hK hT hW hS rfl hl.1 rfl (Nat.le_of_ble_eq_true rfl) dX5_copy_8 ⟨Nat.zero_le _, Nat.zero_le _⟩ (fun v13 I13 H13 L13 hp13 hW hS => ?_)
      obtain ⟨hF13, hO, hc13⟩ := hp13
      have hF := dkF_call hF hF13 rfl
      have eI13 : I0 = I13 := (dkF_nil hF13).symm
      subst eI13
      rcases hc13 with ⟨dv13, a13_0, x13_0, xr13, -⟩ | hc13
      ·
        have q14 : p2.toInt + 1 ≤ (0 : Int) := x13_0
        have xv13 : v13 = 0 := by have h := xr13; exact h
        have d15 : dkN [(-2147483648, -1)] p2 := dkN_eq1 (dkN_top p2) a13_0 rfl rfl
        refine lv_if_ne (tgt := 17) hx hb dX5_copy_11 (by decide) (fun c16 => ?_) (fun c16 => ?_)
        ·
          exact absurd ((xv13).trans (rfl).symm) c16
        ·
          refine lv_ldc (v := (-1000001)) hx hb hown (hts (.constant RX5 70 (-1000001)) (List.mem_of_getElem? (i := 1) rfl)) dX5_copy_14 ?_
          exact W.iret (v := (-1000001)) hx hb hr (fun t ht hW9 => ⟨⟨(-1000001), I0, rfl, ⟨hF, hO, Or.inr (Or.inr (Or.inl ⟨dkN_sub (dkN_lit (x := (-1000001)) (-1000001) rfl) rfl, dkN_sub d11 rfl, dkN_sub d15 rfl, q9, q10, q14, rfl, rfl, trivial⟩))⟩, dkW_eq ht hW⟩, hS.F ht⟩) hS.2.2 dX5_copy_16
      rcases hc13 with ⟨dv13, a13_0, x13_0, x13_1, xr13, -⟩ | hc13
      ·
        have q17 : (0 : Int) + 0 ≤ p2.toInt := x13_0
        have q18 : (7 : Int) + 1 ≤ p2.toInt := x13_1
        have xv13 : v13 = 0 := by have h := xr13; exact h
        have d19 : dkN [(8, 2147483647)] p2 := dkN_eq1 (dkN_top p2) a13_0 rfl rfl
        refine lv_if_ne (tgt := 17) hx hb dX5_copy_11 (by decide) (fun c20 => ?_) (fun c20 => ?_)
        ·
          exact absurd ((xv13).trans (rfl).symm) c20
        ·
          refine lv_ldc (v := (-1000001)) hx hb hown (hts (.constant RX5 70 (-1000001)) (List.mem_of_getElem? (i := 1) rfl)) dX5_copy_14 ?_
          exact W.iret (v := (-1000001)) hx hb hr (fun t ht hW9 => ⟨⟨(-1000001), I0, rfl, ⟨hF, hO, Or.inr (Or.inr (Or.inr (Or.inl ⟨dkN_sub (dkN_lit (x := (-1000001)) (-1000001) rfl) rfl, dkN_sub d11 rfl, dkN_sub d19 rfl, q9, q10, q17, q18, rfl, rfl, trivial⟩)))⟩, dkW_eq ht hW⟩, hS.F ht⟩) hS.2.2 dX5_copy_16
      ·
        obtain ⟨dv13, a13_0, x13_0, x13_1, xr13, -⟩ := hc13
        have q21 : (0 : Int) + 0 ≤ p2.toInt := x13_0
        have q22 : p2.toInt + 0 ≤ (7 : Int) := x13_1
        have xv13 : v13 = 1 := by have h := xr13; exact h
        have d23 : dkN [(0, 7)] p2 := dkN_eq1 (dkN_top p2) a13_0 rfl rfl
        refine lv_if_ne (tgt := 17) hx hb dX5_copy_11 (by decide) (fun c24 => ?_) (fun c24 => ?_)
        ·
          refine lv_aload_n hx hb dX5_copy_17 rfl (lv_at hl 0 rfl) ?_
          refine lv_iload_n hx hb dX5_copy_18 rfl (lv_at hl 1 rfl) ?_
          refine dk_Vi (As := [.int p0]) (rest := []) ⟨hx, hb, hml, hown, hts⟩ (fx_X5_isMissing_1 l g z I0 p0 d11 hO) (cwV 1 hts gX5_copy_X5_isMissing rfl rfl rfl (by decide +kernel) ⟨Nat.le_of_ble_eq_true rfl, Nat.le_of_ble_eq_true rfl⟩) (dk_at0 hW) rfl hK hT hW hS rfl hl.1 rfl (Nat.le_of_ble_eq_true rfl) dX5_copy_19 ⟨Nat.zero_le _, Nat.zero_le _⟩ (fun v25 I25 H25 L25 hp25 hW hS => ?_)
          obtain ⟨hF25, hO, hc25⟩ := hp25
          have hF := dkF_call hF hF25 rfl
          have eI25 : I0 = I25 := (dkF_nil hF25).symm
          subst eI25
          rcases hc25 with ⟨dv25, x25_0, xr25, -⟩ | hc25
          ·
            have q26 : (I0 11 (Int32.toNatClampNeg p0)).toInt ≠ (-1 : Int) := x25_0
            have xv25 : v25 = 0 := by have h := xr25; exact h
            refine lv_if_ne (tgt := 33) hx hb dX5_copy_22 (by decide) (fun c27 => ?_) (fun c27 => ?_)
            ·
              exact absurd ((xv25).trans (rfl).symm) c27
            ·
              refine lv_aload_n hx hb dX5_copy_25 rfl (lv_at hl 0 rfl) ?_
              refine lv_iload_n hx hb dX5_copy_26 rfl (lv_at hl 3 rfl) ?_
              refine dk_Vi (As := [.int p2]) (rest := []) ⟨hx, hb, hml, hown, hts⟩ (fx_X5_isMissing_1 l g z I0 p2 d23 hO) (cwV 1 hts gX5_copy_X5_isMissing rfl rfl rfl (by decide +kernel) ⟨Nat.le_of_ble_eq_true rfl, Nat.le_of_ble_eq_true rfl⟩) (dk_at0 hW) rfl hK hT hW hS rfl hl.1 rfl (Nat.le_of_ble_eq_true rfl) dX5_copy_27 ⟨Nat.zero_le _, Nat.zero_le _⟩ (fun v28 I28 H28 L28 hp28 hW hS => ?_)
              obtain ⟨hF28, hO, hc28⟩ := hp28
              have hF := dkF_call hF hF28 rfl
              have eI28 : I0 = I28 := (dkF_nil hF28).symm
              subst eI28
              rcases hc28 with ⟨dv28, x28_0, xr28, -⟩ | hc28
              ·
                have q29 : (I0 11 (Int32.toNatClampNeg p2)).toInt ≠ (-1 : Int) := x28_0
                have xv28 : v28 = 0 := by have h := xr28; exact h
                refine lv_if_eq (tgt := 39) hx hb dX5_copy_30 (by decide) (fun c30 => ?_) (fun c30 => ?_)
                ·
                  refine lv_aload_n hx hb dX5_copy_39 rfl (lv_at hl 0 rfl) ?_
                  refine dk_get (k := 0) hx hb hts iX5_copy_5 hown hK (dk_at0 hW) rfl 1 (by decide) (hts (.fieldLink RX5 14 "DogKings" "lanes" "[I") (List.mem_of_getElem? (i := 2) rfl)) rfl dX5_copy_40 ?_
                  refine lv_iload_n hx hb dX5_copy_43 rfl (lv_at hl 1 rfl) ?_
                  refine dk_ild (k := 10) hx hb hK (dk_at10 hW) (dkN_in (n := 8) d11 rfl) dX5_copy_44 ?_
                  refine lv_topi (fun v31 ev31 => ?_)
                  have dv31 : dkN [(0, 2)] v31 := by rw [ev31]; exact (hO 10 _)
                  have xv31 : v31 = I0 10 (Int32.toNatClampNeg p0) := ev31.trans rfl
                  refine lv_aload_n hx hb dX5_copy_45 rfl (lv_at hl 0 rfl) ?_
                  refine dk_get (k := 0) hx hb hts iX5_copy_5 hown hK (dk_at0 hW) rfl 1 (by decide) (hts (.fieldLink RX5 14 "DogKings" "lanes" "[I") (List.mem_of_getElem? (i := 2) rfl)) rfl dX5_copy_46 ?_
                  refine lv_iload_n hx hb dX5_copy_49 rfl (lv_at hl 3 rfl) ?_
                  refine dk_ild (k := 10) hx hb hK (dk_at10 hW) (dkN_in (n := 8) d23 rfl) dX5_copy_50 ?_
                  refine lv_topi (fun v32 ev32 => ?_)
                  have dv32 : dkN [(0, 2)] v32 := by rw [ev32]; exact (hO 10 _)
                  have xv32 : v32 = I0 10 (Int32.toNatClampNeg p2) := ev32.trans rfl
                  refine lv_icmp_eq (tgt := 60) hx hb dX5_copy_51 (by decide) (fun c33 => ?_) (fun c33 => ?_)
                  ·
                    have q34 : (I0 10 (Int32.toNatClampNeg p0)).toInt = (I0 10 (Int32.toNatClampNeg p2)).toInt := by first | (rw [← xv31, ← xv32]; exact (congrArg Int32.toInt c33)) | (subst xv31 xv32; exact (congrArg Int32.toInt c33))
                    refine lv_aload_n hx hb dX5_copy_60 rfl (lv_at hl 0 rfl) ?_
                    refine lv_iload_n hx hb dX5_copy_61 rfl (lv_at hl 1 rfl) ?_
                    refine lv_iload_n hx hb dX5_copy_62 rfl (lv_at hl 2 rfl) ?_
                    refine lv_iload hx hb dX5_copy_63 (lv_at hl 5 rfl) ?_
                    refine dk_Vi (As := [.int p0, .int p1, .int p4]) (rest := []) ⟨hx, hb, hml, hown, hts⟩ (fx_X5_hasItems_3 l g z I0 p0 p1 p4 d11 hO) (cwV 3 hts gX5_copy_X5_hasItems rfl rfl rfl (by decide +kernel) ⟨Nat.le_of_ble_eq_true rfl, Nat.le_of_ble_eq_true rfl⟩) (dk_at0 hW) rfl hK hT hW hS rfl hl.1 rfl (Nat.le_of_ble_eq_true rfl) dX5_copy_65 ⟨Nat.zero_le _, Nat.zero_le _⟩ (fun v35 I35 H35 L35 hp35 hW hS => ?_)
                    obtain ⟨hF35, hO, hc35⟩ := hp35
                    have hF := dkF_call hF hF35 rfl
                    have eI35 : I0 = I35 := (dkF_nil hF35).symm
                    subst eI35
                    rcases hc35 with ⟨dv35, a35_1, x35_0, xr35, -⟩ | hc35
                    ·
                      have q36 : p1.toInt + 1 ≤ (0 : Int) := x35_0
                      have xv35 : v35 = 0 := by have h := xr35; exact h
                      have d37 : dkN [(-2147483648, -1)] p1 := dkN_eq1 (dkN_top p1) a35_1 rfl rfl
                      refine lv_if_eq (tgt := 83) hx hb dX5_copy_68 (by decide) (fun c38 => ?_) (fun c38 => ?_)
                      ·
                        refine lv_aload_n hx hb dX5_copy_83 rfl (lv_at hl 0 rfl) ?_
                        refine lv_iconst (v := 2) hx hb dX5_copy_84 (by decide) ?_
                        refine dk_Vi (As := [.int 2]) (rest := []) ⟨hx, hb, hml, hown, hts⟩ (fx_X5_found_7 l g z I0 2 (dkN_lit (x := 2) (2) rfl) hO) (cwV 1 hts gX5_copy_X5_found rfl rfl rfl (by decide +kernel) ⟨Nat.le_of_ble_eq_true rfl, Nat.le_of_ble_eq_true rfl⟩) (dk_at0 hW) rfl hK hT hW hS rfl hl.1 rfl (Nat.le_of_ble_eq_true rfl) dX5_copy_85 ⟨Nat.zero_le _, Nat.zero_le _⟩ (fun v39 I39 H39 L39 hp39 hW hS => ?_)
                        obtain ⟨hF39, hO, hc39⟩ := hp39
                        have hF := dkF_call hF hF39 rfl
                        obtain ⟨dv39, f39_0_3, x39_0, xr39, xh39_0, -⟩ := hc39
                        have q40 : ((-1000010 : Int32) - (2 : Int32)).toInt = (-1000010 : Int) - (2 : Int) := x39_0
                        have y41 : I39 0 3 = 2 := by have h := xh39_0; exact h
                        have xv39 : v39 = (-1000010 : Int32) - (2 : Int32) := by have h := xr39; exact h
                        exact W.iret (v := v39) hx hb hr (fun t ht hW9 => ⟨⟨v39, I39, rfl, ⟨hF, hO, Or.inr (Or.inr (Or.inr (Or.inr (Or.inl ⟨dkN_sub dv39 rfl, dkN_sub d11 rfl, dkN_sub d37 rfl, dkN_sub d23 rfl, (show dkN [(2, 2)] (I39 0 3) from dkN_sub f39_0_3 rfl), q9, q10, q21, q22, q26, q29, q34, q36, q40, xv39, y41, trivial⟩))))⟩, dkW_eq ht hW⟩, hS.F ht⟩) hS.2.2 dX5_copy_88
                      ·
                        exact absurd ((xv35).trans (rfl).symm) c38
                    rcases hc35 with ⟨dv35, a35_1, a35_2, x35_0, x35_1, xr35, -⟩ | hc35
                    ·
                      have q42 : (0 : Int) + 0 ≤ p1.toInt := x35_0
                      have q43 : p4.toInt + 1 ≤ (0 : Int) := x35_1
                      have xv35 : v35 = 0 := by have h := xr35; exact h
                      have d44 : dkN [(0, 2147483647)] p1 := dkN_eq1 (dkN_top p1) a35_1 rfl rfl
                      have d45 : dkN [(-2147483648, -1)] p4 := dkN_eq1 (dkN_top p4) a35_2 rfl rfl
                      refine lv_if_eq (tgt := 83) hx hb dX5_copy_68 (by decide) (fun c46 => ?_) (fun c46 => ?_)
                      ·
                        refine lv_aload_n hx hb dX5_copy_83 rfl (lv_at hl 0 rfl) ?_
                        refine lv_iconst (v := 2) hx hb dX5_copy_84 (by decide) ?_
                        refine dk_Vi (As := [.int 2]) (rest := []) ⟨hx, hb, hml, hown, hts⟩ (fx_X5_found_7 l g z I0 2 (dkN_lit (x := 2) (2) rfl) hO) (cwV 1 hts gX5_copy_X5_found rfl rfl rfl (by decide +kernel) ⟨Nat.le_of_ble_eq_true rfl, Nat.le_of_ble_eq_true rfl⟩) (dk_at0 hW) rfl hK hT hW hS rfl hl.1 rfl (Nat.le_of_ble_eq_true rfl) dX5_copy_85 ⟨Nat.zero_le _, Nat.zero_le _⟩ (fun v47 I47 H47 L47 hp47 hW hS => ?_)
                        obtain ⟨hF47, hO, hc47⟩ := hp47
                        have hF := dkF_call hF hF47 rfl
                        obtain ⟨dv47, f47_0_3, x47_0, xr47, xh47_0, -⟩ := hc47
                        have q48 : ((-1000010 : Int32) - (2 : Int32)).toInt = (-1000010 : Int) - (2 : Int) := x47_0
                        have y49 : I47 0 3 = 2 := by have h := xh47_0; exact h
                        have xv47 : v47 = (-1000010 : Int32) - (2 : Int32) := by have h := xr47; exact h
                        exact W.iret (v := v47) hx hb hr (fun t ht hW9 => ⟨⟨v47, I47, rfl, ⟨hF, hO, Or.inr (Or.inr (Or.inr (Or.inr (Or.inr (Or.inl ⟨dkN_sub dv47 rfl, dkN_sub d11 rfl, dkN_sub d44 rfl, dkN_sub d23 rfl, dkN_sub d45 rfl, (show dkN [(2, 2)] (I47 0 3) from dkN_sub f47_0_3 rfl), q9, q10, q21, q22, q26, q29, q34, q42, q43, q48, xv47, y49, trivial⟩)))))⟩, dkW_eq ht hW⟩, hS.F ht⟩) hS.2.2 dX5_copy_88
                      ·
                        exact absurd ((xv35).trans (rfl).symm) c46
                    rcases hc35 with ⟨dv35, a35_1, a35_2, x35_0, x35_1, x35_2, x35_3, xr35, -⟩ | hc35
                    ·
                      have q50 : (0 : Int) + 0 ≤ p1.toInt := x35_0
                      have q51 : (0 : Int) + 0 ≤ p4.toInt := x35_1
                      have q52 : ((I0 11 (Int32.toNatClampNeg p0)) - p4).toInt = (I0 11 (Int32.toNatClampNeg p0)).toInt - p4.toInt := x35_2
                      have q53 : ((I0 11 (Int32.toNatClampNeg p0)) - p4).toInt + 1 ≤ p1.toInt := x35_3
                      have xv35 : v35 = 0 := by have h := xr35; exact h
                      have d54 : dkN [(0, 2147483647)] p1 := dkN_eq1 (dkN_top p1) a35_1 rfl rfl
                      have d55 : dkN [(0, 2147483647)] p4 := dkN_eq1 (dkN_top p4) a35_2 rfl rfl
                      refine lv_if_eq (tgt := 83) hx hb dX5_copy_68 (by decide) (fun c56 => ?_) (fun c56 => ?_)
                      ·
                        refine lv_aload_n hx hb dX5_copy_83 rfl (lv_at hl 0 rfl) ?_
                        refine lv_iconst (v := 2) hx hb dX5_copy_84 (by decide) ?_
                        refine dk_Vi (As := [.int 2]) (rest := []) ⟨hx, hb, hml, hown, hts⟩ (fx_X5_found_7 l g z I0 2 (dkN_lit (x := 2) (2) rfl) hO) (cwV 1 hts gX5_copy_X5_found rfl rfl rfl (by decide +kernel) ⟨Nat.le_of_ble_eq_true rfl, Nat.le_of_ble_eq_true rfl⟩) (dk_at0 hW) rfl hK hT hW hS rfl hl.1 rfl (Nat.le_of_ble_eq_true rfl) dX5_copy_85 ⟨Nat.zero_le _, Nat.zero_le _⟩ (fun v57 I57 H57 L57 hp57 hW hS => ?_)
                        obtain ⟨hF57, hO, hc57⟩ := hp57
                        have hF := dkF_call hF hF57 rfl
                        obtain ⟨dv57, f57_0_3, x57_0, xr57, xh57_0, -⟩ := hc57
                        have q58 : ((-1000010 : Int32) - (2 : Int32)).toInt = (-1000010 : Int) - (2 : Int) := x57_0
                        have y59 : I57 0 3 = 2 := by have h := xh57_0; exact h
                        have xv57 : v57 = (-1000010 : Int32) - (2 : Int32) := by have h := xr57; exact h
                        exact W.iret (v := v57) hx hb hr (fun t ht hW9 => ⟨⟨v57, I57, rfl, ⟨hF, hO, Or.inr (Or.inr (Or.inr (Or.inr (Or.inr (Or.inr (Or.inl ⟨dkN_sub dv57 rfl, dkN_sub d11 rfl, dkN_sub d54 rfl, dkN_sub d23 rfl, dkN_sub d55 rfl, (show dkN [(2, 2)] (I57 0 3) from dkN_sub f57_0_3 rfl), q9, q10, q21, q22, q26, q29, q34, q50, q51, q52, q53, q58, xv57, y59, trivial⟩))))))⟩, dkW_eq ht hW⟩, hS.F ht⟩) hS.2.2 dX5_copy_88
                      ·
                        exact absurd ((xv35).trans (rfl).symm) c56
                    ·
                      obtain ⟨dv35, a35_1, a35_2, q35_0, x35_0, x35_1, x35_2, x35_3, xr35, -⟩ := hc35
                      have q60 : (0 : Int) + 0 ≤ p1.toInt := x35_0
                      have q61 : (0 : Int) + 0 ≤ p4.toInt := x35_1
                      have q62 : ((I0 11 (Int32.toNatClampNeg p0)) - p4).toInt = (I0 11 (Int32.toNatClampNeg p0)).toInt - p4.toInt := x35_2
                      have q63 : p1.toInt + 0 ≤ ((I0 11 (Int32.toNatClampNeg p0)) - p4).toInt := x35_3
                      have xv35 : v35 = 1 := by have h := xr35; exact h
                      have d64 : dkN [(0, 40)] p1 := dkN_eq1 (dkN_top p1) a35_1 rfl rfl
                      have d65 : dkN [(0, 2147483647)] p4 := dkN_eq1 (dkN_top p4) a35_2 rfl rfl
                      refine lv_if_eq (tgt := 83) hx hb dX5_copy_68 (by decide) (fun c66 => ?_) (fun c66 => ?_)
                      ·
                        exact (dkN_nil (show dkN [] v35 from dkN_eq1 dv35 (dkN_lit (x := 0) (0) rfl) (congrArg Int32.toInt c66) rfl)).elim
                      ·
                        refine lv_aload_n hx hb dX5_copy_71 rfl (lv_at hl 0 rfl) ?_
                        refine lv_iload_n hx hb dX5_copy_72 rfl (lv_at hl 3 rfl) ?_
                        refine lv_iload hx hb dX5_copy_73 (lv_at hl 4 rfl) ?_
                        refine lv_iload hx hb dX5_copy_75 (lv_at hl 5 rfl) ?_
                        refine dk_Vi (As := [.int p2, .int p3, .int p4]) (rest := []) ⟨hx, hb, hml, hown, hts⟩ (fx_X5_hasItems_4 l g z I0 p2 p3 p4 d23 d65 hO) (cwV 3 hts gX5_copy_X5_hasItems rfl rfl rfl (by decide +kernel) ⟨Nat.le_of_ble_eq_true rfl, Nat.le_of_ble_eq_true rfl⟩) (dk_at0 hW) rfl hK hT hW hS rfl hl.1 rfl (Nat.le_of_ble_eq_true rfl) dX5_copy_77 ⟨Nat.zero_le _, Nat.zero_le _⟩ (fun v67 I67 H67 L67 hp67 hW hS => ?_)
                        obtain ⟨hF67, hO, hc67⟩ := hp67
                        have hF := dkF_call hF hF67 rfl
                        have eI67 : I0 = I67 := (dkF_nil hF67).symm
                        subst eI67
                        rcases hc67 with ⟨dv67, a67_1, x67_0, xr67, -⟩ | hc67
                        ·
                          have q68 : p3.toInt + 1 ≤ (0 : Int) := x67_0
                          have xv67 : v67 = 0 := by have h := xr67; exact h
                          have d69 : dkN [(-2147483648, -1)] p3 := dkN_eq1 (dkN_top p3) a67_1 rfl rfl
                          refine lv_if_ne (tgt := 89) hx hb dX5_copy_80 (by decide) (fun c70 => ?_) (fun c70 => ?_)
                          ·
                            exact absurd ((xv67).trans (rfl).symm) c70
                          ·
                            refine lv_aload_n hx hb dX5_copy_83 rfl (lv_at hl 0 rfl) ?_
                            refine lv_iconst (v := 2) hx hb dX5_copy_84 (by decide) ?_
                            refine dk_Vi (As := [.int 2]) (rest := []) ⟨hx, hb, hml, hown, hts⟩ (fx_X5_found_7 l g z I0 2 (dkN_lit (x := 2) (2) rfl) hO) (cwV 1 hts gX5_copy_X5_found rfl rfl rfl (by decide +kernel) ⟨Nat.le_of_ble_eq_true rfl, Nat.le_of_ble_eq_true rfl⟩) (dk_at0 hW) rfl hK hT hW hS rfl hl.1 rfl (Nat.le_of_ble_eq_true rfl) dX5_copy_85 ⟨Nat.zero_le _, Nat.zero_le _⟩ (fun v71 I71 H71 L71 hp71 hW hS => ?_)
                            obtain ⟨hF71, hO, hc71⟩ := hp71
                            have hF := dkF_call hF hF71 rfl
                            obtain ⟨dv71, f71_0_3, x71_0, xr71, xh71_0, -⟩ := hc71
                            have q72 : ((-1000010 : Int32) - (2 : Int32)).toInt = (-1000010 : Int) - (2 : Int) := x71_0
                            have y73 : I71 0 3 = 2 := by have h := xh71_0; exact h
                            have xv71 : v71 = (-1000010 : Int32) - (2 : Int32) := by have h := xr71; exact h
                            exact W.iret (v := v71) hx hb hr (fun t ht hW9 => ⟨⟨v71, I71, rfl, ⟨hF, hO, Or.inr (Or.inr (Or.inr (Or.inr (Or.inr (Or.inr (Or.inr (Or.inl ⟨dkN_sub dv71 rfl, dkN_sub d11 rfl, dkN_sub d64 rfl, dkN_sub d23 rfl, dkN_sub d69 rfl, dkN_sub d65 rfl, (show dkN [(2, 2)] (I71 0 3) from dkN_sub f71_0_3 rfl), q9, q10, q21, q22, q26, q29, q34, q60, q61, q62, q63, q68, q72, xv71, y73, trivial⟩)))))))⟩, dkW_eq ht hW⟩, hS.F ht⟩) hS.2.2 dX5_copy_88
                        rcases hc67 with ⟨dv67, a67_1, x67_0, x67_1, x67_2, x67_3, xr67, -⟩ | hc67
                        ·
                          have q74 : (0 : Int) + 0 ≤ p3.toInt := x67_0
                          have q75 : ((I0 11 (Int32.toNatClampNeg p2)) - p4).toInt = (I0 11 (Int32.toNatClampNeg p2)).toInt - p4.toInt := x67_2
                          have q76 : ((I0 11 (Int32.toNatClampNeg p2)) - p4).toInt + 1 ≤ p3.toInt := x67_3
                          have xv67 : v67 = 0 := by have h := xr67; exact h
                          have d77 : dkN [(0, 2147483647)] p3 := dkN_eq1 (dkN_top p3) a67_1 rfl rfl
                          refine lv_if_ne (tgt := 89) hx hb dX5_copy_80 (by decide) (fun c78 => ?_) (fun c78 => ?_)
                          ·
                            exact absurd ((xv67).trans (rfl).symm) c78
                          ·
                            refine lv_aload_n hx hb dX5_copy_83 rfl (lv_at hl 0 rfl) ?_
                            refine lv_iconst (v := 2) hx hb dX5_copy_84 (by decide) ?_
                            refine dk_Vi (As := [.int 2]) (rest := []) ⟨hx, hb, hml, hown, hts⟩ (fx_X5_found_7 l g z I0 2 (dkN_lit (x := 2) (2) rfl) hO) (cwV 1 hts gX5_copy_X5_found rfl rfl rfl (by decide +kernel) ⟨Nat.le_of_ble_eq_true rfl, Nat.le_of_ble_eq_true rfl⟩) (dk_at0 hW) rfl hK hT hW hS rfl hl.1 rfl (Nat.le_of_ble_eq_true rfl) dX5_copy_85 ⟨Nat.zero_le _, Nat.zero_le _⟩ (fun v79 I79 H79 L79 hp79 hW hS => ?_)
                            obtain ⟨hF79, hO, hc79⟩ := hp79
                            have hF := dkF_call hF hF79 rfl
                            obtain ⟨dv79, f79_0_3, x79_0, xr79, xh79_0, -⟩ := hc79
                            have q80 : ((-1000010 : Int32) - (2 : Int32)).toInt = (-1000010 : Int) - (2 : Int) := x79_0
                            have y81 : I79 0 3 = 2 := by have h := xh79_0; exact h
                            have xv79 : v79 = (-1000010 : Int32) - (2 : Int32) := by have h := xr79; exact h
                            exact W.iret (v := v79) hx hb hr (fun t ht hW9 => ⟨⟨v79, I79, rfl, ⟨hF, hO, Or.inr (Or.inr (Or.inr (Or.inr (Or.inr (Or.inr (Or.inr (Or.inr (Or.inl ⟨dkN_sub dv79 rfl, dkN_sub d11 rfl, dkN_sub d64 rfl, dkN_sub d23 rfl, dkN_sub d77 rfl, dkN_sub d65 rfl, (show dkN [(2, 2)] (I79 0 3) from dkN_sub f79_0_3 rfl), q9, q10, q21, q22, q26, q29, q34, q60, q61, q62, q63, q74, q75, q76, q80, xv79, y81, trivial⟩))))))))⟩, dkW_eq ht hW⟩, hS.F ht⟩) hS.2.2 dX5_copy_88
                        ·
                          obtain ⟨dv67, a67_1, q67_0, x67_0, x67_1, x67_2, x67_3, xr67, -⟩ := hc67
                          have q82 : (0 : Int) + 0 ≤ p3.toInt := x67_0
                          have q83 : ((I0 11 (Int32.toNatClampNeg p2)) - p4).toInt = (I0 11 (Int32.toNatClampNeg p2)).toInt - p4.toInt := x67_2
                          have q84 : p3.toInt + 0 ≤ ((I0 11 (Int32.toNatClampNeg p2)) - p4).toInt := x67_3
                          have xv67 : v67 = 1 := by have h := xr67; exact h
                          have d85 : dkN [(0, 40)] p3 := dkN_eq1 (dkN_top p3) a67_1 rfl rfl
                          refine lv_if_ne (tgt := 89) hx hb dX5_copy_80 (by decide) (fun c86 => ?_) (fun c86 => ?_)
                          ·
                            refine lv_aload_n hx hb dX5_copy_89 rfl (lv_at hl 0 rfl) ?_
                            refine dk_get (k := 0) hx hb hts iX5_copy_5 hown hK (dk_at0 hW) rfl 0 (by decide) (hts (.fieldLink RX5 11 "DogKings" "items" "[[I") (List.mem_of_getElem? (i := 3) rfl)) rfl dX5_copy_90 ?_
                            refine lv_iload_n hx hb dX5_copy_93 rfl (lv_at hl 1 rfl) ?_
                            obtain ⟨rf87, hrf87, erf87⟩ := dk_rowAt (z := z) (dkN_in (n := 8) d11 rfl)
                            refine dk_rld (r := z + rf87) hx hb hK (dk_at1 hW) (dkN_in (n := 8) d11 rfl) erf87 dX5_copy_94 ?_
                            refine lv_iload_n hx hb dX5_copy_95 rfl (lv_at hl 2 rfl) ?_
                            refine lv_aload_n hx hb dX5_copy_96 rfl (lv_at hl 0 rfl) ?_
                            refine dk_get (k := 0) hx hb hts iX5_copy_5 hown hK (dk_at0 hW) rfl 0 (by decide) (hts (.fieldLink RX5 11 "DogKings" "items" "[[I") (List.mem_of_getElem? (i := 3) rfl)) rfl dX5_copy_97 ?_
                            refine lv_iload_n hx hb dX5_copy_100 rfl (lv_at hl 3 rfl) ?_
                            obtain ⟨rf88, hrf88, erf88⟩ := dk_rowAt (z := z) (dkN_in (n := 8) d23 rfl)
                            refine dk_rld (r := z + rf88) hx hb hK (dk_at1 hW) (dkN_in (n := 8) d23 rfl) erf88 dX5_copy_101 ?_
                            refine lv_iload hx hb dX5_copy_102 (lv_at hl 4 rfl) ?_
                            refine lv_iload hx hb dX5_copy_104 (lv_at hl 5 rfl) ?_
                            refine dk_acopy hx hb (by rw [hml]; exact hl.1.symm) hown (hts (.methodLink RX5 89 arraycopyName) (List.mem_of_getElem? (i := 4) rfl)) (hts (.native arraycopyName) (List.mem_of_getElem? (i := 5) rfl)) (hts (.static arraycopyName) (List.mem_of_getElem? (i := 6) rfl)) (hts (.initialized "java/lang/System") (List.mem_of_getElem? (i := 7) rfl)) hK hW hS hrf87 hrf88 (dkN_ge d64 rfl) (dkN_ge d85 rfl) (dkN_ge d65 rfl) q35_0 q67_0 (Nat.le_of_ble_eq_true rfl) (Nat.le_of_ble_eq_true rfl) dX5_copy_106 (fun I89 H89 L89 hF89 hW hS => ?_)
                            have hO := dkO_rows hO hF89
                            have hF := dkF_call hF hF89 rfl
                            refine lv_aload_n hx hb dX5_copy_109 rfl (lv_at hl 0 rfl) ?_
                            refine lv_iload hx hb dX5_copy_110 (lv_at hl 5 rfl) ?_
                            refine dk_Vi (As := [.int p4]) (rest := []) ⟨hx, hb, hml, hown, hts⟩ (fx_X5_nothingFound_1 l g z I89 p4 hO) (cwV 1 hts gX5_copy_X5_nothingFound rfl rfl rfl (by decide +kernel) ⟨Nat.le_of_ble_eq_true rfl, Nat.le_of_ble_eq_true rfl⟩) (dk_at0 hW) rfl hK hT hW hS rfl hl.1 rfl (Nat.le_of_ble_eq_true rfl) dX5_copy_112 ⟨Nat.zero_le _, Nat.zero_le _⟩ (fun v90 I90 H90 L90 hp90 hW hS => ?_)
                            obtain ⟨hF90, hO, hc90⟩ := hp90
                            have hF := dkF_call hF hF90 rfl
                            obtain ⟨_, f90_0_3, xr90, xh90_0, -⟩ := hc90
                            have y91 : I90 0 3 = 0 := by have h := xh90_0; exact h
                            have xv90 : v90 = p4 := by have h := xr90; exact h
                            exact W.iret (v := v90) hx hb hr (fun t ht hW9 => ⟨⟨v90, I90, rfl, ⟨hF, hO, Or.inr (Or.inr (Or.inr (Or.inr (Or.inr (Or.inr (Or.inr (Or.inr (Or.inr (Or.inl ⟨trivial, dkN_sub d11 rfl, dkN_sub d64 rfl, dkN_sub d23 rfl, dkN_sub d85 rfl, dkN_sub d65 rfl, (show dkN [(0, 0)] (I90 0 3) from dkN_sub f90_0_3 rfl), q9, q10, q21, q22, q26, q29, q34, q60, q61, q62, q63, q82, q83, q84, xv90, y91, trivial⟩)))))))))⟩, dkW_eq ht hW⟩, hS.F ht⟩) hS.2.2 dX5_copy_115
                          ·
                            exact (dkN_nil (show dkN [] v67 from dkN_eq1 dv67 (dkN_lit (x := 0) (0) rfl) (congrArg Int32.toInt c86) rfl)).elim
                  ·
                    have q92 : (I0 10 (Int32.toNatClampNeg p0)).toInt ≠ (I0 10 (Int32.toNatClampNeg p2)).toInt := by first | (rw [← xv31, ← xv32]; exact (dk_ne c33)) | (subst xv31 xv32; exact (dk_ne c33))
                    refine lv_aload_n hx hb dX5_copy_54 rfl (lv_at hl 0 rfl) ?_
                    refine lv_iconst (v := 5) hx hb dX5_copy_55 (by decide) ?_
                    refine dk_Vi (As := [.int 5]) (rest := []) ⟨hx, hb, hml, hown, hts⟩ (fx_X5_found_8 l g z I0 5 (dkN_lit (x := 5) (5) rfl) hO) (cwV 1 hts gX5_copy_X5_found rfl rfl rfl (by decide +kernel) ⟨Nat.le_of_ble_eq_true rfl, Nat.le_of_ble_eq_true rfl⟩) (dk_at0 hW) rfl hK hT hW hS rfl hl.1 rfl (Nat.le_of_ble_eq_true rfl) dX5_copy_56 ⟨Nat.zero_le _, Nat.zero_le _⟩ (fun v93 I93 H93 L93 hp93 hW hS => ?_)
                    obtain ⟨hF93, hO, hc93⟩ := hp93
                    have hF := dkF_call hF hF93 rfl
                    obtain ⟨dv93, f93_0_3, x93_0, xr93, xh93_0, -⟩ := hc93
                    have q94 : ((-1000010 : Int32) - (5 : Int32)).toInt = (-1000010 : Int) - (5 : Int) := x93_0
                    have y95 : I93 0 3 = 5 := by have h := xh93_0; exact h
                    have xv93 : v93 = (-1000010 : Int32) - (5 : Int32) := by have h := xr93; exact h
                    exact W.iret (v := v93) hx hb hr (fun t ht hW9 => ⟨⟨v93, I93, rfl, ⟨hF, hO, Or.inr (Or.inr (Or.inr (Or.inr (Or.inr (Or.inr (Or.inr (Or.inr (Or.inr (Or.inr (Or.inl ⟨dkN_sub dv93 rfl, dkN_sub d11 rfl, dkN_sub d23 rfl, (show dkN [(5, 5)] (I93 0 3) from dkN_sub f93_0_3 rfl), q9, q10, q21, q22, q26, q29, q92, q94, xv93, y95, trivial⟩))))))))))⟩, dkW_eq ht hW⟩, hS.F ht⟩) hS.2.2 dX5_copy_59
                ·
                  exact absurd ((xv28).trans (rfl).symm) c30
              ·
                obtain ⟨dv28, x28_0, xr28, -⟩ := hc28
                have q96 : (I0 11 (Int32.toNatClampNeg p2)).toInt = (-1 : Int) := x28_0
                have xv28 : v28 = 1 := by have h := xr28; exact h
                refine lv_if_eq (tgt := 39) hx hb dX5_copy_30 (by decide) (fun c97 => ?_) (fun c97 => ?_)
                ·
                  exact (dkN_nil (show dkN [] v28 from dkN_eq1 dv28 (dkN_lit (x := 0) (0) rfl) (congrArg Int32.toInt c97) rfl)).elim
                ·
                  refine lv_aload_n hx hb dX5_copy_33 rfl (lv_at hl 0 rfl) ?_
                  refine lv_iconst (v := 1) hx hb dX5_copy_34 (by decide) ?_
                  refine dk_Vi (As := [.int 1]) (rest := []) ⟨hx, hb, hml, hown, hts⟩ (fx_X5_found_6 l g z I0 1 (dkN_lit (x := 1) (1) rfl) hO) (cwV 1 hts gX5_copy_X5_found rfl rfl rfl (by decide +kernel) ⟨Nat.le_of_ble_eq_true rfl, Nat.le_of_ble_eq_true rfl⟩) (dk_at0 hW) rfl hK hT hW hS rfl hl.1 rfl (Nat.le_of_ble_eq_true rfl) dX5_copy_35 ⟨Nat.zero_le _, Nat.zero_le _⟩ (fun v98 I98 H98 L98 hp98 hW hS => ?_)
                  obtain ⟨hF98, hO, hc98⟩ := hp98
                  have hF := dkF_call hF hF98 rfl
                  obtain ⟨dv98, f98_0_3, x98_0, xr98, xh98_0, -⟩ := hc98
                  have q99 : ((-1000010 : Int32) - (1 : Int32)).toInt = (-1000010 : Int) - (1 : Int) := x98_0
                  have y100 : I98 0 3 = 1 := by have h := xh98_0; exact h
                  have xv98 : v98 = (-1000010 : Int32) - (1 : Int32) := by have h := xr98; exact h
                  exact W.iret (v := v98) hx hb hr (fun t ht hW9 => ⟨⟨v98, I98, rfl, ⟨hF, hO, Or.inr (Or.inr (Or.inr (Or.inr (Or.inr (Or.inr (Or.inr (Or.inr (Or.inr (Or.inr (Or.inr (Or.inl ⟨dkN_sub dv98 rfl, dkN_sub d11 rfl, dkN_sub d23 rfl, (show dkN [(1, 1)] (I98 0 3) from dkN_sub f98_0_3 rfl), q9, q10, q21, q22, q26, q96, q99, xv98, y100, trivial⟩)))))))))))⟩, dkW_eq ht hW⟩, hS.F ht⟩) hS.2.2 dX5_copy_38
          ·
            obtain ⟨dv25, x25_0, xr25, -⟩ := hc25
            have q101 : (I0 11 (Int32.toNatClampNeg p0)).toInt = (-1 : Int) := x25_0
            have xv25 : v25 = 1 := by have h := xr25; exact h
            refine lv_if_ne (tgt := 33) hx hb dX5_copy_22 (by decide) (fun c102 => ?_) (fun c102 => ?_)
            ·
              refine lv_aload_n hx hb dX5_copy_33 rfl (lv_at hl 0 rfl) ?_
              refine lv_iconst (v := 1) hx hb dX5_copy_34 (by decide) ?_
              refine dk_Vi (As := [.int 1]) (rest := []) ⟨hx, hb, hml, hown, hts⟩ (fx_X5_found_6 l g z I0 1 (dkN_lit (x := 1) (1) rfl) hO) (cwV 1 hts gX5_copy_X5_found rfl rfl rfl (by decide +kernel) ⟨Nat.le_of_ble_eq_true rfl, Nat.le_of_ble_eq_true rfl⟩) (dk_at0 hW) rfl hK hT hW hS rfl hl.1 rfl (Nat.le_of_ble_eq_true rfl) dX5_copy_35 ⟨Nat.zero_le _, Nat.zero_le _⟩ (fun v103 I103 H103 L103 hp103 hW hS => ?_)
              obtain ⟨hF103, hO, hc103⟩ := hp103
              have hF := dkF_call hF hF103 rfl
              obtain ⟨dv103, f103_0_3, x103_0, xr103, xh103_0, -⟩ := hc103
              have q104 : ((-1000010 : Int32) - (1 : Int32)).toInt = (-1000010 : Int) - (1 : Int) := x103_0
              have y105 : I103 0 3 = 1 := by have h := xh103_0; exact h
              have xv103 : v103 = (-1000010 : Int32) - (1 : Int32) := by have h := xr103; exact h
              exact W.iret (v := v103) hx hb hr (fun t ht hW9 => ⟨⟨v103, I103, rfl, ⟨hF, hO, Or.inr (Or.inr (Or.inr (Or.inr (Or.inr (Or.inr (Or.inr (Or.inr (Or.inr (Or.inr (Or.inr (Or.inr (⟨dkN_sub dv103 rfl, dkN_sub d11 rfl, dkN_sub d23 rfl, (show dkN [(1, 1)] (I103 0 3) from dkN_sub f103_0_3 rfl), q9, q10, q21, q22, q101, q104, xv103, y105, trivial⟩))))))))))))⟩, dkW_eq ht hW⟩, hS.F ht⟩) hS.2.2 dX5_copy_38
            ·
              exact (dkN_nil (show dkN [] v25 from dkN_eq1 dv25 (dkN_lit (x := 0) (0) rfl) (congrArg Int32.toInt c102) rfl)).elim
        ·
          exact (dkN_nil (show dkN [] v13 from dkN_eq1 dv13 (dkN_lit (x := 0) (0) rfl) (congrArg Int32.toInt c24) rfl)).elim
set_option maxHeartbeats 4000000 in
set_option maxRecDepth 100000 in
theorem fx_X6_isPart_3 (l : Launch) (g : dkG) (z : Nat) (I0 : dkI) (p0 : Int32) (p1 : Int32) (p2 : Int32) (dp0 : dkN [(0, 7)] p0)  (hO : dkOk I0) : Met l yX6_isPart wsX6_isPart (dkR 0) (dkPc g z [.ref (z + 340), .int p0, .int p1, .int p2] I0) (dkQi g z (fun r I1 => dkF [] I0 I1 ∧ dkOk I1 ∧ ((dkN [(0, 0)] r ∧ dkN [(-2147483648, -1)] p1 ∧ p1.toInt + 1 ≤ (0 : Int) ∧ r = 0 ∧ True) ∨ (dkN [(0, 0)] r ∧ dkN [(0, 2147483647)] p1 ∧ dkN [(-2147483648, -1)] p2 ∧ (0 : Int) + 0 ≤ p1.toInt ∧ p2.toInt + 1 ≤ (0 : Int) ∧ r = 0 ∧ True) ∨ (dkN [(0, 0)] r ∧ dkN [(1, 2147483647)] p1 ∧ dkN [(0, 2147483647)] p2 ∧ (0 : Int) + 0 ≤ p1.toInt ∧ (0 : Int) + 0 ≤ p2.toInt ∧ (I0 342 (Int32.toNatClampNeg p0)).toInt + 1 ≤ p1.toInt ∧ r = 0 ∧ True) ∨ (dkN [(0, 0)] r ∧ dkN [(0, 40)] p1 ∧ dkN [(0, 2147483647)] p2 ∧ (0 : Int) + 0 ≤ p1.toInt ∧ (0 : Int) + 0 ≤ p2.toInt ∧ p1.toInt + 0 ≤ (I0 342 (Int32.toNatClampNeg p0)).toInt ∧ ((I0 342 (Int32.toNatClampNeg p0)) - p1).toInt = (I0 342 (Int32.toNatClampNeg p0)).toInt - p1.toInt ∧ ((I0 342 (Int32.toNatClampNeg p0)) - p1).toInt + 1 ≤ p2.toInt ∧ r = 0 ∧ True) ∨ (dkN [(1, 1)] r ∧ dkN [(0, 40)] p1 ∧ dkN [(0, 40)] p2 ∧ p1.toInt + p2.toInt ≤ 40 ∧ (0 : Int) + 0 ≤ p1.toInt ∧ (0 : Int) + 0 ≤ p2.toInt ∧ p1.toInt + 0 ≤ (I0 342 (Int32.toNatClampNeg p0)).toInt ∧ ((I0 342 (Int32.toNatClampNeg p0)) - p1).toInt = (I0 342 (Int32.toNatClampNeg p0)).toInt - p1.toInt ∧ p2.toInt + 0 ≤ ((I0 342 (Int32.toNatClampNeg p0)) - p1).toInt ∧ r = 1 ∧ True)))) 0 0 (dkA z) := by
  refine Met.ofW (cc := cX6_isPart) (maxL := 4) (ret := (some .boolean)) (by decide) rfl ?_
  intro p e s m args below meth c s₁ B hml hv
  obtain ⟨ha, hW, hK, hT⟩ := hv
  have hx := B.exec
  have hb := B.bytes
  have hr := B.returns
  have hts := atoms_spec (ws := wsX6_isPart) B.pre
  have hown : s.vm.findClass RX6 = some m.cls := findClass_of_methodNamed B.named
  have hlocks := B.notSynchronized
  have hS : va_S (dkA z) s.heap s.heap [] := va_S.rf
  have hF : dkF [] I0 I0 := dkF_rf _ _
  have hl := lv_entry ([.ref (z + 340), .int p0, .int p1, .int p2]) (n := 4) (Nat.le_of_ble_eq_true rfl)
  have hgo : entryFrame m args 4 = entryFrame m ([.ref (z + 340), .int p0, .int p1, .int p2] : List Value).toArray 4 := by rw [ha]
  rw [hgo, lg_entry_eq]
  generalize (lg_sl ([.ref (z + 340), .int p0, .int p1, .int p2]) ++ List.replicate (4 - (lg_sl ([.ref (z + 340), .int p0, .int p1, .int p2])).length) Slot.unset).toArray = ls at hl ⊢
  have hl : lv_has ls 4 [(0, .ref (z + 340)), (1, .int p0), (2, .int p1), (3, .int p2)] := hl
  refine lv_iload_n hx hb dX6_isPart_0 rfl (lv_at hl 2 rfl) ?_
  refine lv_if_lt (tgt := 34) hx hb dX6_isPart_1 (by decide) (fun c1 => ?_) (fun c1 => ?_)
  ·
    have q2 : p1.toInt + 1 ≤ (0 : Int) := (dkc_lt c1)
    have d3 : dkN [(-2147483648, -1)] p1 := dkN_le1 1 (dkN_top p1) (dkN_lit (x := 0) (0) rfl) (dkc_lt c1) rfl
    refine lv_iconst (v := 0) hx hb dX6_isPart_34 (by decide) ?_
    exact W.zret (v := 0) (ty := .boolean) hx hb hr rfl (fun t ht hW9 => ⟨⟨0, I0, rfl, ⟨hF, hO, Or.inl ⟨dkN_sub (dkN_lit (x := 0) (0) rfl) rfl, dkN_sub d3 rfl, q2, rfl, trivial⟩⟩, dkW_eq ht hW⟩, hS.F ht⟩) hS.2.2 dX6_isPart_35
  ·
    have q4 : (0 : Int) + 0 ≤ p1.toInt := (dkc_nlt c1)
    have d5 : dkN [(0, 2147483647)] p1 := dkN_le2 0 (dkN_lit (x := 0) (0) rfl) (dkN_top p1) (dkc_nlt c1) rfl
    refine lv_iload_n hx hb dX6_isPart_4 rfl (lv_at hl 3 rfl) ?_
    refine lv_if_lt (tgt := 34) hx hb dX6_isPart_5 (by decide) (fun c6 => ?_) (fun c6 => ?_)
    ·
      have q7 : p2.toInt + 1 ≤ (0 : Int) := (dkc_lt c6)
      have d8 : dkN [(-2147483648, -1)] p2 := dkN_le1 1 (dkN_top p2) (dkN_lit (x := 0) (0) rfl) (dkc_lt c6) rfl
      refine lv_iconst (v := 0) hx hb dX6_isPart_34 (by decide) ?_
      exact W.zret (v := 0) (ty := .boolean) hx hb hr rfl (fun t ht hW9 => ⟨⟨0, I0, rfl, ⟨hF, hO, Or.inr (Or.inl ⟨dkN_sub (dkN_lit (x := 0) (0) rfl) rfl, dkN_sub d5 rfl, dkN_sub d8 rfl, q4, q7, rfl, trivial⟩)⟩, dkW_eq ht hW⟩, hS.F ht⟩) hS.2.2 dX6_isPart_35
    ·
      have q9 : (0 : Int) + 0 ≤ p2.toInt := (dkc_nlt c6)
      have d10 : dkN [(0, 2147483647)] p2 := dkN_le2 0 (dkN_lit (x := 0) (0) rfl) (dkN_top p2) (dkc_nlt c6) rfl
      refine lv_iload_n hx hb dX6_isPart_8 rfl (lv_at hl 2 rfl) ?_
      refine lv_aload_n hx hb dX6_isPart_9 rfl (lv_at hl 0 rfl) ?_
      refine dk_get (k := 340) hx hb hts iX6_isPart_6 hown hK (dk_at340 hW) rfl 1 (by decide) (hts (.fieldLink RX6 13 "DogKingsModel" "many" "[I") (List.mem_of_getElem? (i := 1) rfl)) rfl dX6_isPart_10 ?_
      refine lv_iload_n hx hb dX6_isPart_13 rfl (lv_at hl 1 rfl) ?_
      refine dk_ild (k := 342) hx hb hK (dk_at342 hW) (dkN_in (n := 8) dp0 rfl) dX6_isPart_14 ?_
      refine lv_topi (fun v11 ev11 => ?_)
      have dv11 : dkN [(0, 40)] v11 := by rw [ev11]; exact (hO 342 _)
      have xv11 : v11 = I0 342 (Int32.toNatClampNeg p0) := ev11.trans rfl
      refine lv_icmp_gt (tgt := 34) hx hb dX6_isPart_15 (by decide) (fun c12 => ?_) (fun c12 => ?_)
      ·
        have q13 : (I0 342 (Int32.toNatClampNeg p0)).toInt + 1 ≤ p1.toInt := by first | (rw [← xv11]; exact (dkc_lt c12)) | (subst xv11; exact (dkc_lt c12))
        have d14 : dkN [(1, 2147483647)] p1 := dkN_le2 1 dv11 d5 (dkc_lt c12) rfl
        refine lv_iconst (v := 0) hx hb dX6_isPart_34 (by decide) ?_
        exact W.zret (v := 0) (ty := .boolean) hx hb hr rfl (fun t ht hW9 => ⟨⟨0, I0, rfl, ⟨hF, hO, Or.inr (Or.inr (Or.inl ⟨dkN_sub (dkN_lit (x := 0) (0) rfl) rfl, dkN_sub d14 rfl, dkN_sub d10 rfl, q4, q9, q13, rfl, trivial⟩))⟩, dkW_eq ht hW⟩, hS.F ht⟩) hS.2.2 dX6_isPart_35
      ·
        have q15 : p1.toInt + 0 ≤ (I0 342 (Int32.toNatClampNeg p0)).toInt := by first | (rw [← xv11]; exact (dkc_nlt c12)) | (subst xv11; exact (dkc_nlt c12))
        have d16 : dkN [(0, 40)] p1 := dkN_le1 0 d5 dv11 (dkc_nlt c12) rfl
        refine lv_iload_n hx hb dX6_isPart_18 rfl (lv_at hl 3 rfl) ?_
        refine lv_aload_n hx hb dX6_isPart_19 rfl (lv_at hl 0 rfl) ?_
        refine dk_get (k := 340) hx hb hts iX6_isPart_6 hown hK (dk_at340 hW) rfl 1 (by decide) (hts (.fieldLink RX6 13 "DogKingsModel" "many" "[I") (List.mem_of_getElem? (i := 1) rfl)) rfl dX6_isPart_20 ?_
        refine lv_iload_n hx hb dX6_isPart_23 rfl (lv_at hl 1 rfl) ?_
        refine dk_ild (k := 342) hx hb hK (dk_at342 hW) (dkN_in (n := 8) dp0 rfl) dX6_isPart_24 ?_
        refine lv_topi (fun v17 ev17 => ?_)
        have dv17 : dkN [(0, 40)] v17 := by rw [ev17]; exact (hO 342 _)
        have xv17 : v17 = I0 342 (Int32.toNatClampNeg p0) := ev17.trans rfl
        refine lv_iload_n hx hb dX6_isPart_25 rfl (lv_at hl 2 rfl) ?_
        refine lv_isub hx hb dX6_isPart_26 ?_
        refine lv_topi (fun v18 ev18 => ?_)
        have dv18 : dkN [(-40, 40)] v18 := by rw [ev18]; exact dkN_subt dv17 d16 rfl
        have xv18 : v18 = (I0 342 (Int32.toNatClampNeg p0)) - p1 := by rw [ev18, xv17]
        have q19 : ((I0 342 (Int32.toNatClampNeg p0)) - p1).toInt = (I0 342 (Int32.toNatClampNeg p0)).toInt - p1.toInt := by first | (rw [← xv18, ← xv17]; exact (by rw [ev18]; exact dk_subE dv17 d16 rfl)) | (subst xv18 xv17; exact (by rw [ev18]; exact dk_subE dv17 d16 rfl))
        refine lv_icmp_gt (tgt := 34) hx hb dX6_isPart_27 (by decide) (fun c20 => ?_) (fun c20 => ?_)
        ·
          have q21 : ((I0 342 (Int32.toNatClampNeg p0)) - p1).toInt + 1 ≤ p2.toInt := by first | (rw [← xv18]; exact (dkc_lt c20)) | (subst xv18; exact (dkc_lt c20))
          refine lv_iconst (v := 0) hx hb dX6_isPart_34 (by decide) ?_
          exact W.zret (v := 0) (ty := .boolean) hx hb hr rfl (fun t ht hW9 => ⟨⟨0, I0, rfl, ⟨hF, hO, Or.inr (Or.inr (Or.inr (Or.inl ⟨dkN_sub (dkN_lit (x := 0) (0) rfl) rfl, dkN_sub d16 rfl, dkN_sub d10 rfl, q4, q9, q15, q19, q21, rfl, trivial⟩)))⟩, dkW_eq ht hW⟩, hS.F ht⟩) hS.2.2 dX6_isPart_35
        ·
          have q22 : p2.toInt + 0 ≤ ((I0 342 (Int32.toNatClampNeg p0)) - p1).toInt := by first | (rw [← xv18]; exact (dkc_nlt c20)) | (subst xv18; exact (dkc_nlt c20))
          have d23 : dkN [(0, 40)] v18 := dkN_le2 0 d10 dv18 (dkc_nlt c20) rfl
          have d24 : dkN [(0, 40)] p2 := dkN_le1 0 d10 dv18 (dkc_nlt c20) rfl
          refine lv_iconst (v := 1) hx hb dX6_isPart_30 (by decide) ?_
          refine lv_goto (tgt := 35) hx hb dX6_isPart_31 (by decide) ?_
          exact W.zret (v := 1) (ty := .boolean) hx hb hr rfl (fun t ht hW9 => ⟨⟨1, I0, rfl, ⟨hF, hO, Or.inr (Or.inr (Or.inr (Or.inr (⟨dkN_sub (dkN_lit (x := 1) (1) rfl) rfl, dkN_sub d16 rfl, dkN_sub d24 rfl, (dk_relsub ev18 dv17 d16 (dkc_nlt c20) rfl), q4, q9, q15, q19, q22, rfl, trivial⟩))))⟩, dkW_eq ht hW⟩, hS.F ht⟩) hS.2.2 dX6_isPart_35
set_option maxHeartbeats 4000000 in
set_option maxRecDepth 100000 in
theorem fx_X6_isPart_4 (l : Launch) (g : dkG) (z : Nat) (I0 : dkI) (p0 : Int32) (p1 : Int32) (p2 : Int32) (dp0 : dkN [(0, 7)] p0) (dp2 : dkN [(0, 40)] p2)  (hO : dkOk I0) : Met l yX6_isPart wsX6_isPart (dkR 0) (dkPc g z [.ref (z + 340), .int p0, .int p1, .int p2] I0) (dkQi g z (fun r I1 => dkF [] I0 I1 ∧ dkOk I1 ∧ ((dkN [(0, 0)] r ∧ dkN [(-2147483648, -1)] p1 ∧ p1.toInt + 1 ≤ (0 : Int) ∧ r = 0 ∧ True) ∨ (dkN [(0, 0)] r ∧ dkN [(1, 2147483647)] p1 ∧ (0 : Int) + 0 ≤ p1.toInt ∧ (0 : Int) + 0 ≤ p2.toInt ∧ (I0 342 (Int32.toNatClampNeg p0)).toInt + 1 ≤ p1.toInt ∧ r = 0 ∧ True) ∨ (dkN [(0, 0)] r ∧ dkN [(0, 40)] p1 ∧ (0 : Int) + 0 ≤ p1.toInt ∧ (0 : Int) + 0 ≤ p2.toInt ∧ p1.toInt + 0 ≤ (I0 342 (Int32.toNatClampNeg p0)).toInt ∧ ((I0 342 (Int32.toNatClampNeg p0)) - p1).toInt = (I0 342 (Int32.toNatClampNeg p0)).toInt - p1.toInt ∧ ((I0 342 (Int32.toNatClampNeg p0)) - p1).toInt + 1 ≤ p2.toInt ∧ r = 0 ∧ True) ∨ (dkN [(1, 1)] r ∧ dkN [(0, 40)] p1 ∧ p1.toInt + p2.toInt ≤ 40 ∧ (0 : Int) + 0 ≤ p1.toInt ∧ (0 : Int) + 0 ≤ p2.toInt ∧ p1.toInt + 0 ≤ (I0 342 (Int32.toNatClampNeg p0)).toInt ∧ ((I0 342 (Int32.toNatClampNeg p0)) - p1).toInt = (I0 342 (Int32.toNatClampNeg p0)).toInt - p1.toInt ∧ p2.toInt + 0 ≤ ((I0 342 (Int32.toNatClampNeg p0)) - p1).toInt ∧ r = 1 ∧ True)))) 0 0 (dkA z) := by
  refine Met.ofW (cc := cX6_isPart) (maxL := 4) (ret := (some .boolean)) (by decide) rfl ?_
  intro p e s m args below meth c s₁ B hml hv
  obtain ⟨ha, hW, hK, hT⟩ := hv
  have hx := B.exec
  have hb := B.bytes
  have hr := B.returns
  have hts := atoms_spec (ws := wsX6_isPart) B.pre
  have hown : s.vm.findClass RX6 = some m.cls := findClass_of_methodNamed B.named
  have hlocks := B.notSynchronized
  have hS : va_S (dkA z) s.heap s.heap [] := va_S.rf
  have hF : dkF [] I0 I0 := dkF_rf _ _
  have hl := lv_entry ([.ref (z + 340), .int p0, .int p1, .int p2]) (n := 4) (Nat.le_of_ble_eq_true rfl)
  have hgo : entryFrame m args 4 = entryFrame m ([.ref (z + 340), .int p0, .int p1, .int p2] : List Value).toArray 4 := by rw [ha]
  rw [hgo, lg_entry_eq]
  generalize (lg_sl ([.ref (z + 340), .int p0, .int p1, .int p2]) ++ List.replicate (4 - (lg_sl ([.ref (z + 340), .int p0, .int p1, .int p2])).length) Slot.unset).toArray = ls at hl ⊢
  have hl : lv_has ls 4 [(0, .ref (z + 340)), (1, .int p0), (2, .int p1), (3, .int p2)] := hl
  refine lv_iload_n hx hb dX6_isPart_0 rfl (lv_at hl 2 rfl) ?_
  refine lv_if_lt (tgt := 34) hx hb dX6_isPart_1 (by decide) (fun c1 => ?_) (fun c1 => ?_)
  ·
    have q2 : p1.toInt + 1 ≤ (0 : Int) := (dkc_lt c1)
    have d3 : dkN [(-2147483648, -1)] p1 := dkN_le1 1 (dkN_top p1) (dkN_lit (x := 0) (0) rfl) (dkc_lt c1) rfl
    refine lv_iconst (v := 0) hx hb dX6_isPart_34 (by decide) ?_
    exact W.zret (v := 0) (ty := .boolean) hx hb hr rfl (fun t ht hW9 => ⟨⟨0, I0, rfl, ⟨hF, hO, Or.inl ⟨dkN_sub (dkN_lit (x := 0) (0) rfl) rfl, dkN_sub d3 rfl, q2, rfl, trivial⟩⟩, dkW_eq ht hW⟩, hS.F ht⟩) hS.2.2 dX6_isPart_35
  ·
    have q4 : (0 : Int) + 0 ≤ p1.toInt := (dkc_nlt c1)
    have d5 : dkN [(0, 2147483647)] p1 := dkN_le2 0 (dkN_lit (x := 0) (0) rfl) (dkN_top p1) (dkc_nlt c1) rfl
    refine lv_iload_n hx hb dX6_isPart_4 rfl (lv_at hl 3 rfl) ?_
    refine lv_if_lt (tgt := 34) hx hb dX6_isPart_5 (by decide) (fun c6 => ?_) (fun c6 => ?_)
    ·
      exact (dkN_nil (show dkN [] p2 from dkN_le1 1 dp2 (dkN_lit (x := 0) (0) rfl) (dkc_lt c6) rfl)).elim
    ·
      have q7 : (0 : Int) + 0 ≤ p2.toInt := (dkc_nlt c6)
      refine lv_iload_n hx hb dX6_isPart_8 rfl (lv_at hl 2 rfl) ?_
      refine lv_aload_n hx hb dX6_isPart_9 rfl (lv_at hl 0 rfl) ?_
      refine dk_get (k := 340) hx hb hts iX6_isPart_6 hown hK (dk_at340 hW) rfl 1 (by decide) (hts (.fieldLink RX6 13 "DogKingsModel" "many" "[I") (List.mem_of_getElem? (i := 1) rfl)) rfl dX6_isPart_10 ?_
      refine lv_iload_n hx hb dX6_isPart_13 rfl (lv_at hl 1 rfl) ?_
      refine dk_ild (k := 342) hx hb hK (dk_at342 hW) (dkN_in (n := 8) dp0 rfl) dX6_isPart_14 ?_
      refine lv_topi (fun v8 ev8 => ?_)
      have dv8 : dkN [(0, 40)] v8 := by rw [ev8]; exact (hO 342 _)
      have xv8 : v8 = I0 342 (Int32.toNatClampNeg p0) := ev8.trans rfl
      refine lv_icmp_gt (tgt := 34) hx hb dX6_isPart_15 (by decide) (fun c9 => ?_) (fun c9 => ?_)
      ·
        have q10 : (I0 342 (Int32.toNatClampNeg p0)).toInt + 1 ≤ p1.toInt := by first | (rw [← xv8]; exact (dkc_lt c9)) | (subst xv8; exact (dkc_lt c9))
        have d11 : dkN [(1, 2147483647)] p1 := dkN_le2 1 dv8 d5 (dkc_lt c9) rfl
        refine lv_iconst (v := 0) hx hb dX6_isPart_34 (by decide) ?_
        exact W.zret (v := 0) (ty := .boolean) hx hb hr rfl (fun t ht hW9 => ⟨⟨0, I0, rfl, ⟨hF, hO, Or.inr (Or.inl ⟨dkN_sub (dkN_lit (x := 0) (0) rfl) rfl, dkN_sub d11 rfl, q4, q7, q10, rfl, trivial⟩)⟩, dkW_eq ht hW⟩, hS.F ht⟩) hS.2.2 dX6_isPart_35
      ·
        have q12 : p1.toInt + 0 ≤ (I0 342 (Int32.toNatClampNeg p0)).toInt := by first | (rw [← xv8]; exact (dkc_nlt c9)) | (subst xv8; exact (dkc_nlt c9))
        have d13 : dkN [(0, 40)] p1 := dkN_le1 0 d5 dv8 (dkc_nlt c9) rfl
        refine lv_iload_n hx hb dX6_isPart_18 rfl (lv_at hl 3 rfl) ?_
        refine lv_aload_n hx hb dX6_isPart_19 rfl (lv_at hl 0 rfl) ?_
        refine dk_get (k := 340) hx hb hts iX6_isPart_6 hown hK (dk_at340 hW) rfl 1 (by decide) (hts (.fieldLink RX6 13 "DogKingsModel" "many" "[I") (List.mem_of_getElem? (i := 1) rfl)) rfl dX6_isPart_20 ?_
        refine lv_iload_n hx hb dX6_isPart_23 rfl (lv_at hl 1 rfl) ?_
        refine dk_ild (k := 342) hx hb hK (dk_at342 hW) (dkN_in (n := 8) dp0 rfl) dX6_isPart_24 ?_
        refine lv_topi (fun v14 ev14 => ?_)
        have dv14 : dkN [(0, 40)] v14 := by rw [ev14]; exact (hO 342 _)
        have xv14 : v14 = I0 342 (Int32.toNatClampNeg p0) := ev14.trans rfl
        refine lv_iload_n hx hb dX6_isPart_25 rfl (lv_at hl 2 rfl) ?_
        refine lv_isub hx hb dX6_isPart_26 ?_
        refine lv_topi (fun v15 ev15 => ?_)
        have dv15 : dkN [(-40, 40)] v15 := by rw [ev15]; exact dkN_subt dv14 d13 rfl
        have xv15 : v15 = (I0 342 (Int32.toNatClampNeg p0)) - p1 := by rw [ev15, xv14]
        have q16 : ((I0 342 (Int32.toNatClampNeg p0)) - p1).toInt = (I0 342 (Int32.toNatClampNeg p0)).toInt - p1.toInt := by first | (rw [← xv15, ← xv14]; exact (by rw [ev15]; exact dk_subE dv14 d13 rfl)) | (subst xv15 xv14; exact (by rw [ev15]; exact dk_subE dv14 d13 rfl))
        refine lv_icmp_gt (tgt := 34) hx hb dX6_isPart_27 (by decide) (fun c17 => ?_) (fun c17 => ?_)
        ·
          have q18 : ((I0 342 (Int32.toNatClampNeg p0)) - p1).toInt + 1 ≤ p2.toInt := by first | (rw [← xv15]; exact (dkc_lt c17)) | (subst xv15; exact (dkc_lt c17))
          have d19 : dkN [(-40, 39)] v15 := dkN_le1 1 dv15 dp2 (dkc_lt c17) rfl
          refine lv_iconst (v := 0) hx hb dX6_isPart_34 (by decide) ?_
          exact W.zret (v := 0) (ty := .boolean) hx hb hr rfl (fun t ht hW9 => ⟨⟨0, I0, rfl, ⟨hF, hO, Or.inr (Or.inr (Or.inl ⟨dkN_sub (dkN_lit (x := 0) (0) rfl) rfl, dkN_sub d13 rfl, q4, q7, q12, q16, q18, rfl, trivial⟩))⟩, dkW_eq ht hW⟩, hS.F ht⟩) hS.2.2 dX6_isPart_35
        ·
          have q20 : p2.toInt + 0 ≤ ((I0 342 (Int32.toNatClampNeg p0)) - p1).toInt := by first | (rw [← xv15]; exact (dkc_nlt c17)) | (subst xv15; exact (dkc_nlt c17))
          have d21 : dkN [(0, 40)] v15 := dkN_le2 0 dp2 dv15 (dkc_nlt c17) rfl
          refine lv_iconst (v := 1) hx hb dX6_isPart_30 (by decide) ?_
          refine lv_goto (tgt := 35) hx hb dX6_isPart_31 (by decide) ?_
          exact W.zret (v := 1) (ty := .boolean) hx hb hr rfl (fun t ht hW9 => ⟨⟨1, I0, rfl, ⟨hF, hO, Or.inr (Or.inr (Or.inr (⟨dkN_sub (dkN_lit (x := 1) (1) rfl) rfl, dkN_sub d13 rfl, (dk_relsub ev15 dv14 d13 (dkc_nlt c17) rfl), q4, q7, q12, q16, q20, rfl, trivial⟩)))⟩, dkW_eq ht hW⟩, hS.F ht⟩) hS.2.2 dX6_isPart_35
set_option maxHeartbeats 4000000 in
set_option maxRecDepth 100000 in
theorem fx_X6_found_8 (l : Launch) (g : dkG) (z : Nat) (I0 : dkI) (p0 : Int32) (dp0 : dkN [(5, 5)] p0)  (hO : dkOk I0) : Met l yX6_found wsX6_found (dkR 0) (dkPc g z [.ref (z + 340), .int p0] I0) (dkQi g z (fun r I1 => dkF [(340, 340, 4, 4)] I0 I1 ∧ dkOk I1 ∧ ((dkN [(-1000015, -1000015)] r ∧ dkN [(5, 5)] (I1 340 4) ∧ ((-1000010 : Int32) - p0).toInt = (-1000010 : Int) - p0.toInt ∧ r = (-1000010 : Int32) - p0 ∧ I1 340 4 = p0 ∧ True)))) 0 0 (dkA z) := by
  refine Met.ofW (cc := cX6_found) (maxL := 2) (ret := (some .int)) (by decide) rfl ?_
  intro p e s m args below meth c s₁ B hml hv
  obtain ⟨ha, hW, hK, hT⟩ := hv
  have hx := B.exec
  have hb := B.bytes
  have hr := B.returns
  have hts := atoms_spec (ws := wsX6_found) B.pre
  have hown : s.vm.findClass RX6 = some m.cls := findClass_of_methodNamed B.named
  have hlocks := B.notSynchronized
  have hS : va_S (dkA z) s.heap s.heap [] := va_S.rf
  have hF : dkF [(340, 340, 4, 4)] I0 I0 := dkF_rf _ _
  have hl := lv_entry ([.ref (z + 340), .int p0]) (n := 2) (Nat.le_of_ble_eq_true rfl)
  have hgo : entryFrame m args 2 = entryFrame m ([.ref (z + 340), .int p0] : List Value).toArray 2 := by rw [ha]
  rw [hgo, lg_entry_eq]
  generalize (lg_sl ([.ref (z + 340), .int p0]) ++ List.replicate (2 - (lg_sl ([.ref (z + 340), .int p0])).length) Slot.unset).toArray = ls at hl ⊢
  have hl : lv_has ls 2 [(0, .ref (z + 340)), (1, .int p0)] := hl
  refine lv_aload_n hx hb dX6_found_0 rfl (lv_at hl 0 rfl) ?_
  refine lv_iload_n hx hb dX6_found_1 rfl (lv_at hl 1 rfl) ?_
  refine dk_put (k := 340) hx hb hts iX6_found_6 tyX6 tyX6_ok nmX6 hown hK hW (dk_at340 hW) hS rfl 4 (by decide) (hts (.fieldLink RX6 51 "DogKingsModel" "status" "I") (List.mem_of_getElem? (i := 1) rfl)) rfl rfl (Nat.le_of_ble_eq_true rfl) rfl dX6_found_2 (fun I1 H1 L1 eI1 hW hS => ?_)
  have eI1 : I1 = dkU I0 340 4 p0 := eI1
  have hO := dkO_set hO eI1 (dkN_sub dp0 rfl)
  have hF := dkF_set hF eI1 rfl
  refine lv_ldc (v := (-1000010)) hx hb hown (hts (.constant RX6 55 (-1000010)) (List.mem_of_getElem? (i := 2) rfl)) dX6_found_5 ?_
  refine lv_iload_n hx hb dX6_found_7 rfl (lv_at hl 1 rfl) ?_
  refine lv_isub hx hb dX6_found_8 ?_
  refine lv_topi (fun v2 ev2 => ?_)
  have dv2 : dkN [(-1000015, -1000015)] v2 := by rw [ev2]; exact dkN_subt (dkN_lit (x := (-1000010)) (-1000010) rfl) dp0 rfl
  have xv2 : v2 = (-1000010 : Int32) - p0 := by rw [ev2]
  have q3 : ((-1000010 : Int32) - p0).toInt = (-1000010 : Int) - p0.toInt := by first | (rw [← xv2]; exact (by rw [ev2]; exact dk_subE (dkN_lit (x := (-1000010)) (-1000010) rfl) dp0 rfl)) | (subst xv2; exact (by rw [ev2]; exact dk_subE (dkN_lit (x := (-1000010)) (-1000010) rfl) dp0 rfl))
  exact W.iret (v := v2) hx hb hr (fun t ht hW9 => ⟨⟨v2, I1, rfl, ⟨hF, hO, ⟨dkN_sub dv2 rfl, (show dkN [(5, 5)] (I1 340 4) from dkN_sub (by rw [eI1, dkU_ss]; exact dp0) rfl), q3, xv2, (by rw [eI1, dkU_ss]), trivial⟩⟩, dkW_eq ht hW⟩, hS.F ht⟩) hS.2.2 dX6_found_9
