set_option maxHeartbeats 4000000 in
set_option maxRecDepth 100000 in
theorem fx_X5_fits_1 (l : Launch) (g : dkG) (z : Nat) (I0 : dkI) (p0 : Int32) (p1 : Int32) (p2 : Int32) (p3 : Int32) (p4 : Int32)  (hO : dkOk I0) : Met l yX5_fits wsX5_fits (dkR 7) (dkPc g z [.ref (z + 0), .int p0, .int p1, .int p2, .int p3, .int p4] I0) (dkQi g z (fun r I1 => dkF [(0, 0, 3, 3), (326, 326, 0, 4), (326, 326, 11, 11), (326, 326, 15, 17), (327, 327, 0, 4), (328, 328, 0, 4), (329, 329, 0, 4), (330, 330, 0, 4), (331, 331, 0, 4), (332, 332, 0, 4), (333, 333, 0, 5), (334, 334, 0, 5), (335, 335, 0, 5), (336, 336, 0, 8)] I0 I1 ∧ dkOk I1 ∧ ((dkN [(-1000001, -1000001)] r ∧ dkN [(-2147483648, -1)] p0 ∧ p0.toInt + 1 ≤ (0 : Int) ∧ r = (-1000001) ∧ I1 0 3 = I0 0 3 ∧ True) ∨ (dkN [(-1000001, -1000001)] r ∧ dkN [(0, 2147483647)] p0 ∧ (0 : Int) + 0 ≤ p0.toInt ∧ (I0 25 11).toInt + 0 ≤ p0.toInt ∧ r = (-1000001) ∧ I1 0 3 = I0 0 3 ∧ True) ∨ (dkN [(-1000001, -1000001)] r ∧ dkN [(0, 5)] p0 ∧ dkN [(-2147483648, -1)] p1 ∧ dkN [(1, 6)] (I1 25 11) ∧ (0 : Int) + 0 ≤ p0.toInt ∧ p0.toInt + 1 ≤ (I0 25 11).toInt ∧ p1.toInt + 1 ≤ (0 : Int) ∧ r = (-1000001) ∧ I1 0 3 = I0 0 3 ∧ True) ∨ (dkN [(-1000001, -1000001)] r ∧ dkN [(0, 5)] p0 ∧ dkN [(8, 2147483647)] p1 ∧ dkN [(1, 6)] (I1 25 11) ∧ (0 : Int) + 0 ≤ p0.toInt ∧ p0.toInt + 1 ≤ (I0 25 11).toInt ∧ (0 : Int) + 0 ≤ p1.toInt ∧ (7 : Int) + 1 ≤ p1.toInt ∧ r = (-1000001) ∧ I1 0 3 = I0 0 3 ∧ True) ∨ (dkN [(-1000001, -1000001)] r ∧ dkN [(0, 5)] p0 ∧ dkN [(0, 7)] p1 ∧ dkN [(-2147483648, 0)] p3 ∧ dkN [(1, 6)] (I1 25 11) ∧ (0 : Int) + 0 ≤ p0.toInt ∧ p0.toInt + 1 ≤ (I0 25 11).toInt ∧ (0 : Int) + 0 ≤ p1.toInt ∧ p1.toInt + 0 ≤ (7 : Int) ∧ p3.toInt + 1 ≤ (1 : Int) ∧ r = (-1000001) ∧ I1 0 3 = I0 0 3 ∧ True) ∨ (dkN [(-1000001, -1000001)] r ∧ dkN [(0, 5)] p0 ∧ dkN [(0, 7)] p1 ∧ dkN [(13, 2147483647)] p3 ∧ dkN [(1, 6)] (I1 25 11) ∧ (0 : Int) + 0 ≤ p0.toInt ∧ p0.toInt + 1 ≤ (I0 25 11).toInt ∧ (0 : Int) + 0 ≤ p1.toInt ∧ p1.toInt + 0 ≤ (7 : Int) ∧ (1 : Int) + 0 ≤ p3.toInt ∧ (12 : Int) + 1 ≤ p3.toInt ∧ r = (-1000001) ∧ I1 0 3 = I0 0 3 ∧ True) ∨ (dkN [(-1000001, -1000001)] r ∧ dkN [(0, 5)] p0 ∧ dkN [(0, 7)] p1 ∧ dkN [(1, 12)] p3 ∧ dkN [(-2147483648, -1)] p4 ∧ dkN [(1, 6)] (I1 25 11) ∧ (0 : Int) + 0 ≤ p0.toInt ∧ p0.toInt + 1 ≤ (I0 25 11).toInt ∧ (0 : Int) + 0 ≤ p1.toInt ∧ p1.toInt + 0 ≤ (7 : Int) ∧ (1 : Int) + 0 ≤ p3.toInt ∧ p3.toInt + 0 ≤ (12 : Int) ∧ p4.toInt + 1 ≤ (0 : Int) ∧ r = (-1000001) ∧ I1 0 3 = I0 0 3 ∧ True) ∨ (dkN [(-1000001, -1000001)] r ∧ dkN [(0, 5)] p0 ∧ dkN [(0, 7)] p1 ∧ dkN [(1, 12)] p3 ∧ dkN [(2, 2147483647)] p4 ∧ dkN [(1, 6)] (I1 25 11) ∧ (0 : Int) + 0 ≤ p0.toInt ∧ p0.toInt + 1 ≤ (I0 25 11).toInt ∧ (0 : Int) + 0 ≤ p1.toInt ∧ p1.toInt + 0 ≤ (7 : Int) ∧ (1 : Int) + 0 ≤ p3.toInt ∧ p3.toInt + 0 ≤ (12 : Int) ∧ (0 : Int) + 0 ≤ p4.toInt ∧ (1 : Int) + 1 ≤ p4.toInt ∧ r = (-1000001) ∧ I1 0 3 = I0 0 3 ∧ True) ∨ (dkN [(-1000012, -1000012)] r ∧ dkN [(0, 5)] p0 ∧ dkN [(0, 7)] p1 ∧ dkN [(-2147483648, -1)] p2 ∧ dkN [(1, 12)] p3 ∧ dkN [(0, 1)] p4 ∧ dkN [(2, 2)] (I1 0 3) ∧ dkN [(1, 6)] (I1 25 11) ∧ (0 : Int) + 0 ≤ p0.toInt ∧ p0.toInt + 1 ≤ (I0 25 11).toInt ∧ (0 : Int) + 0 ≤ p1.toInt ∧ p1.toInt + 0 ≤ (7 : Int) ∧ (1 : Int) + 0 ≤ p3.toInt ∧ p3.toInt + 0 ≤ (12 : Int) ∧ (0 : Int) + 0 ≤ p4.toInt ∧ p4.toInt + 0 ≤ (1 : Int) ∧ (I0 11 (Int32.toNatClampNeg p1)).toInt ≠ (-1 : Int) ∧ p2.toInt + 1 ≤ (0 : Int) ∧ ((-1000010 : Int32) - (2 : Int32)).toInt = (-1000010 : Int) - (2 : Int) ∧ r = (-1000010 : Int32) - (2 : Int32) ∧ I1 0 3 = 2 ∧ True) ∨ (dkN [(-1000012, -1000012)] r ∧ dkN [(0, 5)] p0 ∧ dkN [(0, 7)] p1 ∧ dkN [(0, 2147483647)] p2 ∧ dkN [(1, 12)] p3 ∧ dkN [(0, 1)] p4 ∧ dkN [(2, 2)] (I1 0 3) ∧ dkN [(1, 6)] (I1 25 11) ∧ (0 : Int) + 0 ≤ p0.toInt ∧ p0.toInt + 1 ≤ (I0 25 11).toInt ∧ (0 : Int) + 0 ≤ p1.toInt ∧ p1.toInt + 0 ≤ (7 : Int) ∧ (1 : Int) + 0 ≤ p3.toInt ∧ p3.toInt + 0 ≤ (12 : Int) ∧ (0 : Int) + 0 ≤ p4.toInt ∧ p4.toInt + 0 ≤ (1 : Int) ∧ (I0 11 (Int32.toNatClampNeg p1)).toInt ≠ (-1 : Int) ∧ (0 : Int) + 0 ≤ p2.toInt ∧ (0 : Int) + 0 ≤ p3.toInt ∧ ((I0 11 (Int32.toNatClampNeg p1)) - p3).toInt = (I0 11 (Int32.toNatClampNeg p1)).toInt - p3.toInt ∧ ((I0 11 (Int32.toNatClampNeg p1)) - p3).toInt + 1 ≤ p2.toInt ∧ ((-1000010 : Int32) - (2 : Int32)).toInt = (-1000010 : Int) - (2 : Int) ∧ r = (-1000010 : Int32) - (2 : Int32) ∧ I1 0 3 = 2 ∧ True) ∨ (True ∧ dkN [(0, 5)] p0 ∧ dkN [(0, 7)] p1 ∧ dkN [(0, 39)] p2 ∧ dkN [(1, 12)] p3 ∧ dkN [(1, 1)] p4 ∧ dkN [(0, 0)] (I1 0 3) ∧ dkN [(1, 6)] (I1 25 11) ∧ (0 : Int) + 0 ≤ p0.toInt ∧ p0.toInt + 1 ≤ (I0 25 11).toInt ∧ (0 : Int) + 0 ≤ p1.toInt ∧ p1.toInt + 0 ≤ (7 : Int) ∧ (1 : Int) + 0 ≤ p3.toInt ∧ p3.toInt + 0 ≤ (12 : Int) ∧ (0 : Int) + 0 ≤ p4.toInt ∧ p4.toInt + 0 ≤ (1 : Int) ∧ (I0 11 (Int32.toNatClampNeg p1)).toInt ≠ (-1 : Int) ∧ (0 : Int) + 0 ≤ p2.toInt ∧ (0 : Int) + 0 ≤ p3.toInt ∧ ((I0 11 (Int32.toNatClampNeg p1)) - p3).toInt = (I0 11 (Int32.toNatClampNeg p1)).toInt - p3.toInt ∧ p2.toInt + 0 ≤ ((I0 11 (Int32.toNatClampNeg p1)) - p3).toInt ∧ p4.toInt ≠ (0 : Int) ∧ I1 0 3 = 0 ∧ True) ∨ (True ∧ dkN [(0, 5)] p0 ∧ dkN [(0, 7)] p1 ∧ dkN [(0, 39)] p2 ∧ dkN [(1, 12)] p3 ∧ dkN [(0, 0)] p4 ∧ dkN [(0, 0)] (I1 0 3) ∧ dkN [(1, 6)] (I1 25 11) ∧ (0 : Int) + 0 ≤ p0.toInt ∧ p0.toInt + 1 ≤ (I0 25 11).toInt ∧ (0 : Int) + 0 ≤ p1.toInt ∧ p1.toInt + 0 ≤ (7 : Int) ∧ (1 : Int) + 0 ≤ p3.toInt ∧ p3.toInt + 0 ≤ (12 : Int) ∧ (0 : Int) + 0 ≤ p4.toInt ∧ p4.toInt + 0 ≤ (1 : Int) ∧ (I0 11 (Int32.toNatClampNeg p1)).toInt ≠ (-1 : Int) ∧ (0 : Int) + 0 ≤ p2.toInt ∧ (0 : Int) + 0 ≤ p3.toInt ∧ ((I0 11 (Int32.toNatClampNeg p1)) - p3).toInt = (I0 11 (Int32.toNatClampNeg p1)).toInt - p3.toInt ∧ p2.toInt + 0 ≤ ((I0 11 (Int32.toNatClampNeg p1)) - p3).toInt ∧ p4.toInt = (0 : Int) ∧ I1 0 3 = 0 ∧ True) ∨ (dkN [(-1000011, -1000011)] r ∧ dkN [(0, 5)] p0 ∧ dkN [(0, 7)] p1 ∧ dkN [(1, 12)] p3 ∧ dkN [(0, 1)] p4 ∧ dkN [(1, 1)] (I1 0 3) ∧ dkN [(1, 6)] (I1 25 11) ∧ (0 : Int) + 0 ≤ p0.toInt ∧ p0.toInt + 1 ≤ (I0 25 11).toInt ∧ (0 : Int) + 0 ≤ p1.toInt ∧ p1.toInt + 0 ≤ (7 : Int) ∧ (1 : Int) + 0 ≤ p3.toInt ∧ p3.toInt + 0 ≤ (12 : Int) ∧ (0 : Int) + 0 ≤ p4.toInt ∧ p4.toInt + 0 ≤ (1 : Int) ∧ (I0 11 (Int32.toNatClampNeg p1)).toInt = (-1 : Int) ∧ ((-1000010 : Int32) - (1 : Int32)).toInt = (-1000010 : Int) - (1 : Int) ∧ r = (-1000010 : Int32) - (1 : Int32) ∧ I1 0 3 = 1 ∧ True)))) 0 0 (dkA z) := by
  refine Met.ofW (cc := cX5_fits) (maxL := 7) (ret := (some .int)) (by decide) rfl ?_
  intro p e s m args below meth c s₁ B hml hv
  obtain ⟨ha, hW, hK, hT⟩ := hv
  have hx := B.exec
  have hb := B.bytes
  have hr := B.returns
  have hts := atoms_spec (ws := wsX5_fits) B.pre
  have hown : s.vm.findClass RX5 = some m.cls := findClass_of_methodNamed B.named
  have hlocks := B.notSynchronized
  have hS : va_S (dkA z) s.heap s.heap [] := va_S.rf
  have hF : dkF [(0, 0, 3, 3), (326, 326, 0, 4), (326, 326, 11, 11), (326, 326, 15, 17), (327, 327, 0, 4), (328, 328, 0, 4), (329, 329, 0, 4), (330, 330, 0, 4), (331, 331, 0, 4), (332, 332, 0, 4), (333, 333, 0, 5), (334, 334, 0, 5), (335, 335, 0, 5), (336, 336, 0, 8)] I0 I0 := dkF_rf _ _
  have hl := lv_entry ([.ref (z + 0), .int p0, .int p1, .int p2, .int p3, .int p4]) (n := 7) (Nat.le_of_ble_eq_true rfl)
  have hgo : entryFrame m args 7 = entryFrame m ([.ref (z + 0), .int p0, .int p1, .int p2, .int p3, .int p4] : List Value).toArray 7 := by rw [ha]
  rw [hgo, lg_entry_eq]
  generalize (lg_sl ([.ref (z + 0), .int p0, .int p1, .int p2, .int p3, .int p4]) ++ List.replicate (7 - (lg_sl ([.ref (z + 0), .int p0, .int p1, .int p2, .int p3, .int p4])).length) Slot.unset).toArray = ls at hl ⊢
  have hl : lv_has ls 7 [(0, .ref (z + 0)), (1, .int p0), (2, .int p1), (3, .int p2), (4, .int p3), (5, .int p4)] := hl
  refine lv_aload_n hx hb dX5_fits_0 rfl (lv_at hl 0 rfl) ?_
  refine lv_iload_n hx hb dX5_fits_1 rfl (lv_at hl 1 rfl) ?_
  refine dk_Vi (As := [.int p0]) (rest := []) ⟨hx, hb, hml, hown, hts⟩ (fx_X5_isDog_1 l g z I0 p0 hO) (cwV 1 hts gX5_fits_X5_isDog rfl rfl rfl (by decide +kernel) ⟨Nat.le_of_ble_eq_true rfl, Nat.le_of_ble_eq_true rfl⟩) (dk_at0 hW) rfl hK hT hW hS rfl hl.1 rfl (Nat.le_of_ble_eq_true rfl) dX5_fits_2 ⟨Nat.zero_le _, Nat.zero_le _⟩ (fun v1 I1 H1 L1 hp1 hW hS => ?_)
  obtain ⟨hF1, hO, hc1⟩ := hp1
  have hF := dkF_call hF hF1 rfl
  have eI1 : I0 = I1 := (dkF_nil hF1).symm
  subst eI1
  rcases hc1 with ⟨dv1, a1_0, x1_0, xr1, -⟩ | hc1
  ·
    have q2 : p0.toInt + 1 ≤ (0 : Int) := x1_0
    have xv1 : v1 = 0 := by have h := xr1; exact h
    have d3 : dkN [(-2147483648, -1)] p0 := dkN_eq1 (dkN_top p0) a1_0 rfl rfl
    refine lv_if_eq (tgt := 37) hx hb dX5_fits_5 (by decide) (fun c4 => ?_) (fun c4 => ?_)
    ·
      refine lv_ldc (v := (-1000001)) hx hb hown (hts (.constant RX5 70 (-1000001)) (List.mem_of_getElem? (i := 1) rfl)) dX5_fits_37 ?_
      exact W.iret (v := (-1000001)) hx hb hr (fun t ht hW9 => ⟨⟨(-1000001), I0, rfl, ⟨hF, hO, Or.inl ⟨dkN_sub (dkN_lit (x := (-1000001)) (-1000001) rfl) rfl, dkN_sub d3 rfl, q2, rfl, rfl, trivial⟩⟩, dkW_eq ht hW⟩, hS.F ht⟩) hS.2.2 dX5_fits_39
    ·
      exact absurd ((xv1).trans (rfl).symm) c4
  rcases hc1 with ⟨dv1, a1_0, x1_0, x1_1, xr1, -⟩ | hc1
  ·
    have q5 : (0 : Int) + 0 ≤ p0.toInt := x1_0
    have q6 : (I0 25 11).toInt + 0 ≤ p0.toInt := x1_1
    have xv1 : v1 = 0 := by have h := xr1; exact h
    have d7 : dkN [(0, 2147483647)] p0 := dkN_eq1 (dkN_top p0) a1_0 rfl rfl
    refine lv_if_eq (tgt := 37) hx hb dX5_fits_5 (by decide) (fun c8 => ?_) (fun c8 => ?_)
    ·
      refine lv_ldc (v := (-1000001)) hx hb hown (hts (.constant RX5 70 (-1000001)) (List.mem_of_getElem? (i := 1) rfl)) dX5_fits_37 ?_
      exact W.iret (v := (-1000001)) hx hb hr (fun t ht hW9 => ⟨⟨(-1000001), I0, rfl, ⟨hF, hO, Or.inr (Or.inl ⟨dkN_sub (dkN_lit (x := (-1000001)) (-1000001) rfl) rfl, dkN_sub d7 rfl, q5, q6, rfl, rfl, trivial⟩)⟩, dkW_eq ht hW⟩, hS.F ht⟩) hS.2.2 dX5_fits_39
    ·
      exact absurd ((xv1).trans (rfl).symm) c8
  ·
    obtain ⟨dv1, a1_0, f1_25_11, x1_0, x1_1, xr1, -⟩ := hc1
    have q9 : (0 : Int) + 0 ≤ p0.toInt := x1_0
    have q10 : p0.toInt + 1 ≤ (I0 25 11).toInt := x1_1
    have xv1 : v1 = 1 := by have h := xr1; exact h
    have d11 : dkN [(0, 5)] p0 := dkN_eq1 (dkN_top p0) a1_0 rfl rfl
    refine lv_if_eq (tgt := 37) hx hb dX5_fits_5 (by decide) (fun c12 => ?_) (fun c12 => ?_)
    ·
      exact (dkN_nil (show dkN [] v1 from dkN_eq1 dv1 (dkN_lit (x := 0) (0) rfl) (congrArg Int32.toInt c12) rfl)).elim
    ·
      refine lv_iload_n hx hb dX5_fits_8 rfl (lv_at hl 2 rfl) ?_
      refine dk_Si (As := [.int p1]) (rest := []) ⟨hx, hb, hml, hown, hts⟩ (fx_X5_isRow_1 l g z I0 p1 hO) (va_cwS 1 hts gX5_fits_X5_isRow rfl rfl rfl (by decide +kernel) ⟨Nat.le_of_ble_eq_true rfl, Nat.le_of_ble_eq_true rfl⟩) hK hT hW hS rfl hl.1 rfl (Nat.le_of_ble_eq_true rfl) dX5_fits_9 ⟨Nat.zero_le _, Nat.zero_le _⟩ (fun v13 I13 H13 L13 hp13 hW hS => ?_)
      obtain ⟨hF13, hO, hc13⟩ := hp13
      have hF := dkF_call hF hF13 rfl
      have eI13 : I0 = I13 := (dkF_nil hF13).symm
      subst eI13
      rcases hc13 with ⟨dv13, a13_0, x13_0, xr13, -⟩ | hc13
      ·
        have q14 : p1.toInt + 1 ≤ (0 : Int) := x13_0
        have xv13 : v13 = 0 := by have h := xr13; exact h
        have d15 : dkN [(-2147483648, -1)] p1 := dkN_eq1 (dkN_top p1) a13_0 rfl rfl
        refine lv_if_eq (tgt := 37) hx hb dX5_fits_12 (by decide) (fun c16 => ?_) (fun c16 => ?_)
        ·
          refine lv_ldc (v := (-1000001)) hx hb hown (hts (.constant RX5 70 (-1000001)) (List.mem_of_getElem? (i := 1) rfl)) dX5_fits_37 ?_
          exact W.iret (v := (-1000001)) hx hb hr (fun t ht hW9 => ⟨⟨(-1000001), I0, rfl, ⟨hF, hO, Or.inr (Or.inr (Or.inl ⟨dkN_sub (dkN_lit (x := (-1000001)) (-1000001) rfl) rfl, dkN_sub d11 rfl, dkN_sub d15 rfl, (show dkN [(1, 6)] (I0 25 11) from dkN_sub (by rw [hF13 25 11 rfl]; exact f1_25_11) rfl), q9, q10, q14, rfl, rfl, trivial⟩))⟩, dkW_eq ht hW⟩, hS.F ht⟩) hS.2.2 dX5_fits_39
        ·
          exact absurd ((xv13).trans (rfl).symm) c16
      rcases hc13 with ⟨dv13, a13_0, x13_0, x13_1, xr13, -⟩ | hc13
      ·
        have q17 : (0 : Int) + 0 ≤ p1.toInt := x13_0
        have q18 : (7 : Int) + 1 ≤ p1.toInt := x13_1
        have xv13 : v13 = 0 := by have h := xr13; exact h
        have d19 : dkN [(8, 2147483647)] p1 := dkN_eq1 (dkN_top p1) a13_0 rfl rfl
        refine lv_if_eq (tgt := 37) hx hb dX5_fits_12 (by decide) (fun c20 => ?_) (fun c20 => ?_)
        ·
          refine lv_ldc (v := (-1000001)) hx hb hown (hts (.constant RX5 70 (-1000001)) (List.mem_of_getElem? (i := 1) rfl)) dX5_fits_37 ?_
          exact W.iret (v := (-1000001)) hx hb hr (fun t ht hW9 => ⟨⟨(-1000001), I0, rfl, ⟨hF, hO, Or.inr (Or.inr (Or.inr (Or.inl ⟨dkN_sub (dkN_lit (x := (-1000001)) (-1000001) rfl) rfl, dkN_sub d11 rfl, dkN_sub d19 rfl, (show dkN [(1, 6)] (I0 25 11) from dkN_sub (by rw [hF13 25 11 rfl]; exact f1_25_11) rfl), q9, q10, q17, q18, rfl, rfl, trivial⟩)))⟩, dkW_eq ht hW⟩, hS.F ht⟩) hS.2.2 dX5_fits_39
        ·
          exact absurd ((xv13).trans (rfl).symm) c20
      ·
        obtain ⟨dv13, a13_0, x13_0, x13_1, xr13, -⟩ := hc13
        have q21 : (0 : Int) + 0 ≤ p1.toInt := x13_0
        have q22 : p1.toInt + 0 ≤ (7 : Int) := x13_1
        have xv13 : v13 = 1 := by have h := xr13; exact h
        have d23 : dkN [(0, 7)] p1 := dkN_eq1 (dkN_top p1) a13_0 rfl rfl
        refine lv_if_eq (tgt := 37) hx hb dX5_fits_12 (by decide) (fun c24 => ?_) (fun c24 => ?_)
        ·
          exact (dkN_nil (show dkN [] v13 from dkN_eq1 dv13 (dkN_lit (x := 0) (0) rfl) (congrArg Int32.toInt c24) rfl)).elim
        ·
          refine lv_iload hx hb dX5_fits_15 (lv_at hl 4 rfl) ?_
          refine lv_iconst (v := 1) hx hb dX5_fits_17 (by decide) ?_
          refine lv_icmp_lt (tgt := 37) hx hb dX5_fits_18 (by decide) (fun c25 => ?_) (fun c25 => ?_)
          ·
            have q26 : p3.toInt + 1 ≤ (1 : Int) := (dkc_lt c25)
            have d27 : dkN [(-2147483648, 0)] p3 := dkN_le1 1 (dkN_top p3) (dkN_lit (x := 1) (1) rfl) (dkc_lt c25) rfl
            refine lv_ldc (v := (-1000001)) hx hb hown (hts (.constant RX5 70 (-1000001)) (List.mem_of_getElem? (i := 1) rfl)) dX5_fits_37 ?_
            exact W.iret (v := (-1000001)) hx hb hr (fun t ht hW9 => ⟨⟨(-1000001), I0, rfl, ⟨hF, hO, Or.inr (Or.inr (Or.inr (Or.inr (Or.inl ⟨dkN_sub (dkN_lit (x := (-1000001)) (-1000001) rfl) rfl, dkN_sub d11 rfl, dkN_sub d23 rfl, dkN_sub d27 rfl, (show dkN [(1, 6)] (I0 25 11) from dkN_sub (by rw [hF13 25 11 rfl]; exact f1_25_11) rfl), q9, q10, q21, q22, q26, rfl, rfl, trivial⟩))))⟩, dkW_eq ht hW⟩, hS.F ht⟩) hS.2.2 dX5_fits_39
          ·
            have q28 : (1 : Int) + 0 ≤ p3.toInt := (dkc_nlt c25)
            have d29 : dkN [(1, 2147483647)] p3 := dkN_le2 0 (dkN_lit (x := 1) (1) rfl) (dkN_top p3) (dkc_nlt c25) rfl
            refine lv_iload hx hb dX5_fits_21 (lv_at hl 4 rfl) ?_
            refine lv_bipush (v := 12) hx hb dX5_fits_23 (by decide) ?_
            refine lv_icmp_gt (tgt := 37) hx hb dX5_fits_25 (by decide) (fun c30 => ?_) (fun c30 => ?_)
            ·
              have q31 : (12 : Int) + 1 ≤ p3.toInt := (dkc_lt c30)
              have d32 : dkN [(13, 2147483647)] p3 := dkN_le2 1 (dkN_lit (x := 12) (12) rfl) d29 (dkc_lt c30) rfl
              refine lv_ldc (v := (-1000001)) hx hb hown (hts (.constant RX5 70 (-1000001)) (List.mem_of_getElem? (i := 1) rfl)) dX5_fits_37 ?_
              exact W.iret (v := (-1000001)) hx hb hr (fun t ht hW9 => ⟨⟨(-1000001), I0, rfl, ⟨hF, hO, Or.inr (Or.inr (Or.inr (Or.inr (Or.inr (Or.inl ⟨dkN_sub (dkN_lit (x := (-1000001)) (-1000001) rfl) rfl, dkN_sub d11 rfl, dkN_sub d23 rfl, dkN_sub d32 rfl, (show dkN [(1, 6)] (I0 25 11) from dkN_sub (by rw [hF13 25 11 rfl]; exact f1_25_11) rfl), q9, q10, q21, q22, q28, q31, rfl, rfl, trivial⟩)))))⟩, dkW_eq ht hW⟩, hS.F ht⟩) hS.2.2 dX5_fits_39
            ·
              have q33 : p3.toInt + 0 ≤ (12 : Int) := (dkc_nlt c30)
              have d34 : dkN [(1, 12)] p3 := dkN_le1 0 d29 (dkN_lit (x := 12) (12) rfl) (dkc_nlt c30) rfl
              refine lv_iload hx hb dX5_fits_28 (lv_at hl 5 rfl) ?_
              refine lv_iconst (v := 1) hx hb dX5_fits_30 (by decide) ?_
              refine dk_Si (As := [.int p4, .int 1]) (rest := []) ⟨hx, hb, hml, hown, hts⟩ (fx_X5_isUpTo_15 l g z I0 p4 1 (dkN_lit (x := 1) (1) rfl) hO) (va_cwS 2 hts gX5_fits_X5_isUpTo rfl rfl rfl (by decide +kernel) ⟨Nat.le_of_ble_eq_true rfl, Nat.le_of_ble_eq_true rfl⟩) hK hT hW hS rfl hl.1 rfl (Nat.le_of_ble_eq_true rfl) dX5_fits_31 ⟨Nat.zero_le _, Nat.zero_le _⟩ (fun v35 I35 H35 L35 hp35 hW hS => ?_)
              obtain ⟨hF35, hO, hc35⟩ := hp35
              have hF := dkF_call hF hF35 rfl
              have eI35 : I0 = I35 := (dkF_nil hF35).symm
              subst eI35
              rcases hc35 with ⟨dv35, a35_0, x35_0, xr35, -⟩ | hc35
              ·
                have q36 : p4.toInt + 1 ≤ (0 : Int) := x35_0
                have xv35 : v35 = 0 := by have h := xr35; exact h
                have d37 : dkN [(-2147483648, -1)] p4 := dkN_eq1 (dkN_top p4) a35_0 rfl rfl
                refine lv_if_ne (tgt := 40) hx hb dX5_fits_34 (by decide) (fun c38 => ?_) (fun c38 => ?_)
                ·
                  exact absurd ((xv35).trans (rfl).symm) c38
                ·
                  refine lv_ldc (v := (-1000001)) hx hb hown (hts (.constant RX5 70 (-1000001)) (List.mem_of_getElem? (i := 1) rfl)) dX5_fits_37 ?_
                  exact W.iret (v := (-1000001)) hx hb hr (fun t ht hW9 => ⟨⟨(-1000001), I0, rfl, ⟨hF, hO, Or.inr (Or.inr (Or.inr (Or.inr (Or.inr (Or.inr (Or.inl ⟨dkN_sub (dkN_lit (x := (-1000001)) (-1000001) rfl) rfl, dkN_sub d11 rfl, dkN_sub d23 rfl, dkN_sub d34 rfl, dkN_sub d37 rfl, (show dkN [(1, 6)] (I0 25 11) from dkN_sub (by rw [hF35 25 11 rfl]; exact (by rw [hF13 25 11 rfl]; exact f1_25_11)) rfl), q9, q10, q21, q22, q28, q33, q36, rfl, rfl, trivial⟩))))))⟩, dkW_eq ht hW⟩, hS.F ht⟩) hS.2.2 dX5_fits_39
              rcases hc35 with ⟨dv35, a35_0, x35_0, x35_1, xr35, -⟩ | hc35
              ·
                have q39 : (0 : Int) + 0 ≤ p4.toInt := x35_0
                have q40 : (1 : Int) + 1 ≤ p4.toInt := x35_1
                have xv35 : v35 = 0 := by have h := xr35; exact h
                have d41 : dkN [(2, 2147483647)] p4 := dkN_eq1 (dkN_top p4) a35_0 rfl rfl
                refine lv_if_ne (tgt := 40) hx hb dX5_fits_34 (by decide) (fun c42 => ?_) (fun c42 => ?_)
                ·
                  exact absurd ((xv35).trans (rfl).symm) c42
                ·
                  refine lv_ldc (v := (-1000001)) hx hb hown (hts (.constant RX5 70 (-1000001)) (List.mem_of_getElem? (i := 1) rfl)) dX5_fits_37 ?_
                  exact W.iret (v := (-1000001)) hx hb hr (fun t ht hW9 => ⟨⟨(-1000001), I0, rfl, ⟨hF, hO, Or.inr (Or.inr (Or.inr (Or.inr (Or.inr (Or.inr (Or.inr (Or.inl ⟨dkN_sub (dkN_lit (x := (-1000001)) (-1000001) rfl) rfl, dkN_sub d11 rfl, dkN_sub d23 rfl, dkN_sub d34 rfl, dkN_sub d41 rfl, (show dkN [(1, 6)] (I0 25 11) from dkN_sub (by rw [hF35 25 11 rfl]; exact (by rw [hF13 25 11 rfl]; exact f1_25_11)) rfl), q9, q10, q21, q22, q28, q33, q39, q40, rfl, rfl, trivial⟩)))))))⟩, dkW_eq ht hW⟩, hS.F ht⟩) hS.2.2 dX5_fits_39
              ·
                obtain ⟨dv35, a35_0, x35_0, x35_1, xr35, -⟩ := hc35
                have q43 : (0 : Int) + 0 ≤ p4.toInt := x35_0
                have q44 : p4.toInt + 0 ≤ (1 : Int) := x35_1
                have xv35 : v35 = 1 := by have h := xr35; exact h
                have d45 : dkN [(0, 1)] p4 := dkN_eq1 (dkN_top p4) a35_0 rfl rfl
                refine lv_if_ne (tgt := 40) hx hb dX5_fits_34 (by decide) (fun c46 => ?_) (fun c46 => ?_)
                ·
                  refine lv_aload_n hx hb dX5_fits_40 rfl (lv_at hl 0 rfl) ?_
                  refine lv_iload_n hx hb dX5_fits_41 rfl (lv_at hl 2 rfl) ?_
                  refine lv_iload_n hx hb dX5_fits_42 rfl (lv_at hl 3 rfl) ?_
                  refine lv_iload hx hb dX5_fits_43 (lv_at hl 4 rfl) ?_
                  refine dk_Vi (As := [.int p1, .int p2, .int p3]) (rest := []) ⟨hx, hb, hml, hown, hts⟩ (fx_X5_troubleWith_1 l g z I0 p1 p2 p3 d23 d34 hO) (cwV 3 hts gX5_fits_X5_troubleWith rfl rfl rfl (by decide +kernel) ⟨Nat.le_of_ble_eq_true rfl, Nat.le_of_ble_eq_true rfl⟩) (dk_at0 hW) rfl hK hT hW hS rfl hl.1 rfl (Nat.le_of_ble_eq_true rfl) dX5_fits_45 ⟨Nat.zero_le _, Nat.zero_le _⟩ (fun v47 I47 H47 L47 hp47 hW hS => ?_)
                  obtain ⟨hF47, hO, hc47⟩ := hp47
                  have hF := dkF_call hF hF47 rfl
                  have eI47 : I0 = I47 := (dkF_nil hF47).symm
                  subst eI47
                  rcases hc47 with ⟨dv47, a47_1, x47_0, x47_1, xr47, -⟩ | hc47
                  ·
                    have q48 : (I0 11 (Int32.toNatClampNeg p1)).toInt ≠ (-1 : Int) := x47_0
                    have q49 : p2.toInt + 1 ≤ (0 : Int) := x47_1
                    have xv47 : v47 = 2 := by have h := xr47; exact h
                    have d50 : dkN [(-2147483648, -1)] p2 := dkN_eq1 (dkN_top p2) a47_1 rfl rfl
                    refine lv_istore (lv' := [(6, .int v47), (0, .ref (z + 0)), (1, .int p0), (2, .int p1), (3, .int p2), (4, .int p3), (5, .int p4)]) hx hb dX5_fits_48 hl (by decide) rfl (fun ls hl => ?_)
                    refine lv_iload hx hb dX5_fits_50 (lv_at hl 0 rfl) ?_
                    refine lv_if_eq (tgt := 62) hx hb dX5_fits_52 (by decide) (fun c51 => ?_) (fun c51 => ?_)
                    ·
                      exact (dkN_nil (show dkN [] v47 from dkN_eq1 dv47 (dkN_lit (x := 0) (0) rfl) (congrArg Int32.toInt c51) rfl)).elim
                    ·
                      refine lv_aload_n hx hb dX5_fits_55 rfl (lv_at hl 1 rfl) ?_
                      refine lv_iload hx hb dX5_fits_56 (lv_at hl 0 rfl) ?_
                      refine dk_Vi (As := [.int v47]) (rest := []) ⟨hx, hb, hml, hown, hts⟩ (fx_X5_found_7 l g z I0 v47 dv47 hO) (cwV 1 hts gX5_fits_X5_found rfl rfl rfl (by decide +kernel) ⟨Nat.le_of_ble_eq_true rfl, Nat.le_of_ble_eq_true rfl⟩) (dk_at0 hW) rfl hK hT hW hS rfl hl.1 rfl (Nat.le_of_ble_eq_true rfl) dX5_fits_58 ⟨Nat.zero_le _, Nat.zero_le _⟩ (fun v52 I52 H52 L52 hp52 hW hS => ?_)
                      obtain ⟨hF52, hO, hc52⟩ := hp52
                      have hF := dkF_call hF hF52 rfl
                      obtain ⟨dv52, f52_0_3, x52_0, xr52, xh52_0, -⟩ := hc52
                      have q53 : ((-1000010 : Int32) - (2 : Int32)).toInt = (-1000010 : Int) - (2 : Int) := by have h := x52_0; rw [xv47] at h; exact h
                      have y54 : I52 0 3 = 2 := by have h := xh52_0; rw [xv47] at h; exact h
                      have xv52 : v52 = (-1000010 : Int32) - (2 : Int32) := by have h := xr52; rw [xv47] at h; exact h
                      exact W.iret (v := v52) hx hb hr (fun t ht hW9 => ⟨⟨v52, I52, rfl, ⟨hF, hO, Or.inr (Or.inr (Or.inr (Or.inr (Or.inr (Or.inr (Or.inr (Or.inr (Or.inl ⟨dkN_sub dv52 rfl, dkN_sub d11 rfl, dkN_sub d23 rfl, dkN_sub d50 rfl, dkN_sub d34 rfl, dkN_sub d45 rfl, (show dkN [(2, 2)] (I52 0 3) from dkN_sub f52_0_3 rfl), (show dkN [(1, 6)] (I52 25 11) from dkN_sub (by rw [hF52 25 11 rfl]; exact (by rw [hF47 25 11 rfl]; exact (by rw [hF35 25 11 rfl]; exact (by rw [hF13 25 11 rfl]; exact f1_25_11)))) rfl), q9, q10, q21, q22, q28, q33, q43, q44, q48, q49, q53, xv52, y54, trivial⟩))))))))⟩, dkW_eq ht hW⟩, hS.F ht⟩) hS.2.2 dX5_fits_61
                  rcases hc47 with ⟨dv47, a47_1, x47_0, x47_1, x47_2, x47_3, x47_4, xr47, -⟩ | hc47
                  ·
                    have q55 : (I0 11 (Int32.toNatClampNeg p1)).toInt ≠ (-1 : Int) := x47_0
                    have q56 : (0 : Int) + 0 ≤ p2.toInt := x47_1
                    have q57 : (0 : Int) + 0 ≤ p3.toInt := x47_2
                    have q58 : ((I0 11 (Int32.toNatClampNeg p1)) - p3).toInt = (I0 11 (Int32.toNatClampNeg p1)).toInt - p3.toInt := x47_3
                    have q59 : ((I0 11 (Int32.toNatClampNeg p1)) - p3).toInt + 1 ≤ p2.toInt := x47_4
                    have xv47 : v47 = 2 := by have h := xr47; exact h
                    have d60 : dkN [(0, 2147483647)] p2 := dkN_eq1 (dkN_top p2) a47_1 rfl rfl
                    refine lv_istore (lv' := [(6, .int v47), (0, .ref (z + 0)), (1, .int p0), (2, .int p1), (3, .int p2), (4, .int p3), (5, .int p4)]) hx hb dX5_fits_48 hl (by decide) rfl (fun ls hl => ?_)
                    refine lv_iload hx hb dX5_fits_50 (lv_at hl 0 rfl) ?_
                    refine lv_if_eq (tgt := 62) hx hb dX5_fits_52 (by decide) (fun c61 => ?_) (fun c61 => ?_)
                    ·
                      exact (dkN_nil (show dkN [] v47 from dkN_eq1 dv47 (dkN_lit (x := 0) (0) rfl) (congrArg Int32.toInt c61) rfl)).elim
                    ·
                      refine lv_aload_n hx hb dX5_fits_55 rfl (lv_at hl 1 rfl) ?_
                      refine lv_iload hx hb dX5_fits_56 (lv_at hl 0 rfl) ?_
                      refine dk_Vi (As := [.int v47]) (rest := []) ⟨hx, hb, hml, hown, hts⟩ (fx_X5_found_7 l g z I0 v47 dv47 hO) (cwV 1 hts gX5_fits_X5_found rfl rfl rfl (by decide +kernel) ⟨Nat.le_of_ble_eq_true rfl, Nat.le_of_ble_eq_true rfl⟩) (dk_at0 hW) rfl hK hT hW hS rfl hl.1 rfl (Nat.le_of_ble_eq_true rfl) dX5_fits_58 ⟨Nat.zero_le _, Nat.zero_le _⟩ (fun v62 I62 H62 L62 hp62 hW hS => ?_)
                      obtain ⟨hF62, hO, hc62⟩ := hp62
                      have hF := dkF_call hF hF62 rfl
                      obtain ⟨dv62, f62_0_3, x62_0, xr62, xh62_0, -⟩ := hc62
                      have q63 : ((-1000010 : Int32) - (2 : Int32)).toInt = (-1000010 : Int) - (2 : Int) := by have h := x62_0; rw [xv47] at h; exact h
                      have y64 : I62 0 3 = 2 := by have h := xh62_0; rw [xv47] at h; exact h
                      have xv62 : v62 = (-1000010 : Int32) - (2 : Int32) := by have h := xr62; rw [xv47] at h; exact h
                      exact W.iret (v := v62) hx hb hr (fun t ht hW9 => ⟨⟨v62, I62, rfl, ⟨hF, hO, Or.inr (Or.inr (Or.inr (Or.inr (Or.inr (Or.inr (Or.inr (Or.inr (Or.inr (Or.inl ⟨dkN_sub dv62 rfl, dkN_sub d11 rfl, dkN_sub d23 rfl, dkN_sub d60 rfl, dkN_sub d34 rfl, dkN_sub d45 rfl, (show dkN [(2, 2)] (I62 0 3) from dkN_sub f62_0_3 rfl), (show dkN [(1, 6)] (I62 25 11) from dkN_sub (by rw [hF62 25 11 rfl]; exact (by rw [hF47 25 11 rfl]; exact (by rw [hF35 25 11 rfl]; exact (by rw [hF13 25 11 rfl]; exact f1_25_11)))) rfl), q9, q10, q21, q22, q28, q33, q43, q44, q55, q56, q57, q58, q59, q63, xv62, y64, trivial⟩)))))))))⟩, dkW_eq ht hW⟩, hS.F ht⟩) hS.2.2 dX5_fits_61
                  rcases hc47 with ⟨dv47, a47_1, x47_0, x47_1, x47_2, x47_3, x47_4, xr47, -⟩ | hc47
                  ·
                    have q65 : (I0 11 (Int32.toNatClampNeg p1)).toInt ≠ (-1 : Int) := x47_0
                    have q66 : (0 : Int) + 0 ≤ p2.toInt := x47_1
                    have q67 : (0 : Int) + 0 ≤ p3.toInt := x47_2
                    have q68 : ((I0 11 (Int32.toNatClampNeg p1)) - p3).toInt = (I0 11 (Int32.toNatClampNeg p1)).toInt - p3.toInt := x47_3
                    have q69 : p2.toInt + 0 ≤ ((I0 11 (Int32.toNatClampNeg p1)) - p3).toInt := x47_4
                    have xv47 : v47 = 0 := by have h := xr47; exact h
                    have d70 : dkN [(0, 39)] p2 := dkN_eq1 (dkN_top p2) a47_1 rfl rfl
                    refine lv_istore (lv' := [(6, .int v47), (0, .ref (z + 0)), (1, .int p0), (2, .int p1), (3, .int p2), (4, .int p3), (5, .int p4)]) hx hb dX5_fits_48 hl (by decide) rfl (fun ls hl => ?_)
                    refine lv_iload hx hb dX5_fits_50 (lv_at hl 0 rfl) ?_
                    refine lv_if_eq (tgt := 62) hx hb dX5_fits_52 (by decide) (fun c71 => ?_) (fun c71 => ?_)
                    ·
                      refine lv_aload_n hx hb dX5_fits_62 rfl (lv_at hl 1 rfl) ?_
                      refine lv_aload_n hx hb dX5_fits_63 rfl (lv_at hl 1 rfl) ?_
                      refine dk_get (k := 0) hx hb hts iX5_fits_5 hown hK (dk_at0 hW) rfl 8 (by decide) (hts (.fieldLink RX5 51 "DogKings" "seer" "LDogKings$Seer;") (List.mem_of_getElem? (i := 2) rfl)) rfl dX5_fits_64 ?_
                      refine lv_iload hx hb dX5_fits_67 (lv_at hl 6 rfl) ?_
                      refine lv_if_ne (tgt := 76) hx hb dX5_fits_69 (by decide) (fun c72 => ?_) (fun c72 => ?_)
                      ·
                        have q73 : p4.toInt ≠ (0 : Int) := (dk_ne c72)
                        have d74 : dkN [(1, 1)] p4 := dkN_ne1 (0) d45 (dkN_lit (x := 0) (0) rfl) (dk_ne c72) rfl
                        refine lv_iconst (v := 1) hx hb dX5_fits_76 (by decide) ?_
                        refine lv_iload_n hx hb dX5_fits_77 rfl (lv_at hl 2 rfl) ?_
                        refine lv_iload_n hx hb dX5_fits_78 rfl (lv_at hl 2 rfl) ?_
                        refine lv_aload_n hx hb dX5_fits_79 rfl (lv_at hl 1 rfl) ?_
                        refine dk_get (k := 0) hx hb hts iX5_fits_5 hown hK (dk_at0 hW) rfl 0 (by decide) (hts (.fieldLink RX5 11 "DogKings" "items" "[[I") (List.mem_of_getElem? (i := 3) rfl)) rfl dX5_fits_80 ?_
                        refine lv_iload_n hx hb dX5_fits_83 rfl (lv_at hl 3 rfl) ?_
                        obtain ⟨rf75, hrf75, erf75⟩ := dk_rowAt (z := z) (dkN_in (n := 8) d23 rfl)
                        refine dk_rld (r := z + rf75) hx hb hK (dk_at1 hW) (dkN_in (n := 8) d23 rfl) erf75 dX5_fits_84 ?_
                        refine lv_iload_n hx hb dX5_fits_85 rfl (lv_at hl 4 rfl) ?_
                        refine lv_iload hx hb dX5_fits_86 (lv_at hl 5 rfl) ?_
                        refine dk_Vi (As := [.int 1, .int p0, .int p0, .ref (z + rf75), .int p2, .int p3]) (rest := [.ref (z + 0)]) ⟨hx, hb, hml, hown, hts⟩ (c_X3_guesses_2 l g z I0 rf75 hrf75 1 p0 p0 p2 p3 (dkN_lit (x := 1) (1) rfl) d11 d11 d70 d34 hO) (cwV 6 hts gX5_fits_X3_guesses rfl rfl rfl (by decide +kernel) ⟨Nat.le_of_ble_eq_true rfl, Nat.le_of_ble_eq_true rfl⟩) (dk_at325 hW) rfl hK hT hW hS rfl hl.1 rfl (Nat.le_of_ble_eq_true rfl) dX5_fits_88 ⟨Nat.zero_le _, Nat.zero_le _⟩ (fun v76 I76 H76 L76 hp76 hW hS => ?_)
                        obtain ⟨hF76, hO, hc76⟩ := hp76
                        have hF := dkF_call hF hF76 rfl
                        obtain ⟨_, -⟩ := hc76
                        refine dk_Vi (As := [.int v76]) (rest := []) ⟨hx, hb, hml, hown, hts⟩ (fx_X5_nothingFound_1 l g z I76 v76 hO) (cwV 1 hts gX5_fits_X5_nothingFound rfl rfl rfl (by decide +kernel) ⟨Nat.le_of_ble_eq_true rfl, Nat.le_of_ble_eq_true rfl⟩) (dk_at0 hW) rfl hK hT hW hS rfl hl.1 rfl (Nat.le_of_ble_eq_true rfl) dX5_fits_91 ⟨Nat.zero_le _, Nat.zero_le _⟩ (fun v77 I77 H77 L77 hp77 hW hS => ?_)
                        obtain ⟨hF77, hO, hc77⟩ := hp77
                        have hF := dkF_call hF hF77 rfl
                        obtain ⟨_, f77_0_3, xr77, xh77_0, -⟩ := hc77
                        have y78 : I77 0 3 = 0 := by have h := xh77_0; exact h
                        exact W.iret (v := v77) hx hb hr (fun t ht hW9 => ⟨⟨v77, I77, rfl, ⟨hF, hO, Or.inr (Or.inr (Or.inr (Or.inr (Or.inr (Or.inr (Or.inr (Or.inr (Or.inr (Or.inr (Or.inl ⟨trivial, dkN_sub d11 rfl, dkN_sub d23 rfl, dkN_sub d70 rfl, dkN_sub d34 rfl, dkN_sub d74 rfl, (show dkN [(0, 0)] (I77 0 3) from dkN_sub f77_0_3 rfl), (show dkN [(1, 6)] (I77 25 11) from dkN_sub (by rw [hF77 25 11 rfl]; exact (by rw [hF76 25 11 rfl]; exact (by rw [hF47 25 11 rfl]; exact (by rw [hF35 25 11 rfl]; exact (by rw [hF13 25 11 rfl]; exact f1_25_11))))) rfl), q9, q10, q21, q22, q28, q33, q43, q44, q65, q66, q67, q68, q69, q73, y78, trivial⟩))))))))))⟩, dkW_eq ht hW⟩, hS.F ht⟩) hS.2.2 dX5_fits_94
                      ·
                        have q79 : p4.toInt = (0 : Int) := (congrArg Int32.toInt c72)
                        have d80 : dkN [(0, 0)] p4 := dkN_eq1 d45 (dkN_lit (x := 0) (0) rfl) (congrArg Int32.toInt c72) rfl
                        refine lv_iconst (v := 0) hx hb dX5_fits_72 (by decide) ?_
                        refine lv_goto (tgt := 77) hx hb dX5_fits_73 (by decide) ?_
                        refine lv_iload_n hx hb dX5_fits_77 rfl (lv_at hl 2 rfl) ?_
                        refine lv_iload_n hx hb dX5_fits_78 rfl (lv_at hl 2 rfl) ?_
                        refine lv_aload_n hx hb dX5_fits_79 rfl (lv_at hl 1 rfl) ?_
                        refine dk_get (k := 0) hx hb hts iX5_fits_5 hown hK (dk_at0 hW) rfl 0 (by decide) (hts (.fieldLink RX5 11 "DogKings" "items" "[[I") (List.mem_of_getElem? (i := 3) rfl)) rfl dX5_fits_80 ?_
                        refine lv_iload_n hx hb dX5_fits_83 rfl (lv_at hl 3 rfl) ?_
                        obtain ⟨rf81, hrf81, erf81⟩ := dk_rowAt (z := z) (dkN_in (n := 8) d23 rfl)
                        refine dk_rld (r := z + rf81) hx hb hK (dk_at1 hW) (dkN_in (n := 8) d23 rfl) erf81 dX5_fits_84 ?_
                        refine lv_iload_n hx hb dX5_fits_85 rfl (lv_at hl 4 rfl) ?_
                        refine lv_iload hx hb dX5_fits_86 (lv_at hl 5 rfl) ?_
                        refine dk_Vi (As := [.int 0, .int p0, .int p0, .ref (z + rf81), .int p2, .int p3]) (rest := [.ref (z + 0)]) ⟨hx, hb, hml, hown, hts⟩ (c_X3_guesses_3 l g z I0 rf81 hrf81 0 p0 p0 p2 p3 (dkN_lit (x := 0) (0) rfl) d11 d11 d70 d34 hO) (cwV 6 hts gX5_fits_X3_guesses rfl rfl rfl (by decide +kernel) ⟨Nat.le_of_ble_eq_true rfl, Nat.le_of_ble_eq_true rfl⟩) (dk_at325 hW) rfl hK hT hW hS rfl hl.1 rfl (Nat.le_of_ble_eq_true rfl) dX5_fits_88 ⟨Nat.zero_le _, Nat.zero_le _⟩ (fun v82 I82 H82 L82 hp82 hW hS => ?_)
                        obtain ⟨hF82, hO, hc82⟩ := hp82
                        have hF := dkF_call hF hF82 rfl
                        obtain ⟨_, -⟩ := hc82
                        refine dk_Vi (As := [.int v82]) (rest := []) ⟨hx, hb, hml, hown, hts⟩ (fx_X5_nothingFound_1 l g z I82 v82 hO) (cwV 1 hts gX5_fits_X5_nothingFound rfl rfl rfl (by decide +kernel) ⟨Nat.le_of_ble_eq_true rfl, Nat.le_of_ble_eq_true rfl⟩) (dk_at0 hW) rfl hK hT hW hS rfl hl.1 rfl (Nat.le_of_ble_eq_true rfl) dX5_fits_91 ⟨Nat.zero_le _, Nat.zero_le _⟩ (fun v83 I83 H83 L83 hp83 hW hS => ?_)
                        obtain ⟨hF83, hO, hc83⟩ := hp83
                        have hF := dkF_call hF hF83 rfl
                        obtain ⟨_, f83_0_3, xr83, xh83_0, -⟩ := hc83
                        have y84 : I83 0 3 = 0 := by have h := xh83_0; exact h
                        exact W.iret (v := v83) hx hb hr (fun t ht hW9 => ⟨⟨v83, I83, rfl, ⟨hF, hO, Or.inr (Or.inr (Or.inr (Or.inr (Or.inr (Or.inr (Or.inr (Or.inr (Or.inr (Or.inr (Or.inr (Or.inl ⟨trivial, dkN_sub d11 rfl, dkN_sub d23 rfl, dkN_sub d70 rfl, dkN_sub d34 rfl, dkN_sub d80 rfl, (show dkN [(0, 0)] (I83 0 3) from dkN_sub f83_0_3 rfl), (show dkN [(1, 6)] (I83 25 11) from dkN_sub (by rw [hF83 25 11 rfl]; exact (by rw [hF82 25 11 rfl]; exact (by rw [hF47 25 11 rfl]; exact (by rw [hF35 25 11 rfl]; exact (by rw [hF13 25 11 rfl]; exact f1_25_11))))) rfl), q9, q10, q21, q22, q28, q33, q43, q44, q65, q66, q67, q68, q69, q79, y84, trivial⟩)))))))))))⟩, dkW_eq ht hW⟩, hS.F ht⟩) hS.2.2 dX5_fits_94
                    ·
                      exact absurd ((xv47).trans (rfl).symm) c71
                  ·
                    obtain ⟨dv47, x47_0, xr47, -⟩ := hc47
                    have q85 : (I0 11 (Int32.toNatClampNeg p1)).toInt = (-1 : Int) := x47_0
                    have xv47 : v47 = 1 := by have h := xr47; exact h
                    refine lv_istore (lv' := [(6, .int v47), (0, .ref (z + 0)), (1, .int p0), (2, .int p1), (3, .int p2), (4, .int p3), (5, .int p4)]) hx hb dX5_fits_48 hl (by decide) rfl (fun ls hl => ?_)
                    refine lv_iload hx hb dX5_fits_50 (lv_at hl 0 rfl) ?_
                    refine lv_if_eq (tgt := 62) hx hb dX5_fits_52 (by decide) (fun c86 => ?_) (fun c86 => ?_)
                    ·
                      exact (dkN_nil (show dkN [] v47 from dkN_eq1 dv47 (dkN_lit (x := 0) (0) rfl) (congrArg Int32.toInt c86) rfl)).elim
                    ·
                      refine lv_aload_n hx hb dX5_fits_55 rfl (lv_at hl 1 rfl) ?_
                      refine lv_iload hx hb dX5_fits_56 (lv_at hl 0 rfl) ?_
                      refine dk_Vi (As := [.int v47]) (rest := []) ⟨hx, hb, hml, hown, hts⟩ (fx_X5_found_6 l g z I0 v47 dv47 hO) (cwV 1 hts gX5_fits_X5_found rfl rfl rfl (by decide +kernel) ⟨Nat.le_of_ble_eq_true rfl, Nat.le_of_ble_eq_true rfl⟩) (dk_at0 hW) rfl hK hT hW hS rfl hl.1 rfl (Nat.le_of_ble_eq_true rfl) dX5_fits_58 ⟨Nat.zero_le _, Nat.zero_le _⟩ (fun v87 I87 H87 L87 hp87 hW hS => ?_)
                      obtain ⟨hF87, hO, hc87⟩ := hp87
                      have hF := dkF_call hF hF87 rfl
                      obtain ⟨dv87, f87_0_3, x87_0, xr87, xh87_0, -⟩ := hc87
                      have q88 : ((-1000010 : Int32) - (1 : Int32)).toInt = (-1000010 : Int) - (1 : Int) := by have h := x87_0; rw [xv47] at h; exact h
                      have y89 : I87 0 3 = 1 := by have h := xh87_0; rw [xv47] at h; exact h
                      have xv87 : v87 = (-1000010 : Int32) - (1 : Int32) := by have h := xr87; rw [xv47] at h; exact h
                      exact W.iret (v := v87) hx hb hr (fun t ht hW9 => ⟨⟨v87, I87, rfl, ⟨hF, hO, Or.inr (Or.inr (Or.inr (Or.inr (Or.inr (Or.inr (Or.inr (Or.inr (Or.inr (Or.inr (Or.inr (Or.inr (⟨dkN_sub dv87 rfl, dkN_sub d11 rfl, dkN_sub d23 rfl, dkN_sub d34 rfl, dkN_sub d45 rfl, (show dkN [(1, 1)] (I87 0 3) from dkN_sub f87_0_3 rfl), (show dkN [(1, 6)] (I87 25 11) from dkN_sub (by rw [hF87 25 11 rfl]; exact (by rw [hF47 25 11 rfl]; exact (by rw [hF35 25 11 rfl]; exact (by rw [hF13 25 11 rfl]; exact f1_25_11)))) rfl), q9, q10, q21, q22, q28, q33, q43, q44, q85, q88, xv87, y89, trivial⟩))))))))))))⟩, dkW_eq ht hW⟩, hS.F ht⟩) hS.2.2 dX5_fits_61
                ·
                  exact (dkN_nil (show dkN [] v35 from dkN_eq1 dv35 (dkN_lit (x := 0) (0) rfl) (congrArg Int32.toInt c46) rfl)).elim
set_option maxHeartbeats 4000000 in
set_option maxRecDepth 100000 in
theorem fx_X6_in_39 (l : Launch) (g : dkG) (z : Nat) (I0 : dkI) (p0 : Int32) (p1 : Int32) (p2 : Int32) (dp1 : dkN [(0, 0)] p1) (dp2 : dkN [(-1, 5)] p2)  (hO : dkOk I0) : Met l yX6_in wsX6_in (dkR 0) (dkPc g z [.int p0, .int p1, .int p2] I0) (dkQi g z (fun r I1 => dkF [] I0 I1 ∧ dkOk I1 ∧ ((dkN [(0, 0)] r ∧ dkN [(-2147483648, -1)] p0 ∧ p0.toInt + 1 ≤ p1.toInt ∧ r = 0 ∧ True) ∨ (dkN [(0, 0)] r ∧ dkN [(0, 2147483647)] p0 ∧ p1.toInt + 0 ≤ p0.toInt ∧ p2.toInt + 1 ≤ p0.toInt ∧ r = 0 ∧ True) ∨ (dkN [(1, 1)] r ∧ dkN [(0, 5)] p0 ∧ dkN [(0, 5)] p2 ∧ p1.toInt + 0 ≤ p0.toInt ∧ p0.toInt + 0 ≤ p2.toInt ∧ r = 1 ∧ True)))) 0 0 (dkA z) := by
  refine Met.ofW (cc := cX6_in) (maxL := 3) (ret := (some .boolean)) (by decide) rfl ?_
  intro p e s m args below meth c s₁ B hml hv
  obtain ⟨ha, hW, hK, hT⟩ := hv
  have hx := B.exec
  have hb := B.bytes
  have hr := B.returns
  have hts := atoms_spec (ws := wsX6_in) B.pre
  have hown : s.vm.findClass RX6 = some m.cls := findClass_of_methodNamed B.named
  have hlocks := B.notSynchronized
  have hS : va_S (dkA z) s.heap s.heap [] := va_S.rf
  have hF : dkF [] I0 I0 := dkF_rf _ _
  have hl := lv_entry ([.int p0, .int p1, .int p2]) (n := 3) (Nat.le_of_ble_eq_true rfl)
  have hgo : entryFrame m args 3 = entryFrame m ([.int p0, .int p1, .int p2] : List Value).toArray 3 := by rw [ha]
  rw [hgo, lg_entry_eq]
  generalize (lg_sl ([.int p0, .int p1, .int p2]) ++ List.replicate (3 - (lg_sl ([.int p0, .int p1, .int p2])).length) Slot.unset).toArray = ls at hl ⊢
  have hl : lv_has ls 3 [(0, .int p0), (1, .int p1), (2, .int p2)] := hl
  refine lv_iload_n hx hb dX6_in_0 rfl (lv_at hl 0 rfl) ?_
  refine lv_iload_n hx hb dX6_in_1 rfl (lv_at hl 1 rfl) ?_
  refine lv_icmp_lt (tgt := 14) hx hb dX6_in_2 (by decide) (fun c1 => ?_) (fun c1 => ?_)
  ·
    have q2 : p0.toInt + 1 ≤ p1.toInt := (dkc_lt c1)
    have d3 : dkN [(-2147483648, -1)] p0 := dkN_le1 1 (dkN_top p0) dp1 (dkc_lt c1) rfl
    refine lv_iconst (v := 0) hx hb dX6_in_14 (by decide) ?_
    exact W.zret (v := 0) (ty := .boolean) hx hb hr rfl (fun t ht hW9 => ⟨⟨0, I0, rfl, ⟨hF, hO, Or.inl ⟨dkN_sub (dkN_lit (x := 0) (0) rfl) rfl, dkN_sub d3 rfl, q2, rfl, trivial⟩⟩, dkW_eq ht hW⟩, hS.F ht⟩) hS.2.2 dX6_in_15
  ·
    have q4 : p1.toInt + 0 ≤ p0.toInt := (dkc_nlt c1)
    have d5 : dkN [(0, 2147483647)] p0 := dkN_le2 0 dp1 (dkN_top p0) (dkc_nlt c1) rfl
    refine lv_iload_n hx hb dX6_in_5 rfl (lv_at hl 0 rfl) ?_
    refine lv_iload_n hx hb dX6_in_6 rfl (lv_at hl 2 rfl) ?_
    refine lv_icmp_gt (tgt := 14) hx hb dX6_in_7 (by decide) (fun c6 => ?_) (fun c6 => ?_)
    ·
      have q7 : p2.toInt + 1 ≤ p0.toInt := (dkc_lt c6)
      refine lv_iconst (v := 0) hx hb dX6_in_14 (by decide) ?_
      exact W.zret (v := 0) (ty := .boolean) hx hb hr rfl (fun t ht hW9 => ⟨⟨0, I0, rfl, ⟨hF, hO, Or.inr (Or.inl ⟨dkN_sub (dkN_lit (x := 0) (0) rfl) rfl, dkN_sub d5 rfl, q4, q7, rfl, trivial⟩)⟩, dkW_eq ht hW⟩, hS.F ht⟩) hS.2.2 dX6_in_15
    ·
      have q8 : p0.toInt + 0 ≤ p2.toInt := (dkc_nlt c6)
      have d9 : dkN [(0, 5)] p2 := dkN_le2 0 d5 dp2 (dkc_nlt c6) rfl
      have d10 : dkN [(0, 5)] p0 := dkN_le1 0 d5 dp2 (dkc_nlt c6) rfl
      refine lv_iconst (v := 1) hx hb dX6_in_10 (by decide) ?_
      refine lv_goto (tgt := 15) hx hb dX6_in_11 (by decide) ?_
      exact W.zret (v := 1) (ty := .boolean) hx hb hr rfl (fun t ht hW9 => ⟨⟨1, I0, rfl, ⟨hF, hO, Or.inr (Or.inr (⟨dkN_sub (dkN_lit (x := 1) (1) rfl) rfl, dkN_sub d10 rfl, dkN_sub d9 rfl, q4, q8, rfl, trivial⟩))⟩, dkW_eq ht hW⟩, hS.F ht⟩) hS.2.2 dX6_in_15
set_option maxHeartbeats 4000000 in
set_option maxRecDepth 100000 in
theorem fx_X6_isDog_1 (l : Launch) (g : dkG) (z : Nat) (I0 : dkI) (p0 : Int32)  (hO : dkOk I0) : Met l yX6_isDog wsX6_isDog (dkR 1) (dkPc g z [.ref (z + 340), .int p0] I0) (dkQi g z (fun r I1 => dkF [] I0 I1 ∧ dkOk I1 ∧ ((dkN [(0, 0)] r ∧ dkN [(-2147483648, -1)] p0 ∧ ((I0 346 5) - (1 : Int32)).toInt = (I0 346 5).toInt - (1 : Int) ∧ p0.toInt + 1 ≤ (0 : Int) ∧ r = 0 ∧ True) ∨ (dkN [(0, 0)] r ∧ dkN [(0, 2147483647)] p0 ∧ ((I0 346 5) - (1 : Int32)).toInt = (I0 346 5).toInt - (1 : Int) ∧ (0 : Int) + 0 ≤ p0.toInt ∧ ((I0 346 5) - (1 : Int32)).toInt + 1 ≤ p0.toInt ∧ r = 0 ∧ True) ∨ (dkN [(1, 1)] r ∧ dkN [(0, 5)] p0 ∧ ((I0 346 5) - (1 : Int32)).toInt = (I0 346 5).toInt - (1 : Int) ∧ (0 : Int) + 0 ≤ p0.toInt ∧ p0.toInt + 0 ≤ ((I0 346 5) - (1 : Int32)).toInt ∧ r = 1 ∧ True)))) 0 0 (dkA z) := by
  refine Met.ofW (cc := cX6_isDog) (maxL := 2) (ret := (some .boolean)) (by decide) rfl ?_
  intro p e s m args below meth c s₁ B hml hv
  obtain ⟨ha, hW, hK, hT⟩ := hv
  have hx := B.exec
  have hb := B.bytes
  have hr := B.returns
  have hts := atoms_spec (ws := wsX6_isDog) B.pre
  have hown : s.vm.findClass RX6 = some m.cls := findClass_of_methodNamed B.named
  have hlocks := B.notSynchronized
  have hS : va_S (dkA z) s.heap s.heap [] := va_S.rf
  have hF : dkF [] I0 I0 := dkF_rf _ _
  have hl := lv_entry ([.ref (z + 340), .int p0]) (n := 2) (Nat.le_of_ble_eq_true rfl)
  have hgo : entryFrame m args 2 = entryFrame m ([.ref (z + 340), .int p0] : List Value).toArray 2 := by rw [ha]
  rw [hgo, lg_entry_eq]
  generalize (lg_sl ([.ref (z + 340), .int p0]) ++ List.replicate (2 - (lg_sl ([.ref (z + 340), .int p0])).length) Slot.unset).toArray = ls at hl ⊢
  have hl : lv_has ls 2 [(0, .ref (z + 340)), (1, .int p0)] := hl
  refine lv_iload_n hx hb dX6_isDog_0 rfl (lv_at hl 1 rfl) ?_
  refine lv_iconst (v := 0) hx hb dX6_isDog_1 (by decide) ?_
  refine lv_aload_n hx hb dX6_isDog_2 rfl (lv_at hl 0 rfl) ?_
  refine dk_get (k := 340) hx hb hts iX6_isDog_6 hown hK (dk_at340 hW) rfl 13 (by decide) (hts (.fieldLink RX6 25 "DogKingsModel" "now" "[I") (List.mem_of_getElem? (i := 1) rfl)) rfl dX6_isDog_3 ?_
  refine lv_iconst (v := 5) hx hb dX6_isDog_6 (by decide) ?_
  refine dk_ild (k := 346) hx hb hK (dk_at346 hW) (dkN_in (n := 54) (dkN_lit (x := 5) (5) rfl) rfl) dX6_isDog_7 ?_
  refine lv_topi (fun v1 ev1 => ?_)
  have ev1 : v1 = I0 346 5 := ev1
  have dv1 : dkN [(0, 6)] v1 := by rw [ev1]; exact (show dkN [(0, 6)] (I0 346 5) from (hO 346 5))
  have xv1 : v1 = I0 346 5 := ev1.trans rfl
  refine lv_iconst (v := 1) hx hb dX6_isDog_8 (by decide) ?_
  refine lv_isub hx hb dX6_isDog_9 ?_
  refine lv_topi (fun v2 ev2 => ?_)
  have dv2 : dkN [(-1, 5)] v2 := by rw [ev2]; exact dkN_subt dv1 (dkN_lit (x := 1) (1) rfl) rfl
  have xv2 : v2 = (I0 346 5) - (1 : Int32) := by rw [ev2, xv1]
  have q3 : ((I0 346 5) - (1 : Int32)).toInt = (I0 346 5).toInt - (1 : Int) := by first | (rw [← xv2, ← xv1]; exact (by rw [ev2]; exact dk_subE dv1 (dkN_lit (x := 1) (1) rfl) rfl)) | (subst xv2 xv1; exact (by rw [ev2]; exact dk_subE dv1 (dkN_lit (x := 1) (1) rfl) rfl))
  refine dk_Si (As := [.int p0, .int 0, .int v2]) (rest := []) ⟨hx, hb, hml, hown, hts⟩ (fx_X6_in_39 l g z I0 p0 0 v2 (dkN_lit (x := 0) (0) rfl) dv2 hO) (va_cwS 3 hts gX6_isDog_X6_in rfl rfl rfl (by decide +kernel) ⟨Nat.le_of_ble_eq_true rfl, Nat.le_of_ble_eq_true rfl⟩) hK hT hW hS rfl hl.1 rfl (Nat.le_of_ble_eq_true rfl) dX6_isDog_10 ⟨Nat.zero_le _, Nat.zero_le _⟩ (fun v4 I4 H4 L4 hp4 hW hS => ?_)
  obtain ⟨hF4, hO, hc4⟩ := hp4
  have hF := dkF_call hF hF4 rfl
  have eI4 : I0 = I4 := (dkF_nil hF4).symm
  subst eI4
  rcases hc4 with ⟨dv4, a4_0, x4_0, xr4, -⟩ | hc4
  ·
    have q5 : p0.toInt + 1 ≤ (0 : Int) := x4_0
    have xv4 : v4 = 0 := by have h := xr4; exact h
    have d6 : dkN [(-2147483648, -1)] p0 := dkN_eq1 (dkN_top p0) a4_0 rfl rfl
    exact W.zret (v := v4) (ty := .boolean) hx hb hr (dkN_zr dv4 rfl) (fun t ht hW9 => ⟨⟨v4, I0, rfl, ⟨hF, hO, Or.inl ⟨dkN_sub dv4 rfl, dkN_sub d6 rfl, q3, q5, xv4, trivial⟩⟩, dkW_eq ht hW⟩, hS.F ht⟩) hS.2.2 dX6_isDog_13
  rcases hc4 with ⟨dv4, a4_0, x4_0, x4_1, xr4, -⟩ | hc4
  ·
    have q7 : (0 : Int) + 0 ≤ p0.toInt := x4_0
    have q8 : ((I0 346 5) - (1 : Int32)).toInt + 1 ≤ p0.toInt := by have h := x4_1; rw [xv2] at h; exact h
    have xv4 : v4 = 0 := by have h := xr4; exact h
    have d9 : dkN [(0, 2147483647)] p0 := dkN_eq1 (dkN_top p0) a4_0 rfl rfl
    exact W.zret (v := v4) (ty := .boolean) hx hb hr (dkN_zr dv4 rfl) (fun t ht hW9 => ⟨⟨v4, I0, rfl, ⟨hF, hO, Or.inr (Or.inl ⟨dkN_sub dv4 rfl, dkN_sub d9 rfl, q3, q7, q8, xv4, trivial⟩)⟩, dkW_eq ht hW⟩, hS.F ht⟩) hS.2.2 dX6_isDog_13
  ·
    obtain ⟨dv4, a4_0, a4_2, x4_0, x4_1, xr4, -⟩ := hc4
    have q10 : (0 : Int) + 0 ≤ p0.toInt := x4_0
    have q11 : p0.toInt + 0 ≤ ((I0 346 5) - (1 : Int32)).toInt := by have h := x4_1; rw [xv2] at h; exact h
    have xv4 : v4 = 1 := by have h := xr4; exact h
    have d12 : dkN [(0, 5)] p0 := dkN_eq1 (dkN_top p0) a4_0 rfl rfl
    have d13 : dkN [(0, 5)] v2 := dkN_eq1 dv2 a4_2 rfl rfl
    exact W.zret (v := v4) (ty := .boolean) hx hb hr (dkN_zr dv4 rfl) (fun t ht hW9 => ⟨⟨v4, I0, rfl, ⟨hF, hO, Or.inr (Or.inr (⟨dkN_sub dv4 rfl, dkN_sub d12 rfl, q3, q10, q11, xv4, trivial⟩))⟩, dkW_eq ht hW⟩, hS.F ht⟩) hS.2.2 dX6_isDog_13
set_option maxHeartbeats 4000000 in
set_option maxRecDepth 100000 in
theorem fx_X6_in_40 (l : Launch) (g : dkG) (z : Nat) (I0 : dkI) (p0 : Int32) (p1 : Int32) (p2 : Int32) (dp1 : dkN [(1, 1)] p1) (dp2 : dkN [(12, 12)] p2)  (hO : dkOk I0) : Met l yX6_in wsX6_in (dkR 0) (dkPc g z [.int p0, .int p1, .int p2] I0) (dkQi g z (fun r I1 => dkF [] I0 I1 ∧ dkOk I1 ∧ ((dkN [(0, 0)] r ∧ dkN [(-2147483648, 0)] p0 ∧ p0.toInt + 1 ≤ p1.toInt ∧ r = 0 ∧ True) ∨ (dkN [(0, 0)] r ∧ dkN [(13, 2147483647)] p0 ∧ p1.toInt + 0 ≤ p0.toInt ∧ p2.toInt + 1 ≤ p0.toInt ∧ r = 0 ∧ True) ∨ (dkN [(1, 1)] r ∧ dkN [(1, 12)] p0 ∧ p1.toInt + 0 ≤ p0.toInt ∧ p0.toInt + 0 ≤ p2.toInt ∧ r = 1 ∧ True)))) 0 0 (dkA z) := by
  refine Met.ofW (cc := cX6_in) (maxL := 3) (ret := (some .boolean)) (by decide) rfl ?_
  intro p e s m args below meth c s₁ B hml hv
  obtain ⟨ha, hW, hK, hT⟩ := hv
  have hx := B.exec
  have hb := B.bytes
  have hr := B.returns
  have hts := atoms_spec (ws := wsX6_in) B.pre
  have hown : s.vm.findClass RX6 = some m.cls := findClass_of_methodNamed B.named
  have hlocks := B.notSynchronized
  have hS : va_S (dkA z) s.heap s.heap [] := va_S.rf
  have hF : dkF [] I0 I0 := dkF_rf _ _
  have hl := lv_entry ([.int p0, .int p1, .int p2]) (n := 3) (Nat.le_of_ble_eq_true rfl)
  have hgo : entryFrame m args 3 = entryFrame m ([.int p0, .int p1, .int p2] : List Value).toArray 3 := by rw [ha]
  rw [hgo, lg_entry_eq]
  generalize (lg_sl ([.int p0, .int p1, .int p2]) ++ List.replicate (3 - (lg_sl ([.int p0, .int p1, .int p2])).length) Slot.unset).toArray = ls at hl ⊢
  have hl : lv_has ls 3 [(0, .int p0), (1, .int p1), (2, .int p2)] := hl
  refine lv_iload_n hx hb dX6_in_0 rfl (lv_at hl 0 rfl) ?_
  refine lv_iload_n hx hb dX6_in_1 rfl (lv_at hl 1 rfl) ?_
  refine lv_icmp_lt (tgt := 14) hx hb dX6_in_2 (by decide) (fun c1 => ?_) (fun c1 => ?_)
  ·
    have q2 : p0.toInt + 1 ≤ p1.toInt := (dkc_lt c1)
    have d3 : dkN [(-2147483648, 0)] p0 := dkN_le1 1 (dkN_top p0) dp1 (dkc_lt c1) rfl
    refine lv_iconst (v := 0) hx hb dX6_in_14 (by decide) ?_
    exact W.zret (v := 0) (ty := .boolean) hx hb hr rfl (fun t ht hW9 => ⟨⟨0, I0, rfl, ⟨hF, hO, Or.inl ⟨dkN_sub (dkN_lit (x := 0) (0) rfl) rfl, dkN_sub d3 rfl, q2, rfl, trivial⟩⟩, dkW_eq ht hW⟩, hS.F ht⟩) hS.2.2 dX6_in_15
  ·
    have q4 : p1.toInt + 0 ≤ p0.toInt := (dkc_nlt c1)
    have d5 : dkN [(1, 2147483647)] p0 := dkN_le2 0 dp1 (dkN_top p0) (dkc_nlt c1) rfl
    refine lv_iload_n hx hb dX6_in_5 rfl (lv_at hl 0 rfl) ?_
    refine lv_iload_n hx hb dX6_in_6 rfl (lv_at hl 2 rfl) ?_
    refine lv_icmp_gt (tgt := 14) hx hb dX6_in_7 (by decide) (fun c6 => ?_) (fun c6 => ?_)
    ·
      have q7 : p2.toInt + 1 ≤ p0.toInt := (dkc_lt c6)
      have d8 : dkN [(13, 2147483647)] p0 := dkN_le2 1 dp2 d5 (dkc_lt c6) rfl
      refine lv_iconst (v := 0) hx hb dX6_in_14 (by decide) ?_
      exact W.zret (v := 0) (ty := .boolean) hx hb hr rfl (fun t ht hW9 => ⟨⟨0, I0, rfl, ⟨hF, hO, Or.inr (Or.inl ⟨dkN_sub (dkN_lit (x := 0) (0) rfl) rfl, dkN_sub d8 rfl, q4, q7, rfl, trivial⟩)⟩, dkW_eq ht hW⟩, hS.F ht⟩) hS.2.2 dX6_in_15
    ·
      have q9 : p0.toInt + 0 ≤ p2.toInt := (dkc_nlt c6)
      have d10 : dkN [(1, 12)] p0 := dkN_le1 0 d5 dp2 (dkc_nlt c6) rfl
      refine lv_iconst (v := 1) hx hb dX6_in_10 (by decide) ?_
      refine lv_goto (tgt := 15) hx hb dX6_in_11 (by decide) ?_
      exact W.zret (v := 1) (ty := .boolean) hx hb hr rfl (fun t ht hW9 => ⟨⟨1, I0, rfl, ⟨hF, hO, Or.inr (Or.inr (⟨dkN_sub (dkN_lit (x := 1) (1) rfl) rfl, dkN_sub d10 rfl, q4, q9, rfl, trivial⟩))⟩, dkW_eq ht hW⟩, hS.F ht⟩) hS.2.2 dX6_in_15
set_option maxHeartbeats 4000000 in
set_option maxRecDepth 100000 in
theorem fx_X6_in_41 (l : Launch) (g : dkG) (z : Nat) (I0 : dkI) (p0 : Int32) (p1 : Int32) (p2 : Int32) (dp1 : dkN [(0, 0)] p1) (dp2 : dkN [(1, 1)] p2)  (hO : dkOk I0) : Met l yX6_in wsX6_in (dkR 0) (dkPc g z [.int p0, .int p1, .int p2] I0) (dkQi g z (fun r I1 => dkF [] I0 I1 ∧ dkOk I1 ∧ ((dkN [(0, 0)] r ∧ dkN [(-2147483648, -1)] p0 ∧ p0.toInt + 1 ≤ p1.toInt ∧ r = 0 ∧ True) ∨ (dkN [(0, 0)] r ∧ dkN [(2, 2147483647)] p0 ∧ p1.toInt + 0 ≤ p0.toInt ∧ p2.toInt + 1 ≤ p0.toInt ∧ r = 0 ∧ True) ∨ (dkN [(1, 1)] r ∧ dkN [(0, 1)] p0 ∧ p1.toInt + 0 ≤ p0.toInt ∧ p0.toInt + 0 ≤ p2.toInt ∧ r = 1 ∧ True)))) 0 0 (dkA z) := by
  refine Met.ofW (cc := cX6_in) (maxL := 3) (ret := (some .boolean)) (by decide) rfl ?_
  intro p e s m args below meth c s₁ B hml hv
  obtain ⟨ha, hW, hK, hT⟩ := hv
  have hx := B.exec
  have hb := B.bytes
  have hr := B.returns
  have hts := atoms_spec (ws := wsX6_in) B.pre
  have hown : s.vm.findClass RX6 = some m.cls := findClass_of_methodNamed B.named
  have hlocks := B.notSynchronized
  have hS : va_S (dkA z) s.heap s.heap [] := va_S.rf
  have hF : dkF [] I0 I0 := dkF_rf _ _
  have hl := lv_entry ([.int p0, .int p1, .int p2]) (n := 3) (Nat.le_of_ble_eq_true rfl)
  have hgo : entryFrame m args 3 = entryFrame m ([.int p0, .int p1, .int p2] : List Value).toArray 3 := by rw [ha]
  rw [hgo, lg_entry_eq]
  generalize (lg_sl ([.int p0, .int p1, .int p2]) ++ List.replicate (3 - (lg_sl ([.int p0, .int p1, .int p2])).length) Slot.unset).toArray = ls at hl ⊢
  have hl : lv_has ls 3 [(0, .int p0), (1, .int p1), (2, .int p2)] := hl
  refine lv_iload_n hx hb dX6_in_0 rfl (lv_at hl 0 rfl) ?_
  refine lv_iload_n hx hb dX6_in_1 rfl (lv_at hl 1 rfl) ?_
  refine lv_icmp_lt (tgt := 14) hx hb dX6_in_2 (by decide) (fun c1 => ?_) (fun c1 => ?_)
  ·
    have q2 : p0.toInt + 1 ≤ p1.toInt := (dkc_lt c1)
    have d3 : dkN [(-2147483648, -1)] p0 := dkN_le1 1 (dkN_top p0) dp1 (dkc_lt c1) rfl
    refine lv_iconst (v := 0) hx hb dX6_in_14 (by decide) ?_
    exact W.zret (v := 0) (ty := .boolean) hx hb hr rfl (fun t ht hW9 => ⟨⟨0, I0, rfl, ⟨hF, hO, Or.inl ⟨dkN_sub (dkN_lit (x := 0) (0) rfl) rfl, dkN_sub d3 rfl, q2, rfl, trivial⟩⟩, dkW_eq ht hW⟩, hS.F ht⟩) hS.2.2 dX6_in_15
  ·
    have q4 : p1.toInt + 0 ≤ p0.toInt := (dkc_nlt c1)
    have d5 : dkN [(0, 2147483647)] p0 := dkN_le2 0 dp1 (dkN_top p0) (dkc_nlt c1) rfl
    refine lv_iload_n hx hb dX6_in_5 rfl (lv_at hl 0 rfl) ?_
    refine lv_iload_n hx hb dX6_in_6 rfl (lv_at hl 2 rfl) ?_
    refine lv_icmp_gt (tgt := 14) hx hb dX6_in_7 (by decide) (fun c6 => ?_) (fun c6 => ?_)
    ·
      have q7 : p2.toInt + 1 ≤ p0.toInt := (dkc_lt c6)
      have d8 : dkN [(2, 2147483647)] p0 := dkN_le2 1 dp2 d5 (dkc_lt c6) rfl
      refine lv_iconst (v := 0) hx hb dX6_in_14 (by decide) ?_
      exact W.zret (v := 0) (ty := .boolean) hx hb hr rfl (fun t ht hW9 => ⟨⟨0, I0, rfl, ⟨hF, hO, Or.inr (Or.inl ⟨dkN_sub (dkN_lit (x := 0) (0) rfl) rfl, dkN_sub d8 rfl, q4, q7, rfl, trivial⟩)⟩, dkW_eq ht hW⟩, hS.F ht⟩) hS.2.2 dX6_in_15
    ·
      have q9 : p0.toInt + 0 ≤ p2.toInt := (dkc_nlt c6)
      have d10 : dkN [(0, 1)] p0 := dkN_le1 0 d5 dp2 (dkc_nlt c6) rfl
      refine lv_iconst (v := 1) hx hb dX6_in_10 (by decide) ?_
      refine lv_goto (tgt := 15) hx hb dX6_in_11 (by decide) ?_
      exact W.zret (v := 1) (ty := .boolean) hx hb hr rfl (fun t ht hW9 => ⟨⟨1, I0, rfl, ⟨hF, hO, Or.inr (Or.inr (⟨dkN_sub (dkN_lit (x := 1) (1) rfl) rfl, dkN_sub d10 rfl, q4, q9, rfl, trivial⟩))⟩, dkW_eq ht hW⟩, hS.F ht⟩) hS.2.2 dX6_in_15
set_option maxHeartbeats 4000000 in
set_option maxRecDepth 100000 in
theorem fx_X6_isPart_5 (l : Launch) (g : dkG) (z : Nat) (I0 : dkI) (p0 : Int32) (p1 : Int32) (p2 : Int32) (dp0 : dkN [(0, 7)] p0) (dp2 : dkN [(1, 12)] p2)  (hO : dkOk I0) : Met l yX6_isPart wsX6_isPart (dkR 0) (dkPc g z [.ref (z + 340), .int p0, .int p1, .int p2] I0) (dkQi g z (fun r I1 => dkF [] I0 I1 ∧ dkOk I1 ∧ ((dkN [(0, 0)] r ∧ dkN [(-2147483648, -1)] p1 ∧ p1.toInt + 1 ≤ (0 : Int) ∧ r = 0 ∧ True) ∨ (dkN [(0, 0)] r ∧ dkN [(1, 2147483647)] p1 ∧ (0 : Int) + 0 ≤ p1.toInt ∧ (0 : Int) + 0 ≤ p2.toInt ∧ (I0 342 (Int32.toNatClampNeg p0)).toInt + 1 ≤ p1.toInt ∧ r = 0 ∧ True) ∨ (dkN [(0, 0)] r ∧ dkN [(0, 40)] p1 ∧ (0 : Int) + 0 ≤ p1.toInt ∧ (0 : Int) + 0 ≤ p2.toInt ∧ p1.toInt + 0 ≤ (I0 342 (Int32.toNatClampNeg p0)).toInt ∧ ((I0 342 (Int32.toNatClampNeg p0)) - p1).toInt = (I0 342 (Int32.toNatClampNeg p0)).toInt - p1.toInt ∧ ((I0 342 (Int32.toNatClampNeg p0)) - p1).toInt + 1 ≤ p2.toInt ∧ r = 0 ∧ True) ∨ (dkN [(1, 1)] r ∧ dkN [(0, 40)] p1 ∧ p1.toInt + p2.toInt ≤ 40 ∧ (0 : Int) + 0 ≤ p1.toInt ∧ (0 : Int) + 0 ≤ p2.toInt ∧ p1.toInt + 0 ≤ (I0 342 (Int32.toNatClampNeg p0)).toInt ∧ ((I0 342 (Int32.toNatClampNeg p0)) - p1).toInt = (I0 342 (Int32.toNatClampNeg p0)).toInt - p1.toInt ∧ p2.toInt + 0 ≤ ((I0 342 (Int32.toNatClampNeg p0)) - p1).toInt ∧ r = 1 ∧ True)))) 0 0 (dkA z) := by
  refine Met.ofW (cc := cX6_isPart) (maxL := 4) (ret := (some .boolean)) (by decide) rfl ?_
  intro p e s m args below meth c s₁ B hml hv
  obtain ⟨ha, hW, hK, hT⟩ := hv
  have hx := B.exec
  have hb := B.bytes
  have hr := B.returns
  have hts := atoms_spec (ws := wsX6_isPart) B.pre
  have hown : s.vm.findClass RX6 = some m.cls := findClass_of_methodNamed B.named
  have hlocks := B.notSynchronized
  have hS : va_S (dkA z) s.heap s.heap [] := va_S.rf
  have hF : dkF [] I0 I0 := dkF_rf _ _
  have hl := lv_entry ([.ref (z + 340), .int p0, .int p1, .int p2]) (n := 4) (Nat.le_of_ble_eq_true rfl)
  have hgo : entryFrame m args 4 = entryFrame m ([.ref (z + 340), .int p0, .int p1, .int p2] : List Value).toArray 4 := by rw [ha]
  rw [hgo, lg_entry_eq]
  generalize (lg_sl ([.ref (z + 340), .int p0, .int p1, .int p2]) ++ List.replicate (4 - (lg_sl ([.ref (z + 340), .int p0, .int p1, .int p2])).length) Slot.unset).toArray = ls at hl ⊢
  have hl : lv_has ls 4 [(0, .ref (z + 340)), (1, .int p0), (2, .int p1), (3, .int p2)] := hl
  refine lv_iload_n hx hb dX6_isPart_0 rfl (lv_at hl 2 rfl) ?_
  refine lv_if_lt (tgt := 34) hx hb dX6_isPart_1 (by decide) (fun c1 => ?_) (fun c1 => ?_)
  ·
    have q2 : p1.toInt + 1 ≤ (0 : Int) := (dkc_lt c1)
    have d3 : dkN [(-2147483648, -1)] p1 := dkN_le1 1 (dkN_top p1) (dkN_lit (x := 0) (0) rfl) (dkc_lt c1) rfl
    refine lv_iconst (v := 0) hx hb dX6_isPart_34 (by decide) ?_
    exact W.zret (v := 0) (ty := .boolean) hx hb hr rfl (fun t ht hW9 => ⟨⟨0, I0, rfl, ⟨hF, hO, Or.inl ⟨dkN_sub (dkN_lit (x := 0) (0) rfl) rfl, dkN_sub d3 rfl, q2, rfl, trivial⟩⟩, dkW_eq ht hW⟩, hS.F ht⟩) hS.2.2 dX6_isPart_35
  ·
    have q4 : (0 : Int) + 0 ≤ p1.toInt := (dkc_nlt c1)
    have d5 : dkN [(0, 2147483647)] p1 := dkN_le2 0 (dkN_lit (x := 0) (0) rfl) (dkN_top p1) (dkc_nlt c1) rfl
    refine lv_iload_n hx hb dX6_isPart_4 rfl (lv_at hl 3 rfl) ?_
    refine lv_if_lt (tgt := 34) hx hb dX6_isPart_5 (by decide) (fun c6 => ?_) (fun c6 => ?_)
    ·
      exact (dkN_nil (show dkN [] p2 from dkN_le1 1 dp2 (dkN_lit (x := 0) (0) rfl) (dkc_lt c6) rfl)).elim
    ·
      have q7 : (0 : Int) + 0 ≤ p2.toInt := (dkc_nlt c6)
      refine lv_iload_n hx hb dX6_isPart_8 rfl (lv_at hl 2 rfl) ?_
      refine lv_aload_n hx hb dX6_isPart_9 rfl (lv_at hl 0 rfl) ?_
      refine dk_get (k := 340) hx hb hts iX6_isPart_6 hown hK (dk_at340 hW) rfl 1 (by decide) (hts (.fieldLink RX6 13 "DogKingsModel" "many" "[I") (List.mem_of_getElem? (i := 1) rfl)) rfl dX6_isPart_10 ?_
      refine lv_iload_n hx hb dX6_isPart_13 rfl (lv_at hl 1 rfl) ?_
      refine dk_ild (k := 342) hx hb hK (dk_at342 hW) (dkN_in (n := 8) dp0 rfl) dX6_isPart_14 ?_
      refine lv_topi (fun v8 ev8 => ?_)
      have dv8 : dkN [(0, 40)] v8 := by rw [ev8]; exact (hO 342 _)
      have xv8 : v8 = I0 342 (Int32.toNatClampNeg p0) := ev8.trans rfl
      refine lv_icmp_gt (tgt := 34) hx hb dX6_isPart_15 (by decide) (fun c9 => ?_) (fun c9 => ?_)
      ·
        have q10 : (I0 342 (Int32.toNatClampNeg p0)).toInt + 1 ≤ p1.toInt := by first | (rw [← xv8]; exact (dkc_lt c9)) | (subst xv8; exact (dkc_lt c9))
        have d11 : dkN [(1, 2147483647)] p1 := dkN_le2 1 dv8 d5 (dkc_lt c9) rfl
        refine lv_iconst (v := 0) hx hb dX6_isPart_34 (by decide) ?_
        exact W.zret (v := 0) (ty := .boolean) hx hb hr rfl (fun t ht hW9 => ⟨⟨0, I0, rfl, ⟨hF, hO, Or.inr (Or.inl ⟨dkN_sub (dkN_lit (x := 0) (0) rfl) rfl, dkN_sub d11 rfl, q4, q7, q10, rfl, trivial⟩)⟩, dkW_eq ht hW⟩, hS.F ht⟩) hS.2.2 dX6_isPart_35
      ·
        have q12 : p1.toInt + 0 ≤ (I0 342 (Int32.toNatClampNeg p0)).toInt := by first | (rw [← xv8]; exact (dkc_nlt c9)) | (subst xv8; exact (dkc_nlt c9))
        have d13 : dkN [(0, 40)] p1 := dkN_le1 0 d5 dv8 (dkc_nlt c9) rfl
        refine lv_iload_n hx hb dX6_isPart_18 rfl (lv_at hl 3 rfl) ?_
        refine lv_aload_n hx hb dX6_isPart_19 rfl (lv_at hl 0 rfl) ?_
        refine dk_get (k := 340) hx hb hts iX6_isPart_6 hown hK (dk_at340 hW) rfl 1 (by decide) (hts (.fieldLink RX6 13 "DogKingsModel" "many" "[I") (List.mem_of_getElem? (i := 1) rfl)) rfl dX6_isPart_20 ?_
        refine lv_iload_n hx hb dX6_isPart_23 rfl (lv_at hl 1 rfl) ?_
        refine dk_ild (k := 342) hx hb hK (dk_at342 hW) (dkN_in (n := 8) dp0 rfl) dX6_isPart_24 ?_
        refine lv_topi (fun v14 ev14 => ?_)
        have dv14 : dkN [(0, 40)] v14 := by rw [ev14]; exact (hO 342 _)
        have xv14 : v14 = I0 342 (Int32.toNatClampNeg p0) := ev14.trans rfl
        refine lv_iload_n hx hb dX6_isPart_25 rfl (lv_at hl 2 rfl) ?_
        refine lv_isub hx hb dX6_isPart_26 ?_
        refine lv_topi (fun v15 ev15 => ?_)
        have dv15 : dkN [(-40, 40)] v15 := by rw [ev15]; exact dkN_subt dv14 d13 rfl
        have xv15 : v15 = (I0 342 (Int32.toNatClampNeg p0)) - p1 := by rw [ev15, xv14]
        have q16 : ((I0 342 (Int32.toNatClampNeg p0)) - p1).toInt = (I0 342 (Int32.toNatClampNeg p0)).toInt - p1.toInt := by first | (rw [← xv15, ← xv14]; exact (by rw [ev15]; exact dk_subE dv14 d13 rfl)) | (subst xv15 xv14; exact (by rw [ev15]; exact dk_subE dv14 d13 rfl))
        refine lv_icmp_gt (tgt := 34) hx hb dX6_isPart_27 (by decide) (fun c17 => ?_) (fun c17 => ?_)
        ·
          have q18 : ((I0 342 (Int32.toNatClampNeg p0)) - p1).toInt + 1 ≤ p2.toInt := by first | (rw [← xv15]; exact (dkc_lt c17)) | (subst xv15; exact (dkc_lt c17))
          have d19 : dkN [(-40, 11)] v15 := dkN_le1 1 dv15 dp2 (dkc_lt c17) rfl
          refine lv_iconst (v := 0) hx hb dX6_isPart_34 (by decide) ?_
          exact W.zret (v := 0) (ty := .boolean) hx hb hr rfl (fun t ht hW9 => ⟨⟨0, I0, rfl, ⟨hF, hO, Or.inr (Or.inr (Or.inl ⟨dkN_sub (dkN_lit (x := 0) (0) rfl) rfl, dkN_sub d13 rfl, q4, q7, q12, q16, q18, rfl, trivial⟩))⟩, dkW_eq ht hW⟩, hS.F ht⟩) hS.2.2 dX6_isPart_35
        ·
          have q20 : p2.toInt + 0 ≤ ((I0 342 (Int32.toNatClampNeg p0)) - p1).toInt := by first | (rw [← xv15]; exact (dkc_nlt c17)) | (subst xv15; exact (dkc_nlt c17))
          have d21 : dkN [(1, 40)] v15 := dkN_le2 0 dp2 dv15 (dkc_nlt c17) rfl
          refine lv_iconst (v := 1) hx hb dX6_isPart_30 (by decide) ?_
          refine lv_goto (tgt := 35) hx hb dX6_isPart_31 (by decide) ?_
          exact W.zret (v := 1) (ty := .boolean) hx hb hr rfl (fun t ht hW9 => ⟨⟨1, I0, rfl, ⟨hF, hO, Or.inr (Or.inr (Or.inr (⟨dkN_sub (dkN_lit (x := 1) (1) rfl) rfl, dkN_sub d13 rfl, (dk_relsub ev15 dv14 d13 (dkc_nlt c17) rfl), q4, q7, q12, q16, q20, rfl, trivial⟩)))⟩, dkW_eq ht hW⟩, hS.F ht⟩) hS.2.2 dX6_isPart_35
set_option maxHeartbeats 4000000 in
set_option maxRecDepth 100000 in
theorem fx_X6_fits_1 (l : Launch) (g : dkG) (z : Nat) (I0 : dkI) (p0 : Int32) (p1 : Int32) (p2 : Int32) (p3 : Int32) (p4 : Int32)  (hO : dkOk I0) : Met l yX6_fits wsX6_fits (dkR 8) (dkPc g z [.ref (z + 340), .int p0, .int p1, .int p2, .int p3, .int p4] I0) (dkQi g z (fun r I1 => dkF [(340, 340, 4, 4), (348, 348, 0, 53)] I0 I1 ∧ dkOk I1 ∧ ((dkN [(-1000001, -1000001)] r ∧ dkN [(-2147483648, -1)] p0 ∧ ((I0 346 5) - (1 : Int32)).toInt = (I0 346 5).toInt - (1 : Int) ∧ p0.toInt + 1 ≤ (0 : Int) ∧ r = (-1000001) ∧ I1 340 4 = I0 340 4 ∧ True) ∨ (dkN [(-1000001, -1000001)] r ∧ dkN [(0, 2147483647)] p0 ∧ ((I0 346 5) - (1 : Int32)).toInt = (I0 346 5).toInt - (1 : Int) ∧ (0 : Int) + 0 ≤ p0.toInt ∧ ((I0 346 5) - (1 : Int32)).toInt + 1 ≤ p0.toInt ∧ r = (-1000001) ∧ I1 340 4 = I0 340 4 ∧ True) ∨ (dkN [(-1000001, -1000001)] r ∧ dkN [(0, 5)] p0 ∧ dkN [(-2147483648, -1)] p1 ∧ ((I0 346 5) - (1 : Int32)).toInt = (I0 346 5).toInt - (1 : Int) ∧ (0 : Int) + 0 ≤ p0.toInt ∧ p0.toInt + 0 ≤ ((I0 346 5) - (1 : Int32)).toInt ∧ p1.toInt + 1 ≤ (0 : Int) ∧ r = (-1000001) ∧ I1 340 4 = I0 340 4 ∧ True) ∨ (dkN [(-1000001, -1000001)] r ∧ dkN [(0, 5)] p0 ∧ dkN [(8, 2147483647)] p1 ∧ ((I0 346 5) - (1 : Int32)).toInt = (I0 346 5).toInt - (1 : Int) ∧ (0 : Int) + 0 ≤ p0.toInt ∧ p0.toInt + 0 ≤ ((I0 346 5) - (1 : Int32)).toInt ∧ (0 : Int) + 0 ≤ p1.toInt ∧ (7 : Int) + 1 ≤ p1.toInt ∧ r = (-1000001) ∧ I1 340 4 = I0 340 4 ∧ True) ∨ (dkN [(-1000001, -1000001)] r ∧ dkN [(0, 5)] p0 ∧ dkN [(0, 7)] p1 ∧ dkN [(-2147483648, 0)] p3 ∧ ((I0 346 5) - (1 : Int32)).toInt = (I0 346 5).toInt - (1 : Int) ∧ (0 : Int) + 0 ≤ p0.toInt ∧ p0.toInt + 0 ≤ ((I0 346 5) - (1 : Int32)).toInt ∧ (0 : Int) + 0 ≤ p1.toInt ∧ p1.toInt + 0 ≤ (7 : Int) ∧ p3.toInt + 1 ≤ (1 : Int) ∧ r = (-1000001) ∧ I1 340 4 = I0 340 4 ∧ True) ∨ (dkN [(-1000001, -1000001)] r ∧ dkN [(0, 5)] p0 ∧ dkN [(0, 7)] p1 ∧ dkN [(13, 2147483647)] p3 ∧ ((I0 346 5) - (1 : Int32)).toInt = (I0 346 5).toInt - (1 : Int) ∧ (0 : Int) + 0 ≤ p0.toInt ∧ p0.toInt + 0 ≤ ((I0 346 5) - (1 : Int32)).toInt ∧ (0 : Int) + 0 ≤ p1.toInt ∧ p1.toInt + 0 ≤ (7 : Int) ∧ (1 : Int) + 0 ≤ p3.toInt ∧ (12 : Int) + 1 ≤ p3.toInt ∧ r = (-1000001) ∧ I1 340 4 = I0 340 4 ∧ True) ∨ (dkN [(-1000001, -1000001)] r ∧ dkN [(0, 5)] p0 ∧ dkN [(0, 7)] p1 ∧ dkN [(1, 12)] p3 ∧ dkN [(-2147483648, -1)] p4 ∧ ((I0 346 5) - (1 : Int32)).toInt = (I0 346 5).toInt - (1 : Int) ∧ (0 : Int) + 0 ≤ p0.toInt ∧ p0.toInt + 0 ≤ ((I0 346 5) - (1 : Int32)).toInt ∧ (0 : Int) + 0 ≤ p1.toInt ∧ p1.toInt + 0 ≤ (7 : Int) ∧ (1 : Int) + 0 ≤ p3.toInt ∧ p3.toInt + 0 ≤ (12 : Int) ∧ p4.toInt + 1 ≤ (0 : Int) ∧ r = (-1000001) ∧ I1 340 4 = I0 340 4 ∧ True) ∨ (dkN [(-1000001, -1000001)] r ∧ dkN [(0, 5)] p0 ∧ dkN [(0, 7)] p1 ∧ dkN [(1, 12)] p3 ∧ dkN [(2, 2147483647)] p4 ∧ ((I0 346 5) - (1 : Int32)).toInt = (I0 346 5).toInt - (1 : Int) ∧ (0 : Int) + 0 ≤ p0.toInt ∧ p0.toInt + 0 ≤ ((I0 346 5) - (1 : Int32)).toInt ∧ (0 : Int) + 0 ≤ p1.toInt ∧ p1.toInt + 0 ≤ (7 : Int) ∧ (1 : Int) + 0 ≤ p3.toInt ∧ p3.toInt + 0 ≤ (12 : Int) ∧ (0 : Int) + 0 ≤ p4.toInt ∧ (1 : Int) + 1 ≤ p4.toInt ∧ r = (-1000001) ∧ I1 340 4 = I0 340 4 ∧ True) ∨ (dkN [(-1000012, -1000012)] r ∧ dkN [(0, 5)] p0 ∧ dkN [(0, 7)] p1 ∧ dkN [(-2147483648, -1)] p2 ∧ dkN [(1, 12)] p3 ∧ dkN [(0, 1)] p4 ∧ dkN [(2, 2)] (I1 340 4) ∧ ((I0 346 5) - (1 : Int32)).toInt = (I0 346 5).toInt - (1 : Int) ∧ (0 : Int) + 0 ≤ p0.toInt ∧ p0.toInt + 0 ≤ ((I0 346 5) - (1 : Int32)).toInt ∧ (0 : Int) + 0 ≤ p1.toInt ∧ p1.toInt + 0 ≤ (7 : Int) ∧ (1 : Int) + 0 ≤ p3.toInt ∧ p3.toInt + 0 ≤ (12 : Int) ∧ (0 : Int) + 0 ≤ p4.toInt ∧ p4.toInt + 0 ≤ (1 : Int) ∧ (I0 341 (Int32.toNatClampNeg p1)).toInt ≠ (-1000000 : Int) ∧ p2.toInt + 1 ≤ (0 : Int) ∧ ((-1000010 : Int32) - (2 : Int32)).toInt = (-1000010 : Int) - (2 : Int) ∧ r = (-1000010 : Int32) - (2 : Int32) ∧ I1 340 4 = 2 ∧ True) ∨ (dkN [(-1000012, -1000012)] r ∧ dkN [(0, 5)] p0 ∧ dkN [(0, 7)] p1 ∧ dkN [(1, 2147483647)] p2 ∧ dkN [(1, 12)] p3 ∧ dkN [(0, 1)] p4 ∧ dkN [(2, 2)] (I1 340 4) ∧ ((I0 346 5) - (1 : Int32)).toInt = (I0 346 5).toInt - (1 : Int) ∧ (0 : Int) + 0 ≤ p0.toInt ∧ p0.toInt + 0 ≤ ((I0 346 5) - (1 : Int32)).toInt ∧ (0 : Int) + 0 ≤ p1.toInt ∧ p1.toInt + 0 ≤ (7 : Int) ∧ (1 : Int) + 0 ≤ p3.toInt ∧ p3.toInt + 0 ≤ (12 : Int) ∧ (0 : Int) + 0 ≤ p4.toInt ∧ p4.toInt + 0 ≤ (1 : Int) ∧ (I0 341 (Int32.toNatClampNeg p1)).toInt ≠ (-1000000 : Int) ∧ (0 : Int) + 0 ≤ p2.toInt ∧ (0 : Int) + 0 ≤ p3.toInt ∧ (I0 342 (Int32.toNatClampNeg p1)).toInt + 1 ≤ p2.toInt ∧ ((-1000010 : Int32) - (2 : Int32)).toInt = (-1000010 : Int) - (2 : Int) ∧ r = (-1000010 : Int32) - (2 : Int32) ∧ I1 340 4 = 2 ∧ True) ∨ (dkN [(-1000012, -1000012)] r ∧ dkN [(0, 5)] p0 ∧ dkN [(0, 7)] p1 ∧ dkN [(0, 40)] p2 ∧ dkN [(1, 12)] p3 ∧ dkN [(0, 1)] p4 ∧ dkN [(2, 2)] (I1 340 4) ∧ ((I0 346 5) - (1 : Int32)).toInt = (I0 346 5).toInt - (1 : Int) ∧ (0 : Int) + 0 ≤ p0.toInt ∧ p0.toInt + 0 ≤ ((I0 346 5) - (1 : Int32)).toInt ∧ (0 : Int) + 0 ≤ p1.toInt ∧ p1.toInt + 0 ≤ (7 : Int) ∧ (1 : Int) + 0 ≤ p3.toInt ∧ p3.toInt + 0 ≤ (12 : Int) ∧ (0 : Int) + 0 ≤ p4.toInt ∧ p4.toInt + 0 ≤ (1 : Int) ∧ (I0 341 (Int32.toNatClampNeg p1)).toInt ≠ (-1000000 : Int) ∧ (0 : Int) + 0 ≤ p2.toInt ∧ (0 : Int) + 0 ≤ p3.toInt ∧ p2.toInt + 0 ≤ (I0 342 (Int32.toNatClampNeg p1)).toInt ∧ ((I0 342 (Int32.toNatClampNeg p1)) - p2).toInt = (I0 342 (Int32.toNatClampNeg p1)).toInt - p2.toInt ∧ ((I0 342 (Int32.toNatClampNeg p1)) - p2).toInt + 1 ≤ p3.toInt ∧ ((-1000010 : Int32) - (2 : Int32)).toInt = (-1000010 : Int) - (2 : Int) ∧ r = (-1000010 : Int32) - (2 : Int32) ∧ I1 340 4 = 2 ∧ True) ∨ (True ∧ dkN [(0, 5)] p0 ∧ dkN [(0, 7)] p1 ∧ dkN [(0, 40)] p2 ∧ dkN [(1, 12)] p3 ∧ dkN [(1, 1)] p4 ∧ dkN [(0, 0)] (I1 340 4) ∧ ((I0 346 5) - (1 : Int32)).toInt = (I0 346 5).toInt - (1 : Int) ∧ (0 : Int) + 0 ≤ p0.toInt ∧ p0.toInt + 0 ≤ ((I0 346 5) - (1 : Int32)).toInt ∧ (0 : Int) + 0 ≤ p1.toInt ∧ p1.toInt + 0 ≤ (7 : Int) ∧ (1 : Int) + 0 ≤ p3.toInt ∧ p3.toInt + 0 ≤ (12 : Int) ∧ (0 : Int) + 0 ≤ p4.toInt ∧ p4.toInt + 0 ≤ (1 : Int) ∧ (I0 341 (Int32.toNatClampNeg p1)).toInt ≠ (-1000000 : Int) ∧ (0 : Int) + 0 ≤ p2.toInt ∧ (0 : Int) + 0 ≤ p3.toInt ∧ p2.toInt + 0 ≤ (I0 342 (Int32.toNatClampNeg p1)).toInt ∧ ((I0 342 (Int32.toNatClampNeg p1)) - p2).toInt = (I0 342 (Int32.toNatClampNeg p1)).toInt - p2.toInt ∧ p3.toInt + 0 ≤ ((I0 342 (Int32.toNatClampNeg p1)) - p2).toInt ∧ ((3 : Int32) * p0).toInt = (3 : Int) * p0.toInt ∧ ((36 : Int32) + ((3 : Int32) * p0)).toInt = (36 : Int) + ((3 : Int32) * p0).toInt ∧ p4.toInt ≠ (0 : Int) ∧ ((40 : Int32) * p1).toInt = (40 : Int) * p1.toInt ∧ (((40 : Int32) * p1) + p2).toInt = ((40 : Int32) * p1).toInt + p2.toInt ∧ (((36 : Int32) + ((3 : Int32) * p0)) + (2 : Int32)).toInt = ((36 : Int32) + ((3 : Int32) * p0)).toInt + (2 : Int) ∧ ((I0 346 0) - (1 : Int32)).toInt = (I0 346 0).toInt - (1 : Int) ∧ I1 340 4 = 0 ∧ True) ∨ (True ∧ dkN [(0, 5)] p0 ∧ dkN [(0, 7)] p1 ∧ dkN [(0, 40)] p2 ∧ dkN [(1, 12)] p3 ∧ dkN [(0, 0)] p4 ∧ dkN [(0, 0)] (I1 340 4) ∧ ((I0 346 5) - (1 : Int32)).toInt = (I0 346 5).toInt - (1 : Int) ∧ (0 : Int) + 0 ≤ p0.toInt ∧ p0.toInt + 0 ≤ ((I0 346 5) - (1 : Int32)).toInt ∧ (0 : Int) + 0 ≤ p1.toInt ∧ p1.toInt + 0 ≤ (7 : Int) ∧ (1 : Int) + 0 ≤ p3.toInt ∧ p3.toInt + 0 ≤ (12 : Int) ∧ (0 : Int) + 0 ≤ p4.toInt ∧ p4.toInt + 0 ≤ (1 : Int) ∧ (I0 341 (Int32.toNatClampNeg p1)).toInt ≠ (-1000000 : Int) ∧ (0 : Int) + 0 ≤ p2.toInt ∧ (0 : Int) + 0 ≤ p3.toInt ∧ p2.toInt + 0 ≤ (I0 342 (Int32.toNatClampNeg p1)).toInt ∧ ((I0 342 (Int32.toNatClampNeg p1)) - p2).toInt = (I0 342 (Int32.toNatClampNeg p1)).toInt - p2.toInt ∧ p3.toInt + 0 ≤ ((I0 342 (Int32.toNatClampNeg p1)) - p2).toInt ∧ ((3 : Int32) * p0).toInt = (3 : Int) * p0.toInt ∧ ((36 : Int32) + ((3 : Int32) * p0)).toInt = (36 : Int) + ((3 : Int32) * p0).toInt ∧ p4.toInt = (0 : Int) ∧ ((40 : Int32) * p1).toInt = (40 : Int) * p1.toInt ∧ (((40 : Int32) * p1) + p2).toInt = ((40 : Int32) * p1).toInt + p2.toInt ∧ I1 340 4 = 0 ∧ True) ∨ (dkN [(-1000011, -1000011)] r ∧ dkN [(0, 5)] p0 ∧ dkN [(0, 7)] p1 ∧ dkN [(1, 12)] p3 ∧ dkN [(0, 1)] p4 ∧ dkN [(1, 1)] (I1 340 4) ∧ ((I0 346 5) - (1 : Int32)).toInt = (I0 346 5).toInt - (1 : Int) ∧ (0 : Int) + 0 ≤ p0.toInt ∧ p0.toInt + 0 ≤ ((I0 346 5) - (1 : Int32)).toInt ∧ (0 : Int) + 0 ≤ p1.toInt ∧ p1.toInt + 0 ≤ (7 : Int) ∧ (1 : Int) + 0 ≤ p3.toInt ∧ p3.toInt + 0 ≤ (12 : Int) ∧ (0 : Int) + 0 ≤ p4.toInt ∧ p4.toInt + 0 ≤ (1 : Int) ∧ (I0 341 (Int32.toNatClampNeg p1)).toInt = (-1000000 : Int) ∧ ((-1000010 : Int32) - (1 : Int32)).toInt = (-1000010 : Int) - (1 : Int) ∧ r = (-1000010 : Int32) - (1 : Int32) ∧ I1 340 4 = 1 ∧ True)))) 0 0 (dkA z) := by
  refine Met.ofW (cc := cX6_fits) (maxL := 7) (ret := (some .int)) (by decide) rfl ?_
  intro p e s m args below meth c s₁ B hml hv
  obtain ⟨ha, hW, hK, hT⟩ := hv
  have hx := B.exec
  have hb := B.bytes
  have hr := B.returns
  have hts := atoms_spec (ws := wsX6_fits) B.pre
  have hown : s.vm.findClass RX6 = some m.cls := findClass_of_methodNamed B.named
  have hlocks := B.notSynchronized
  have hS : va_S (dkA z) s.heap s.heap [] := va_S.rf
  have hF : dkF [(340, 340, 4, 4), (348, 348, 0, 53)] I0 I0 := dkF_rf _ _
  have hl := lv_entry ([.ref (z + 340), .int p0, .int p1, .int p2, .int p3, .int p4]) (n := 7) (Nat.le_of_ble_eq_true rfl)
  have hgo : entryFrame m args 7 = entryFrame m ([.ref (z + 340), .int p0, .int p1, .int p2, .int p3, .int p4] : List Value).toArray 7 := by rw [ha]
  rw [hgo, lg_entry_eq]
  generalize (lg_sl ([.ref (z + 340), .int p0, .int p1, .int p2, .int p3, .int p4]) ++ List.replicate (7 - (lg_sl ([.ref (z + 340), .int p0, .int p1, .int p2, .int p3, .int p4])).length) Slot.unset).toArray = ls at hl ⊢
  have hl : lv_has ls 7 [(0, .ref (z + 340)), (1, .int p0), (2, .int p1), (3, .int p2), (4, .int p3), (5, .int p4)] := hl
  refine lv_aload_n hx hb dX6_fits_0 rfl (lv_at hl 0 rfl) ?_
  refine lv_iload_n hx hb dX6_fits_1 rfl (lv_at hl 1 rfl) ?_
  refine dk_Vi (As := [.int p0]) (rest := []) ⟨hx, hb, hml, hown, hts⟩ (fx_X6_isDog_1 l g z I0 p0 hO) (cwV 1 hts gX6_fits_X6_isDog rfl rfl rfl (by decide +kernel) ⟨Nat.le_of_ble_eq_true rfl, Nat.le_of_ble_eq_true rfl⟩) (dk_at340 hW) rfl hK hT hW hS rfl hl.1 rfl (Nat.le_of_ble_eq_true rfl) dX6_fits_2 ⟨Nat.zero_le _, Nat.zero_le _⟩ (fun v1 I1 H1 L1 hp1 hW hS => ?_)
  obtain ⟨hF1, hO, hc1⟩ := hp1
  have hF := dkF_call hF hF1 rfl
  have eI1 : I0 = I1 := (dkF_nil hF1).symm
  subst eI1
  rcases hc1 with ⟨dv1, a1_0, x1_0, x1_1, xr1, -⟩ | hc1
  ·
    have q2 : ((I0 346 5) - (1 : Int32)).toInt = (I0 346 5).toInt - (1 : Int) := x1_0
    have q3 : p0.toInt + 1 ≤ (0 : Int) := x1_1
    have xv1 : v1 = 0 := by have h := xr1; exact h
    have d4 : dkN [(-2147483648, -1)] p0 := dkN_eq1 (dkN_top p0) a1_0 rfl rfl
    refine lv_if_eq (tgt := 36) hx hb dX6_fits_5 (by decide) (fun c5 => ?_) (fun c5 => ?_)
    ·
      refine lv_ldc (v := (-1000001)) hx hb hown (hts (.constant RX6 64 (-1000001)) (List.mem_of_getElem? (i := 1) rfl)) dX6_fits_36 ?_
      exact W.iret (v := (-1000001)) hx hb hr (fun t ht hW9 => ⟨⟨(-1000001), I0, rfl, ⟨hF, hO, Or.inl ⟨dkN_sub (dkN_lit (x := (-1000001)) (-1000001) rfl) rfl, dkN_sub d4 rfl, q2, q3, rfl, rfl, trivial⟩⟩, dkW_eq ht hW⟩, hS.F ht⟩) hS.2.2 dX6_fits_38
    ·
      exact absurd ((xv1).trans (rfl).symm) c5
  rcases hc1 with ⟨dv1, a1_0, x1_0, x1_1, x1_2, xr1, -⟩ | hc1
  ·
    have q6 : ((I0 346 5) - (1 : Int32)).toInt = (I0 346 5).toInt - (1 : Int) := x1_0
    have q7 : (0 : Int) + 0 ≤ p0.toInt := x1_1
    have q8 : ((I0 346 5) - (1 : Int32)).toInt + 1 ≤ p0.toInt := x1_2
    have xv1 : v1 = 0 := by have h := xr1; exact h
    have d9 : dkN [(0, 2147483647)] p0 := dkN_eq1 (dkN_top p0) a1_0 rfl rfl
    refine lv_if_eq (tgt := 36) hx hb dX6_fits_5 (by decide) (fun c10 => ?_) (fun c10 => ?_)
    ·
      refine lv_ldc (v := (-1000001)) hx hb hown (hts (.constant RX6 64 (-1000001)) (List.mem_of_getElem? (i := 1) rfl)) dX6_fits_36 ?_
      exact W.iret (v := (-1000001)) hx hb hr (fun t ht hW9 => ⟨⟨(-1000001), I0, rfl, ⟨hF, hO, Or.inr (Or.inl ⟨dkN_sub (dkN_lit (x := (-1000001)) (-1000001) rfl) rfl, dkN_sub d9 rfl, q6, q7, q8, rfl, rfl, trivial⟩)⟩, dkW_eq ht hW⟩, hS.F ht⟩) hS.2.2 dX6_fits_38
    ·
      exact absurd ((xv1).trans (rfl).symm) c10
  ·
    obtain ⟨dv1, a1_0, x1_0, x1_1, x1_2, xr1, -⟩ := hc1
    have q11 : ((I0 346 5) - (1 : Int32)).toInt = (I0 346 5).toInt - (1 : Int) := x1_0
    have q12 : (0 : Int) + 0 ≤ p0.toInt := x1_1
    have q13 : p0.toInt + 0 ≤ ((I0 346 5) - (1 : Int32)).toInt := x1_2
    have xv1 : v1 = 1 := by have h := xr1; exact h
    have d14 : dkN [(0, 5)] p0 := dkN_eq1 (dkN_top p0) a1_0 rfl rfl
    refine lv_if_eq (tgt := 36) hx hb dX6_fits_5 (by decide) (fun c15 => ?_) (fun c15 => ?_)
    ·
      exact (dkN_nil (show dkN [] v1 from dkN_eq1 dv1 (dkN_lit (x := 0) (0) rfl) (congrArg Int32.toInt c15) rfl)).elim
    ·
      refine lv_iload_n hx hb dX6_fits_8 rfl (lv_at hl 2 rfl) ?_
      refine dk_Si (As := [.int p1]) (rest := []) ⟨hx, hb, hml, hown, hts⟩ (fx_X6_isRow_1 l g z I0 p1 hO) (va_cwS 1 hts gX6_fits_X6_isRow rfl rfl rfl (by decide +kernel) ⟨Nat.le_of_ble_eq_true rfl, Nat.le_of_ble_eq_true rfl⟩) hK hT hW hS rfl hl.1 rfl (Nat.le_of_ble_eq_true rfl) dX6_fits_9 ⟨Nat.zero_le _, Nat.zero_le _⟩ (fun v16 I16 H16 L16 hp16 hW hS => ?_)
      obtain ⟨hF16, hO, hc16⟩ := hp16
      have hF := dkF_call hF hF16 rfl
      have eI16 : I0 = I16 := (dkF_nil hF16).symm
      subst eI16
      rcases hc16 with ⟨dv16, a16_0, x16_0, xr16, -⟩ | hc16
      ·
        have q17 : p1.toInt + 1 ≤ (0 : Int) := x16_0
        have xv16 : v16 = 0 := by have h := xr16; exact h
        have d18 : dkN [(-2147483648, -1)] p1 := dkN_eq1 (dkN_top p1) a16_0 rfl rfl
        refine lv_if_eq (tgt := 36) hx hb dX6_fits_12 (by decide) (fun c19 => ?_) (fun c19 => ?_)
        ·
          refine lv_ldc (v := (-1000001)) hx hb hown (hts (.constant RX6 64 (-1000001)) (List.mem_of_getElem? (i := 1) rfl)) dX6_fits_36 ?_
          exact W.iret (v := (-1000001)) hx hb hr (fun t ht hW9 => ⟨⟨(-1000001), I0, rfl, ⟨hF, hO, Or.inr (Or.inr (Or.inl ⟨dkN_sub (dkN_lit (x := (-1000001)) (-1000001) rfl) rfl, dkN_sub d14 rfl, dkN_sub d18 rfl, q11, q12, q13, q17, rfl, rfl, trivial⟩))⟩, dkW_eq ht hW⟩, hS.F ht⟩) hS.2.2 dX6_fits_38
        ·
          exact absurd ((xv16).trans (rfl).symm) c19
      rcases hc16 with ⟨dv16, a16_0, x16_0, x16_1, xr16, -⟩ | hc16
      ·
        have q20 : (0 : Int) + 0 ≤ p1.toInt := x16_0
        have q21 : (7 : Int) + 1 ≤ p1.toInt := x16_1
        have xv16 : v16 = 0 := by have h := xr16; exact h
        have d22 : dkN [(8, 2147483647)] p1 := dkN_eq1 (dkN_top p1) a16_0 rfl rfl
        refine lv_if_eq (tgt := 36) hx hb dX6_fits_12 (by decide) (fun c23 => ?_) (fun c23 => ?_)
        ·
          refine lv_ldc (v := (-1000001)) hx hb hown (hts (.constant RX6 64 (-1000001)) (List.mem_of_getElem? (i := 1) rfl)) dX6_fits_36 ?_
          exact W.iret (v := (-1000001)) hx hb hr (fun t ht hW9 => ⟨⟨(-1000001), I0, rfl, ⟨hF, hO, Or.inr (Or.inr (Or.inr (Or.inl ⟨dkN_sub (dkN_lit (x := (-1000001)) (-1000001) rfl) rfl, dkN_sub d14 rfl, dkN_sub d22 rfl, q11, q12, q13, q20, q21, rfl, rfl, trivial⟩)))⟩, dkW_eq ht hW⟩, hS.F ht⟩) hS.2.2 dX6_fits_38
        ·
          exact absurd ((xv16).trans (rfl).symm) c23
      ·
        obtain ⟨dv16, a16_0, x16_0, x16_1, xr16, -⟩ := hc16
        have q24 : (0 : Int) + 0 ≤ p1.toInt := x16_0
        have q25 : p1.toInt + 0 ≤ (7 : Int) := x16_1
        have xv16 : v16 = 1 := by have h := xr16; exact h
        have d26 : dkN [(0, 7)] p1 := dkN_eq1 (dkN_top p1) a16_0 rfl rfl
        refine lv_if_eq (tgt := 36) hx hb dX6_fits_12 (by decide) (fun c27 => ?_) (fun c27 => ?_)
        ·
          exact (dkN_nil (show dkN [] v16 from dkN_eq1 dv16 (dkN_lit (x := 0) (0) rfl) (congrArg Int32.toInt c27) rfl)).elim
        ·
          refine lv_iload hx hb dX6_fits_15 (lv_at hl 4 rfl) ?_
          refine lv_iconst (v := 1) hx hb dX6_fits_17 (by decide) ?_
          refine lv_bipush (v := 12) hx hb dX6_fits_18 (by decide) ?_
          refine dk_Si (As := [.int p3, .int 1, .int 12]) (rest := []) ⟨hx, hb, hml, hown, hts⟩ (fx_X6_in_40 l g z I0 p3 1 12 (dkN_lit (x := 1) (1) rfl) (dkN_lit (x := 12) (12) rfl) hO) (va_cwS 3 hts gX6_fits_X6_in rfl rfl rfl (by decide +kernel) ⟨Nat.le_of_ble_eq_true rfl, Nat.le_of_ble_eq_true rfl⟩) hK hT hW hS rfl hl.1 rfl (Nat.le_of_ble_eq_true rfl) dX6_fits_20 ⟨Nat.zero_le _, Nat.zero_le _⟩ (fun v28 I28 H28 L28 hp28 hW hS => ?_)
          obtain ⟨hF28, hO, hc28⟩ := hp28
          have hF := dkF_call hF hF28 rfl
          have eI28 : I0 = I28 := (dkF_nil hF28).symm
          subst eI28
          rcases hc28 with ⟨dv28, a28_0, x28_0, xr28, -⟩ | hc28
          ·
            have q29 : p3.toInt + 1 ≤ (1 : Int) := x28_0
            have xv28 : v28 = 0 := by have h := xr28; exact h
            have d30 : dkN [(-2147483648, 0)] p3 := dkN_eq1 (dkN_top p3) a28_0 rfl rfl
            refine lv_if_eq (tgt := 36) hx hb dX6_fits_23 (by decide) (fun c31 => ?_) (fun c31 => ?_)
            ·
              refine lv_ldc (v := (-1000001)) hx hb hown (hts (.constant RX6 64 (-1000001)) (List.mem_of_getElem? (i := 1) rfl)) dX6_fits_36 ?_
              exact W.iret (v := (-1000001)) hx hb hr (fun t ht hW9 => ⟨⟨(-1000001), I0, rfl, ⟨hF, hO, Or.inr (Or.inr (Or.inr (Or.inr (Or.inl ⟨dkN_sub (dkN_lit (x := (-1000001)) (-1000001) rfl) rfl, dkN_sub d14 rfl, dkN_sub d26 rfl, dkN_sub d30 rfl, q11, q12, q13, q24, q25, q29, rfl, rfl, trivial⟩))))⟩, dkW_eq ht hW⟩, hS.F ht⟩) hS.2.2 dX6_fits_38
            ·
              exact absurd ((xv28).trans (rfl).symm) c31
          rcases hc28 with ⟨dv28, a28_0, x28_0, x28_1, xr28, -⟩ | hc28
          ·
            have q32 : (1 : Int) + 0 ≤ p3.toInt := x28_0
            have q33 : (12 : Int) + 1 ≤ p3.toInt := x28_1
            have xv28 : v28 = 0 := by have h := xr28; exact h
            have d34 : dkN [(13, 2147483647)] p3 := dkN_eq1 (dkN_top p3) a28_0 rfl rfl
            refine lv_if_eq (tgt := 36) hx hb dX6_fits_23 (by decide) (fun c35 => ?_) (fun c35 => ?_)
            ·
              refine lv_ldc (v := (-1000001)) hx hb hown (hts (.constant RX6 64 (-1000001)) (List.mem_of_getElem? (i := 1) rfl)) dX6_fits_36 ?_
              exact W.iret (v := (-1000001)) hx hb hr (fun t ht hW9 => ⟨⟨(-1000001), I0, rfl, ⟨hF, hO, Or.inr (Or.inr (Or.inr (Or.inr (Or.inr (Or.inl ⟨dkN_sub (dkN_lit (x := (-1000001)) (-1000001) rfl) rfl, dkN_sub d14 rfl, dkN_sub d26 rfl, dkN_sub d34 rfl, q11, q12, q13, q24, q25, q32, q33, rfl, rfl, trivial⟩)))))⟩, dkW_eq ht hW⟩, hS.F ht⟩) hS.2.2 dX6_fits_38
            ·
              exact absurd ((xv28).trans (rfl).symm) c35
          ·
            obtain ⟨dv28, a28_0, x28_0, x28_1, xr28, -⟩ := hc28
            have q36 : (1 : Int) + 0 ≤ p3.toInt := x28_0
            have q37 : p3.toInt + 0 ≤ (12 : Int) := x28_1
            have xv28 : v28 = 1 := by have h := xr28; exact h
            have d38 : dkN [(1, 12)] p3 := dkN_eq1 (dkN_top p3) a28_0 rfl rfl
            refine lv_if_eq (tgt := 36) hx hb dX6_fits_23 (by decide) (fun c39 => ?_) (fun c39 => ?_)
            ·
              exact (dkN_nil (show dkN [] v28 from dkN_eq1 dv28 (dkN_lit (x := 0) (0) rfl) (congrArg Int32.toInt c39) rfl)).elim
            ·
              refine lv_iload hx hb dX6_fits_26 (lv_at hl 5 rfl) ?_
              refine lv_iconst (v := 0) hx hb dX6_fits_28 (by decide) ?_
              refine lv_iconst (v := 1) hx hb dX6_fits_29 (by decide) ?_
              refine dk_Si (As := [.int p4, .int 0, .int 1]) (rest := []) ⟨hx, hb, hml, hown, hts⟩ (fx_X6_in_41 l g z I0 p4 0 1 (dkN_lit (x := 0) (0) rfl) (dkN_lit (x := 1) (1) rfl) hO) (va_cwS 3 hts gX6_fits_X6_in rfl rfl rfl (by decide +kernel) ⟨Nat.le_of_ble_eq_true rfl, Nat.le_of_ble_eq_true rfl⟩) hK hT hW hS rfl hl.1 rfl (Nat.le_of_ble_eq_true rfl) dX6_fits_30 ⟨Nat.zero_le _, Nat.zero_le _⟩ (fun v40 I40 H40 L40 hp40 hW hS => ?_)
              obtain ⟨hF40, hO, hc40⟩ := hp40
              have hF := dkF_call hF hF40 rfl
              have eI40 : I0 = I40 := (dkF_nil hF40).symm
              subst eI40
              rcases hc40 with ⟨dv40, a40_0, x40_0, xr40, -⟩ | hc40
              ·
                have q41 : p4.toInt + 1 ≤ (0 : Int) := x40_0
                have xv40 : v40 = 0 := by have h := xr40; exact h
                have d42 : dkN [(-2147483648, -1)] p4 := dkN_eq1 (dkN_top p4) a40_0 rfl rfl
                refine lv_if_ne (tgt := 39) hx hb dX6_fits_33 (by decide) (fun c43 => ?_) (fun c43 => ?_)
                ·
                  exact absurd ((xv40).trans (rfl).symm) c43
                ·
                  refine lv_ldc (v := (-1000001)) hx hb hown (hts (.constant RX6 64 (-1000001)) (List.mem_of_getElem? (i := 1) rfl)) dX6_fits_36 ?_
                  exact W.iret (v := (-1000001)) hx hb hr (fun t ht hW9 => ⟨⟨(-1000001), I0, rfl, ⟨hF, hO, Or.inr (Or.inr (Or.inr (Or.inr (Or.inr (Or.inr (Or.inl ⟨dkN_sub (dkN_lit (x := (-1000001)) (-1000001) rfl) rfl, dkN_sub d14 rfl, dkN_sub d26 rfl, dkN_sub d38 rfl, dkN_sub d42 rfl, q11, q12, q13, q24, q25, q36, q37, q41, rfl, rfl, trivial⟩))))))⟩, dkW_eq ht hW⟩, hS.F ht⟩) hS.2.2 dX6_fits_38
              rcases hc40 with ⟨dv40, a40_0, x40_0, x40_1, xr40, -⟩ | hc40
              ·
                have q44 : (0 : Int) + 0 ≤ p4.toInt := x40_0
                have q45 : (1 : Int) + 1 ≤ p4.toInt := x40_1
                have xv40 : v40 = 0 := by have h := xr40; exact h
                have d46 : dkN [(2, 2147483647)] p4 := dkN_eq1 (dkN_top p4) a40_0 rfl rfl
                refine lv_if_ne (tgt := 39) hx hb dX6_fits_33 (by decide) (fun c47 => ?_) (fun c47 => ?_)
                ·
                  exact absurd ((xv40).trans (rfl).symm) c47
                ·
                  refine lv_ldc (v := (-1000001)) hx hb hown (hts (.constant RX6 64 (-1000001)) (List.mem_of_getElem? (i := 1) rfl)) dX6_fits_36 ?_
                  exact W.iret (v := (-1000001)) hx hb hr (fun t ht hW9 => ⟨⟨(-1000001), I0, rfl, ⟨hF, hO, Or.inr (Or.inr (Or.inr (Or.inr (Or.inr (Or.inr (Or.inr (Or.inl ⟨dkN_sub (dkN_lit (x := (-1000001)) (-1000001) rfl) rfl, dkN_sub d14 rfl, dkN_sub d26 rfl, dkN_sub d38 rfl, dkN_sub d46 rfl, q11, q12, q13, q24, q25, q36, q37, q44, q45, rfl, rfl, trivial⟩)))))))⟩, dkW_eq ht hW⟩, hS.F ht⟩) hS.2.2 dX6_fits_38
              ·
                obtain ⟨dv40, a40_0, x40_0, x40_1, xr40, -⟩ := hc40
                have q48 : (0 : Int) + 0 ≤ p4.toInt := x40_0
                have q49 : p4.toInt + 0 ≤ (1 : Int) := x40_1
                have xv40 : v40 = 1 := by have h := xr40; exact h
                have d50 : dkN [(0, 1)] p4 := dkN_eq1 (dkN_top p4) a40_0 rfl rfl
                refine lv_if_ne (tgt := 39) hx hb dX6_fits_33 (by decide) (fun c51 => ?_) (fun c51 => ?_)
                ·
                  refine lv_aload_n hx hb dX6_fits_39 rfl (lv_at hl 0 rfl) ?_
                  refine lv_iload_n hx hb dX6_fits_40 rfl (lv_at hl 2 rfl) ?_
                  refine dk_Vi (As := [.int p1]) (rest := []) ⟨hx, hb, hml, hown, hts⟩ (fx_X6_isMissing_1 l g z I0 p1 d26 hO) (cwV 1 hts gX6_fits_X6_isMissing rfl rfl rfl (by decide +kernel) ⟨Nat.le_of_ble_eq_true rfl, Nat.le_of_ble_eq_true rfl⟩) (dk_at340 hW) rfl hK hT hW hS rfl hl.1 rfl (Nat.le_of_ble_eq_true rfl) dX6_fits_41 ⟨Nat.zero_le _, Nat.zero_le _⟩ (fun v52 I52 H52 L52 hp52 hW hS => ?_)
                  obtain ⟨hF52, hO, hc52⟩ := hp52
                  have hF := dkF_call hF hF52 rfl
                  have eI52 : I0 = I52 := (dkF_nil hF52).symm
                  subst eI52
                  rcases hc52 with ⟨dv52, x52_0, xr52, -⟩ | hc52
                  ·
                    have q53 : (I0 341 (Int32.toNatClampNeg p1)).toInt ≠ (-1000000 : Int) := x52_0
                    have xv52 : v52 = 0 := by have h := xr52; exact h
                    refine lv_if_eq (tgt := 53) hx hb dX6_fits_44 (by decide) (fun c54 => ?_) (fun c54 => ?_)
                    ·
                      refine lv_aload_n hx hb dX6_fits_53 rfl (lv_at hl 0 rfl) ?_
                      refine lv_iload_n hx hb dX6_fits_54 rfl (lv_at hl 2 rfl) ?_
                      refine lv_iload_n hx hb dX6_fits_55 rfl (lv_at hl 3 rfl) ?_
                      refine lv_iload hx hb dX6_fits_56 (lv_at hl 4 rfl) ?_
                      refine dk_Vi (As := [.int p1, .int p2, .int p3]) (rest := []) ⟨hx, hb, hml, hown, hts⟩ (fx_X6_isPart_5 l g z I0 p1 p2 p3 d26 d38 hO) (cwV 3 hts gX6_fits_X6_isPart rfl rfl rfl (by decide +kernel) ⟨Nat.le_of_ble_eq_true rfl, Nat.le_of_ble_eq_true rfl⟩) (dk_at340 hW) rfl hK hT hW hS rfl hl.1 rfl (Nat.le_of_ble_eq_true rfl) dX6_fits_58 ⟨Nat.zero_le _, Nat.zero_le _⟩ (fun v55 I55 H55 L55 hp55 hW hS => ?_)
                      obtain ⟨hF55, hO, hc55⟩ := hp55
                      have hF := dkF_call hF hF55 rfl
                      have eI55 : I0 = I55 := (dkF_nil hF55).symm
                      subst eI55
                      rcases hc55 with ⟨dv55, a55_1, x55_0, xr55, -⟩ | hc55
                      ·
                        have q56 : p2.toInt + 1 ≤ (0 : Int) := x55_0
                        have xv55 : v55 = 0 := by have h := xr55; exact h
                        have d57 : dkN [(-2147483648, -1)] p2 := dkN_eq1 (dkN_top p2) a55_1 rfl rfl
                        refine lv_if_ne (tgt := 70) hx hb dX6_fits_61 (by decide) (fun c58 => ?_) (fun c58 => ?_)
                        ·
                          exact absurd ((xv55).trans (rfl).symm) c58
                        ·
                          refine lv_aload_n hx hb dX6_fits_64 rfl (lv_at hl 0 rfl) ?_
                          refine lv_iconst (v := 2) hx hb dX6_fits_65 (by decide) ?_
                          refine dk_Vi (As := [.int 2]) (rest := []) ⟨hx, hb, hml, hown, hts⟩ (fx_X6_found_7 l g z I0 2 (dkN_lit (x := 2) (2) rfl) hO) (cwV 1 hts gX6_fits_X6_found rfl rfl rfl (by decide +kernel) ⟨Nat.le_of_ble_eq_true rfl, Nat.le_of_ble_eq_true rfl⟩) (dk_at340 hW) rfl hK hT hW hS rfl hl.1 rfl (Nat.le_of_ble_eq_true rfl) dX6_fits_66 ⟨Nat.zero_le _, Nat.zero_le _⟩ (fun v59 I59 H59 L59 hp59 hW hS => ?_)
                          obtain ⟨hF59, hO, hc59⟩ := hp59
                          have hF := dkF_call hF hF59 rfl
                          obtain ⟨dv59, f59_340_4, x59_0, xr59, xh59_0, -⟩ := hc59
                          have q60 : ((-1000010 : Int32) - (2 : Int32)).toInt = (-1000010 : Int) - (2 : Int) := x59_0
                          have y61 : I59 340 4 = 2 := by have h := xh59_0; exact h
                          have xv59 : v59 = (-1000010 : Int32) - (2 : Int32) := by have h := xr59; exact h
                          exact W.iret (v := v59) hx hb hr (fun t ht hW9 => ⟨⟨v59, I59, rfl, ⟨hF, hO, Or.inr (Or.inr (Or.inr (Or.inr (Or.inr (Or.inr (Or.inr (Or.inr (Or.inl ⟨dkN_sub dv59 rfl, dkN_sub d14 rfl, dkN_sub d26 rfl, dkN_sub d57 rfl, dkN_sub d38 rfl, dkN_sub d50 rfl, (show dkN [(2, 2)] (I59 340 4) from dkN_sub f59_340_4 rfl), q11, q12, q13, q24, q25, q36, q37, q48, q49, q53, q56, q60, xv59, y61, trivial⟩))))))))⟩, dkW_eq ht hW⟩, hS.F ht⟩) hS.2.2 dX6_fits_69
                      rcases hc55 with ⟨dv55, a55_1, x55_0, x55_1, x55_2, xr55, -⟩ | hc55
                      ·
                        have q62 : (0 : Int) + 0 ≤ p2.toInt := x55_0
                        have q63 : (0 : Int) + 0 ≤ p3.toInt := x55_1
                        have q64 : (I0 342 (Int32.toNatClampNeg p1)).toInt + 1 ≤ p2.toInt := x55_2
                        have xv55 : v55 = 0 := by have h := xr55; exact h
                        have d65 : dkN [(1, 2147483647)] p2 := dkN_eq1 (dkN_top p2) a55_1 rfl rfl
                        refine lv_if_ne (tgt := 70) hx hb dX6_fits_61 (by decide) (fun c66 => ?_) (fun c66 => ?_)
                        ·
                          exact absurd ((xv55).trans (rfl).symm) c66
                        ·
                          refine lv_aload_n hx hb dX6_fits_64 rfl (lv_at hl 0 rfl) ?_
                          refine lv_iconst (v := 2) hx hb dX6_fits_65 (by decide) ?_
                          refine dk_Vi (As := [.int 2]) (rest := []) ⟨hx, hb, hml, hown, hts⟩ (fx_X6_found_7 l g z I0 2 (dkN_lit (x := 2) (2) rfl) hO) (cwV 1 hts gX6_fits_X6_found rfl rfl rfl (by decide +kernel) ⟨Nat.le_of_ble_eq_true rfl, Nat.le_of_ble_eq_true rfl⟩) (dk_at340 hW) rfl hK hT hW hS rfl hl.1 rfl (Nat.le_of_ble_eq_true rfl) dX6_fits_66 ⟨Nat.zero_le _, Nat.zero_le _⟩ (fun v67 I67 H67 L67 hp67 hW hS => ?_)
                          obtain ⟨hF67, hO, hc67⟩ := hp67
                          have hF := dkF_call hF hF67 rfl
                          obtain ⟨dv67, f67_340_4, x67_0, xr67, xh67_0, -⟩ := hc67
                          have q68 : ((-1000010 : Int32) - (2 : Int32)).toInt = (-1000010 : Int) - (2 : Int) := x67_0
                          have y69 : I67 340 4 = 2 := by have h := xh67_0; exact h
                          have xv67 : v67 = (-1000010 : Int32) - (2 : Int32) := by have h := xr67; exact h
                          exact W.iret (v := v67) hx hb hr (fun t ht hW9 => ⟨⟨v67, I67, rfl, ⟨hF, hO, Or.inr (Or.inr (Or.inr (Or.inr (Or.inr (Or.inr (Or.inr (Or.inr (Or.inr (Or.inl ⟨dkN_sub dv67 rfl, dkN_sub d14 rfl, dkN_sub d26 rfl, dkN_sub d65 rfl, dkN_sub d38 rfl, dkN_sub d50 rfl, (show dkN [(2, 2)] (I67 340 4) from dkN_sub f67_340_4 rfl), q11, q12, q13, q24, q25, q36, q37, q48, q49, q53, q62, q63, q64, q68, xv67, y69, trivial⟩)))))))))⟩, dkW_eq ht hW⟩, hS.F ht⟩) hS.2.2 dX6_fits_69
                      rcases hc55 with ⟨dv55, a55_1, x55_0, x55_1, x55_2, x55_3, x55_4, xr55, -⟩ | hc55
                      ·
                        have q70 : (0 : Int) + 0 ≤ p2.toInt := x55_0
                        have q71 : (0 : Int) + 0 ≤ p3.toInt := x55_1
                        have q72 : p2.toInt + 0 ≤ (I0 342 (Int32.toNatClampNeg p1)).toInt := x55_2
                        have q73 : ((I0 342 (Int32.toNatClampNeg p1)) - p2).toInt = (I0 342 (Int32.toNatClampNeg p1)).toInt - p2.toInt := x55_3
                        have q74 : ((I0 342 (Int32.toNatClampNeg p1)) - p2).toInt + 1 ≤ p3.toInt := x55_4
                        have xv55 : v55 = 0 := by have h := xr55; exact h
                        have d75 : dkN [(0, 40)] p2 := dkN_eq1 (dkN_top p2) a55_1 rfl rfl
                        refine lv_if_ne (tgt := 70) hx hb dX6_fits_61 (by decide) (fun c76 => ?_) (fun c76 => ?_)
                        ·
                          exact absurd ((xv55).trans (rfl).symm) c76
                        ·
                          refine lv_aload_n hx hb dX6_fits_64 rfl (lv_at hl 0 rfl) ?_
                          refine lv_iconst (v := 2) hx hb dX6_fits_65 (by decide) ?_
                          refine dk_Vi (As := [.int 2]) (rest := []) ⟨hx, hb, hml, hown, hts⟩ (fx_X6_found_7 l g z I0 2 (dkN_lit (x := 2) (2) rfl) hO) (cwV 1 hts gX6_fits_X6_found rfl rfl rfl (by decide +kernel) ⟨Nat.le_of_ble_eq_true rfl, Nat.le_of_ble_eq_true rfl⟩) (dk_at340 hW) rfl hK hT hW hS rfl hl.1 rfl (Nat.le_of_ble_eq_true rfl) dX6_fits_66 ⟨Nat.zero_le _, Nat.zero_le _⟩ (fun v77 I77 H77 L77 hp77 hW hS => ?_)
                          obtain ⟨hF77, hO, hc77⟩ := hp77
                          have hF := dkF_call hF hF77 rfl
                          obtain ⟨dv77, f77_340_4, x77_0, xr77, xh77_0, -⟩ := hc77
                          have q78 : ((-1000010 : Int32) - (2 : Int32)).toInt = (-1000010 : Int) - (2 : Int) := x77_0
                          have y79 : I77 340 4 = 2 := by have h := xh77_0; exact h
                          have xv77 : v77 = (-1000010 : Int32) - (2 : Int32) := by have h := xr77; exact h
                          exact W.iret (v := v77) hx hb hr (fun t ht hW9 => ⟨⟨v77, I77, rfl, ⟨hF, hO, Or.inr (Or.inr (Or.inr (Or.inr (Or.inr (Or.inr (Or.inr (Or.inr (Or.inr (Or.inr (Or.inl ⟨dkN_sub dv77 rfl, dkN_sub d14 rfl, dkN_sub d26 rfl, dkN_sub d75 rfl, dkN_sub d38 rfl, dkN_sub d50 rfl, (show dkN [(2, 2)] (I77 340 4) from dkN_sub f77_340_4 rfl), q11, q12, q13, q24, q25, q36, q37, q48, q49, q53, q70, q71, q72, q73, q74, q78, xv77, y79, trivial⟩))))))))))⟩, dkW_eq ht hW⟩, hS.F ht⟩) hS.2.2 dX6_fits_69
                      ·
                        obtain ⟨dv55, a55_1, q55_0, x55_0, x55_1, x55_2, x55_3, x55_4, xr55, -⟩ := hc55
                        have q80 : (0 : Int) + 0 ≤ p2.toInt := x55_0
                        have q81 : (0 : Int) + 0 ≤ p3.toInt := x55_1
                        have q82 : p2.toInt + 0 ≤ (I0 342 (Int32.toNatClampNeg p1)).toInt := x55_2
                        have q83 : ((I0 342 (Int32.toNatClampNeg p1)) - p2).toInt = (I0 342 (Int32.toNatClampNeg p1)).toInt - p2.toInt := x55_3
                        have q84 : p3.toInt + 0 ≤ ((I0 342 (Int32.toNatClampNeg p1)) - p2).toInt := x55_4
                        have xv55 : v55 = 1 := by have h := xr55; exact h
                        have d85 : dkN [(0, 40)] p2 := dkN_eq1 (dkN_top p2) a55_1 rfl rfl
                        refine lv_if_ne (tgt := 70) hx hb dX6_fits_61 (by decide) (fun c86 => ?_) (fun c86 => ?_)
                        ·
                          refine lv_bipush (v := 36) hx hb dX6_fits_70 (by decide) ?_
                          refine lv_iconst (v := 3) hx hb dX6_fits_72 (by decide) ?_
                          refine lv_iload_n hx hb dX6_fits_73 rfl (lv_at hl 1 rfl) ?_
                          refine lv_imul hx hb dX6_fits_74 ?_
                          refine lv_topi (fun v87 ev87 => ?_)
                          have dv87 : dkN [(0, 0), (3, 3), (6, 6), (9, 9), (12, 12), (15, 15)] v87 := by rw [ev87]; exact dkN_mulPt 3 (dkN_lit (x := 3) (3) rfl) d14 rfl
                          have xv87 : v87 = (3 : Int32) * p0 := by rw [ev87]
                          have q88 : ((3 : Int32) * p0).toInt = (3 : Int) * p0.toInt := by first | (rw [← xv87]; exact (by rw [ev87]; exact dk_mulE 3 (x := 3) rfl d14 (by decide) rfl)) | (subst xv87; exact (by rw [ev87]; exact dk_mulE 3 (x := 3) rfl d14 (by decide) rfl))
                          refine lv_iadd hx hb dX6_fits_75 ?_
                          refine lv_topi (fun v89 ev89 => ?_)
                          have dv89 : dkN [(36, 36), (39, 39), (42, 42), (45, 45), (48, 48), (51, 51)] v89 := by rw [ev89]; exact dkN_add (dkN_lit (x := 36) (36) rfl) dv87 rfl
                          have xv89 : v89 = (36 : Int32) + ((3 : Int32) * p0) := by rw [ev89, xv87]
                          have q90 : ((36 : Int32) + ((3 : Int32) * p0)).toInt = (36 : Int) + ((3 : Int32) * p0).toInt := by first | (rw [← xv89, ← xv87]; exact (by rw [ev89]; exact dk_addE (dkN_lit (x := 36) (36) rfl) dv87 rfl)) | (subst xv89 xv87; exact (by rw [ev89]; exact dk_addE (dkN_lit (x := 36) (36) rfl) dv87 rfl))
                          refine lv_istore (lv' := [(6, .int v89), (0, .ref (z + 340)), (1, .int p0), (2, .int p1), (3, .int p2), (4, .int p3), (5, .int p4)]) hx hb dX6_fits_76 hl (by decide) rfl (fun ls hl => ?_)
                          refine lv_aload_n hx hb dX6_fits_78 rfl (lv_at hl 1 rfl) ?_
                          refine lv_iload hx hb dX6_fits_79 (lv_at hl 6 rfl) ?_
                          refine lv_if_ne (tgt := 104) hx hb dX6_fits_81 (by decide) (fun c91 => ?_) (fun c91 => ?_)
                          ·
                            have q92 : p4.toInt ≠ (0 : Int) := (dk_ne c91)
                            have d93 : dkN [(1, 1)] p4 := dkN_ne1 (0) d50 (dkN_lit (x := 0) (0) rfl) (dk_ne c91) rfl
                            refine lv_aload_n hx hb dX6_fits_104 rfl (lv_at hl 1 rfl) ?_
                            refine lv_iload_n hx hb dX6_fits_105 rfl (lv_at hl 2 rfl) ?_
                            refine lv_bipush (v := 40) hx hb dX6_fits_106 (by decide) ?_
                            refine lv_iload_n hx hb dX6_fits_108 rfl (lv_at hl 3 rfl) ?_
                            refine lv_imul hx hb dX6_fits_109 ?_
                            refine lv_topi (fun v94 ev94 => ?_)
                            have dv94 : dkN [(0, 280)] v94 := by rw [ev94]; exact dkN_mulL 40 (by decide) (dkN_lit (x := 40) (40) rfl) d26 rfl
                            have xv94 : v94 = (40 : Int32) * p1 := by rw [ev94]
                            have q95 : ((40 : Int32) * p1).toInt = (40 : Int) * p1.toInt := by first | (rw [← xv94]; exact (by rw [ev94]; exact dk_mulE 40 (x := 40) rfl d26 (by decide) rfl)) | (subst xv94; exact (by rw [ev94]; exact dk_mulE 40 (x := 40) rfl d26 (by decide) rfl))
                            refine lv_iload_n hx hb dX6_fits_110 rfl (lv_at hl 4 rfl) ?_
                            refine lv_iadd hx hb dX6_fits_111 ?_
                            refine lv_topi (fun v96 ev96 => ?_)
                            have dv96 : dkN [(0, 320)] v96 := by rw [ev96]; exact dkN_add dv94 d85 rfl
                            have xv96 : v96 = ((40 : Int32) * p1) + p2 := by rw [ev96, xv94]
                            have q97 : (((40 : Int32) * p1) + p2).toInt = ((40 : Int32) * p1).toInt + p2.toInt := by first | (rw [← xv96, ← xv94]; exact (by rw [ev96]; exact dk_addE dv94 d85 rfl)) | (subst xv96 xv94; exact (by rw [ev96]; exact dk_addE dv94 d85 rfl))
                            refine lv_iload hx hb dX6_fits_112 (lv_at hl 5 rfl) ?_
                            refine lv_iload hx hb dX6_fits_114 (lv_at hl 0 rfl) ?_
                            refine lv_iconst (v := 2) hx hb dX6_fits_116 (by decide) ?_
                            refine lv_iadd hx hb dX6_fits_117 ?_
                            refine lv_topi (fun v98 ev98 => ?_)
                            have dv98 : dkN [(38, 38), (41, 41), (44, 44), (47, 47), (50, 50), (53, 53)] v98 := by rw [ev98]; exact dkN_add dv89 (dkN_lit (x := 2) (2) rfl) rfl
                            have xv98 : v98 = ((36 : Int32) + ((3 : Int32) * p0)) + (2 : Int32) := by rw [ev98, xv89]
                            have q99 : (((36 : Int32) + ((3 : Int32) * p0)) + (2 : Int32)).toInt = ((36 : Int32) + ((3 : Int32) * p0)).toInt + (2 : Int) := by first | (rw [← xv98, ← xv89]; exact (by rw [ev98]; exact dk_addE dv89 (dkN_lit (x := 2) (2) rfl) rfl)) | (subst xv98 xv89; exact (by rw [ev98]; exact dk_addE dv89 (dkN_lit (x := 2) (2) rfl) rfl))
                            refine lv_iconst (v := 0) hx hb dX6_fits_118 (by decide) ?_
                            refine lv_aload_n hx hb dX6_fits_119 rfl (lv_at hl 1 rfl) ?_
                            refine dk_get (k := 340) hx hb hts iX6_fits_6 hown hK (dk_at340 hW) rfl 13 (by decide) (hts (.fieldLink RX6 25 "DogKingsModel" "now" "[I") (List.mem_of_getElem? (i := 2) rfl)) rfl dX6_fits_120 ?_
                            refine lv_iconst (v := 0) hx hb dX6_fits_123 (by decide) ?_
                            refine dk_ild (k := 346) hx hb hK (dk_at346 hW) (dkN_in (n := 54) (dkN_lit (x := 0) (0) rfl) rfl) dX6_fits_124 ?_
                            refine lv_topi (fun v100 ev100 => ?_)
                            have ev100 : v100 = I0 346 0 := ev100
                            have dv100 : dkN [(0, 9)] v100 := by rw [ev100]; exact (show dkN [(0, 9)] (I0 346 0) from (hO 346 0))
                            have xv100 : v100 = I0 346 0 := ev100.trans rfl
                            refine lv_iconst (v := 1) hx hb dX6_fits_125 (by decide) ?_
                            refine lv_isub hx hb dX6_fits_126 ?_
                            refine lv_topi (fun v101 ev101 => ?_)
                            have dv101 : dkN [(-1, 8)] v101 := by rw [ev101]; exact dkN_subt dv100 (dkN_lit (x := 1) (1) rfl) rfl
                            have xv101 : v101 = (I0 346 0) - (1 : Int32) := by rw [ev101, xv100]
                            have q102 : ((I0 346 0) - (1 : Int32)).toInt = (I0 346 0).toInt - (1 : Int) := by first | (rw [← xv101, ← xv100]; exact (by rw [ev101]; exact dk_subE dv100 (dkN_lit (x := 1) (1) rfl) rfl)) | (subst xv101 xv100; exact (by rw [ev101]; exact dk_subE dv100 (dkN_lit (x := 1) (1) rfl) rfl))
                            refine dk_Vi (As := [.int p0, .int v96, .int p3, .int v98, .int 0, .int v101]) (rest := [.ref (z + 340)]) ⟨hx, hb, hml, hown, hts⟩ (c_X6_seenBy_0 l g z I0 p0 v96 p3 v98 0 v101 d14 dv96 d38 dv98 (dkN_lit (x := 0) (0) rfl) dv101 (dk_rel320 ev94 ev96 d26 d85 q55_0 rfl) hO) (cwV 6 hts gX6_fits_X6_seenBy rfl rfl rfl (by decide +kernel) ⟨Nat.le_of_ble_eq_true rfl, Nat.le_of_ble_eq_true rfl⟩) (dk_at340 hW) rfl hK hT hW hS rfl hl.1 rfl (Nat.le_of_ble_eq_true rfl) dX6_fits_127 ⟨Nat.zero_le _, Nat.zero_le _⟩ (fun v103 I103 H103 L103 hp103 hW hS => ?_)
                            obtain ⟨hF103, hO, hc103⟩ := hp103
                            have hF := dkF_call hF hF103 rfl
                            obtain ⟨_, -⟩ := hc103
                            refine dk_Vi (As := [.int v103]) (rest := []) ⟨hx, hb, hml, hown, hts⟩ (fx_X6_well_1 l g z I103 v103 hO) (cwV 1 hts gX6_fits_X6_well rfl rfl rfl (by decide +kernel) ⟨Nat.le_of_ble_eq_true rfl, Nat.le_of_ble_eq_true rfl⟩) (dk_at340 hW) rfl hK hT hW hS rfl hl.1 rfl (Nat.le_of_ble_eq_true rfl) dX6_fits_130 ⟨Nat.zero_le _, Nat.zero_le _⟩ (fun v104 I104 H104 L104 hp104 hW hS => ?_)
                            obtain ⟨hF104, hO, hc104⟩ := hp104
                            have hF := dkF_call hF hF104 rfl
                            obtain ⟨_, f104_340_4, xr104, xh104_0, -⟩ := hc104
                            have y105 : I104 340 4 = 0 := by have h := xh104_0; exact h
                            exact W.iret (v := v104) hx hb hr (fun t ht hW9 => ⟨⟨v104, I104, rfl, ⟨hF, hO, Or.inr (Or.inr (Or.inr (Or.inr (Or.inr (Or.inr (Or.inr (Or.inr (Or.inr (Or.inr (Or.inr (Or.inl ⟨trivial, dkN_sub d14 rfl, dkN_sub d26 rfl, dkN_sub d85 rfl, dkN_sub d38 rfl, dkN_sub d93 rfl, (show dkN [(0, 0)] (I104 340 4) from dkN_sub f104_340_4 rfl), q11, q12, q13, q24, q25, q36, q37, q48, q49, q53, q80, q81, q82, q83, q84, q88, q90, q92, q95, q97, q99, q102, y105, trivial⟩)))))))))))⟩, dkW_eq ht hW⟩, hS.F ht⟩) hS.2.2 dX6_fits_133
                          ·
                            have q106 : p4.toInt = (0 : Int) := (congrArg Int32.toInt c91)
                            have d107 : dkN [(0, 0)] p4 := dkN_eq1 d50 (dkN_lit (x := 0) (0) rfl) (congrArg Int32.toInt c91) rfl
                            refine lv_aload_n hx hb dX6_fits_84 rfl (lv_at hl 1 rfl) ?_
                            refine lv_iload_n hx hb dX6_fits_85 rfl (lv_at hl 2 rfl) ?_
                            refine lv_bipush (v := 40) hx hb dX6_fits_86 (by decide) ?_
                            refine lv_iload_n hx hb dX6_fits_88 rfl (lv_at hl 3 rfl) ?_
                            refine lv_imul hx hb dX6_fits_89 ?_
                            refine lv_topi (fun v108 ev108 => ?_)
                            have dv108 : dkN [(0, 280)] v108 := by rw [ev108]; exact dkN_mulL 40 (by decide) (dkN_lit (x := 40) (40) rfl) d26 rfl
                            have xv108 : v108 = (40 : Int32) * p1 := by rw [ev108]
                            have q109 : ((40 : Int32) * p1).toInt = (40 : Int) * p1.toInt := by first | (rw [← xv108]; exact (by rw [ev108]; exact dk_mulE 40 (x := 40) rfl d26 (by decide) rfl)) | (subst xv108; exact (by rw [ev108]; exact dk_mulE 40 (x := 40) rfl d26 (by decide) rfl))
                            refine lv_iload_n hx hb dX6_fits_90 rfl (lv_at hl 4 rfl) ?_
                            refine lv_iadd hx hb dX6_fits_91 ?_
                            refine lv_topi (fun v110 ev110 => ?_)
                            have dv110 : dkN [(0, 320)] v110 := by rw [ev110]; exact dkN_add dv108 d85 rfl
                            have xv110 : v110 = ((40 : Int32) * p1) + p2 := by rw [ev110, xv108]
                            have q111 : (((40 : Int32) * p1) + p2).toInt = ((40 : Int32) * p1).toInt + p2.toInt := by first | (rw [← xv110, ← xv108]; exact (by rw [ev110]; exact dk_addE dv108 d85 rfl)) | (subst xv110 xv108; exact (by rw [ev110]; exact dk_addE dv108 d85 rfl))
                            refine lv_iload hx hb dX6_fits_92 (lv_at hl 5 rfl) ?_
                            refine lv_iload hx hb dX6_fits_94 (lv_at hl 0 rfl) ?_
                            refine lv_iconst (v := 1) hx hb dX6_fits_96 (by decide) ?_
                            refine lv_iconst (v := 5) hx hb dX6_fits_97 (by decide) ?_
                            refine dk_Vi (As := [.int p0, .int v110, .int p3, .int v89, .int 1, .int 5]) (rest := [.ref (z + 340)]) ⟨hx, hb, hml, hown, hts⟩ (c_X6_seenBy_1 l g z I0 p0 v110 p3 v89 1 5 d14 dv110 d38 dv89 (dkN_lit (x := 1) (1) rfl) (dkN_lit (x := 5) (5) rfl) (dk_rel320 ev108 ev110 d26 d85 q55_0 rfl) hO) (cwV 6 hts gX6_fits_X6_seenBy rfl rfl rfl (by decide +kernel) ⟨Nat.le_of_ble_eq_true rfl, Nat.le_of_ble_eq_true rfl⟩) (dk_at340 hW) rfl hK hT hW hS rfl hl.1 rfl (Nat.le_of_ble_eq_true rfl) dX6_fits_98 ⟨Nat.zero_le _, Nat.zero_le _⟩ (fun v112 I112 H112 L112 hp112 hW hS => ?_)
                            obtain ⟨hF112, hO, hc112⟩ := hp112
                            have hF := dkF_call hF hF112 rfl
                            obtain ⟨_, -⟩ := hc112
                            refine lv_goto (tgt := 130) hx hb dX6_fits_101 (by decide) ?_
                            refine dk_Vi (As := [.int v112]) (rest := []) ⟨hx, hb, hml, hown, hts⟩ (fx_X6_well_1 l g z I112 v112 hO) (cwV 1 hts gX6_fits_X6_well rfl rfl rfl (by decide +kernel) ⟨Nat.le_of_ble_eq_true rfl, Nat.le_of_ble_eq_true rfl⟩) (dk_at340 hW) rfl hK hT hW hS rfl hl.1 rfl (Nat.le_of_ble_eq_true rfl) dX6_fits_130 ⟨Nat.zero_le _, Nat.zero_le _⟩ (fun v113 I113 H113 L113 hp113 hW hS => ?_)
                            obtain ⟨hF113, hO, hc113⟩ := hp113
                            have hF := dkF_call hF hF113 rfl
                            obtain ⟨_, f113_340_4, xr113, xh113_0, -⟩ := hc113
                            have y114 : I113 340 4 = 0 := by have h := xh113_0; exact h
                            exact W.iret (v := v113) hx hb hr (fun t ht hW9 => ⟨⟨v113, I113, rfl, ⟨hF, hO, Or.inr (Or.inr (Or.inr (Or.inr (Or.inr (Or.inr (Or.inr (Or.inr (Or.inr (Or.inr (Or.inr (Or.inr (Or.inl ⟨trivial, dkN_sub d14 rfl, dkN_sub d26 rfl, dkN_sub d85 rfl, dkN_sub d38 rfl, dkN_sub d107 rfl, (show dkN [(0, 0)] (I113 340 4) from dkN_sub f113_340_4 rfl), q11, q12, q13, q24, q25, q36, q37, q48, q49, q53, q80, q81, q82, q83, q84, q88, q90, q106, q109, q111, y114, trivial⟩))))))))))))⟩, dkW_eq ht hW⟩, hS.F ht⟩) hS.2.2 dX6_fits_133
                        ·
                          exact (dkN_nil (show dkN [] v55 from dkN_eq1 dv55 (dkN_lit (x := 0) (0) rfl) (congrArg Int32.toInt c86) rfl)).elim
                    ·
                      exact absurd ((xv52).trans (rfl).symm) c54
                  ·
                    obtain ⟨dv52, x52_0, xr52, -⟩ := hc52
                    have q115 : (I0 341 (Int32.toNatClampNeg p1)).toInt = (-1000000 : Int) := x52_0
                    have xv52 : v52 = 1 := by have h := xr52; exact h
                    refine lv_if_eq (tgt := 53) hx hb dX6_fits_44 (by decide) (fun c116 => ?_) (fun c116 => ?_)
                    ·
                      exact (dkN_nil (show dkN [] v52 from dkN_eq1 dv52 (dkN_lit (x := 0) (0) rfl) (congrArg Int32.toInt c116) rfl)).elim
                    ·
                      refine lv_aload_n hx hb dX6_fits_47 rfl (lv_at hl 0 rfl) ?_
                      refine lv_iconst (v := 1) hx hb dX6_fits_48 (by decide) ?_
                      refine dk_Vi (As := [.int 1]) (rest := []) ⟨hx, hb, hml, hown, hts⟩ (fx_X6_found_6 l g z I0 1 (dkN_lit (x := 1) (1) rfl) hO) (cwV 1 hts gX6_fits_X6_found rfl rfl rfl (by decide +kernel) ⟨Nat.le_of_ble_eq_true rfl, Nat.le_of_ble_eq_true rfl⟩) (dk_at340 hW) rfl hK hT hW hS rfl hl.1 rfl (Nat.le_of_ble_eq_true rfl) dX6_fits_49 ⟨Nat.zero_le _, Nat.zero_le _⟩ (fun v117 I117 H117 L117 hp117 hW hS => ?_)
                      obtain ⟨hF117, hO, hc117⟩ := hp117
                      have hF := dkF_call hF hF117 rfl
                      obtain ⟨dv117, f117_340_4, x117_0, xr117, xh117_0, -⟩ := hc117
                      have q118 : ((-1000010 : Int32) - (1 : Int32)).toInt = (-1000010 : Int) - (1 : Int) := x117_0
                      have y119 : I117 340 4 = 1 := by have h := xh117_0; exact h
                      have xv117 : v117 = (-1000010 : Int32) - (1 : Int32) := by have h := xr117; exact h
                      exact W.iret (v := v117) hx hb hr (fun t ht hW9 => ⟨⟨v117, I117, rfl, ⟨hF, hO, Or.inr (Or.inr (Or.inr (Or.inr (Or.inr (Or.inr (Or.inr (Or.inr (Or.inr (Or.inr (Or.inr (Or.inr (Or.inr (⟨dkN_sub dv117 rfl, dkN_sub d14 rfl, dkN_sub d26 rfl, dkN_sub d38 rfl, dkN_sub d50 rfl, (show dkN [(1, 1)] (I117 340 4) from dkN_sub f117_340_4 rfl), q11, q12, q13, q24, q25, q36, q37, q48, q49, q115, q118, xv117, y119, trivial⟩)))))))))))))⟩, dkW_eq ht hW⟩, hS.F ht⟩) hS.2.2 dX6_fits_52
                ·
                  exact (dkN_nil (show dkN [] v40 from dkN_eq1 dv40 (dkN_lit (x := 0) (0) rfl) (congrArg Int32.toInt c51) rfl)).elim
set_option maxHeartbeats 4000000 in
set_option maxRecDepth 100000 in
theorem fx_X5_isPerson_1 (l : Launch) (g : dkG) (z : Nat) (I0 : dkI) (p0 : Int32)  (hO : dkOk I0) : Met l yX5_isPerson wsX5_isPerson (dkR 0) (dkPc g z [.ref (z + 0), .int p0] I0) (dkQi g z (fun r I1 => dkF [] I0 I1 ∧ dkOk I1 ∧ ((dkN [(0, 0)] r ∧ dkN [(-2147483648, -1)] p0 ∧ p0.toInt + 1 ≤ (0 : Int) ∧ r = 0 ∧ True) ∨ (dkN [(0, 0)] r ∧ dkN [(0, 2147483647)] p0 ∧ (0 : Int) + 0 ≤ p0.toInt ∧ (I0 25 4).toInt + 0 ≤ p0.toInt ∧ r = 0 ∧ True) ∨ (dkN [(1, 1)] r ∧ dkN [(0, 4)] p0 ∧ dkN [(1, 5)] (I1 25 4) ∧ (0 : Int) + 0 ≤ p0.toInt ∧ p0.toInt + 1 ≤ (I0 25 4).toInt ∧ r = 1 ∧ True)))) 0 0 (dkA z) := by
  refine Met.ofW (cc := cX5_isPerson) (maxL := 2) (ret := (some .boolean)) (by decide) rfl ?_
  intro p e s m args below meth c s₁ B hml hv
  obtain ⟨ha, hW, hK, hT⟩ := hv
  have hx := B.exec
  have hb := B.bytes
  have hr := B.returns
  have hts := atoms_spec (ws := wsX5_isPerson) B.pre
  have hown : s.vm.findClass RX5 = some m.cls := findClass_of_methodNamed B.named
  have hlocks := B.notSynchronized
  have hS : va_S (dkA z) s.heap s.heap [] := va_S.rf
  have hF : dkF [] I0 I0 := dkF_rf _ _
  have hl := lv_entry ([.ref (z + 0), .int p0]) (n := 2) (Nat.le_of_ble_eq_true rfl)
  have hgo : entryFrame m args 2 = entryFrame m ([.ref (z + 0), .int p0] : List Value).toArray 2 := by rw [ha]
  rw [hgo, lg_entry_eq]
  generalize (lg_sl ([.ref (z + 0), .int p0]) ++ List.replicate (2 - (lg_sl ([.ref (z + 0), .int p0])).length) Slot.unset).toArray = ls at hl ⊢
  have hl : lv_has ls 2 [(0, .ref (z + 0)), (1, .int p0)] := hl
  refine lv_iload_n hx hb dX5_isPerson_0 rfl (lv_at hl 1 rfl) ?_
  refine lv_if_lt (tgt := 19) hx hb dX5_isPerson_1 (by decide) (fun c1 => ?_) (fun c1 => ?_)
  ·
    have q2 : p0.toInt + 1 ≤ (0 : Int) := (dkc_lt c1)
    have d3 : dkN [(-2147483648, -1)] p0 := dkN_le1 1 (dkN_top p0) (dkN_lit (x := 0) (0) rfl) (dkc_lt c1) rfl
    refine lv_iconst (v := 0) hx hb dX5_isPerson_19 (by decide) ?_
    exact W.zret (v := 0) (ty := .boolean) hx hb hr rfl (fun t ht hW9 => ⟨⟨0, I0, rfl, ⟨hF, hO, Or.inl ⟨dkN_sub (dkN_lit (x := 0) (0) rfl) rfl, dkN_sub d3 rfl, q2, rfl, trivial⟩⟩, dkW_eq ht hW⟩, hS.F ht⟩) hS.2.2 dX5_isPerson_20
  ·
    have q4 : (0 : Int) + 0 ≤ p0.toInt := (dkc_nlt c1)
    have d5 : dkN [(0, 2147483647)] p0 := dkN_le2 0 (dkN_lit (x := 0) (0) rfl) (dkN_top p0) (dkc_nlt c1) rfl
    refine lv_iload_n hx hb dX5_isPerson_4 rfl (lv_at hl 1 rfl) ?_
    refine lv_aload_n hx hb dX5_isPerson_5 rfl (lv_at hl 0 rfl) ?_
    refine dk_get (k := 0) hx hb hts iX5_isPerson_5 hown hK (dk_at0 hW) rfl 5 (by decide) (hts (.fieldLink RX5 31 "DogKings" "now" "LDogKings$Town;") (List.mem_of_getElem? (i := 1) rfl)) rfl dX5_isPerson_6 ?_
    refine dk_get (k := 25) hx hb hts iX5_isPerson_4 hown hK (dk_at25 hW) rfl 4 (by decide) (hts (.fieldLink RX5 277 "DogKings$Town" "people" "I") (List.mem_of_getElem? (i := 2) rfl)) rfl dX5_isPerson_9 ?_
    refine lv_topi (fun v6 ev6 => ?_)
    have dv6 : dkN [(0, 5)] v6 := by rw [ev6]; exact (hO 25 4)
    have xv6 : v6 = I0 25 4 := ev6.trans rfl
    refine lv_icmp_ge (tgt := 19) hx hb dX5_isPerson_12 (by decide) (fun c7 => ?_) (fun c7 => ?_)
    ·
      have q8 : (I0 25 4).toInt + 0 ≤ p0.toInt := by first | (rw [← xv6]; exact (dkc_le c7)) | (subst xv6; exact (dkc_le c7))
      refine lv_iconst (v := 0) hx hb dX5_isPerson_19 (by decide) ?_
      exact W.zret (v := 0) (ty := .boolean) hx hb hr rfl (fun t ht hW9 => ⟨⟨0, I0, rfl, ⟨hF, hO, Or.inr (Or.inl ⟨dkN_sub (dkN_lit (x := 0) (0) rfl) rfl, dkN_sub d5 rfl, q4, q8, rfl, trivial⟩)⟩, dkW_eq ht hW⟩, hS.F ht⟩) hS.2.2 dX5_isPerson_20
    ·
      have q9 : p0.toInt + 1 ≤ (I0 25 4).toInt := by first | (rw [← xv6]; exact (dkc_nle c7)) | (subst xv6; exact (dkc_nle c7))
      have d10 : dkN [(1, 5)] v6 := dkN_le2 1 d5 dv6 (dkc_nle c7) rfl
      have f11 : dkN [(1, 5)] (I0 25 4) := by rw [← ev6]; exact d10
      have d12 : dkN [(0, 4)] p0 := dkN_le1 1 d5 dv6 (dkc_nle c7) rfl
      refine lv_iconst (v := 1) hx hb dX5_isPerson_15 (by decide) ?_
      refine lv_goto (tgt := 20) hx hb dX5_isPerson_16 (by decide) ?_
      exact W.zret (v := 1) (ty := .boolean) hx hb hr rfl (fun t ht hW9 => ⟨⟨1, I0, rfl, ⟨hF, hO, Or.inr (Or.inr (⟨dkN_sub (dkN_lit (x := 1) (1) rfl) rfl, dkN_sub d12 rfl, (show dkN [(1, 5)] (I0 25 4) from dkN_sub f11 rfl), q4, q9, rfl, trivial⟩))⟩, dkW_eq ht hW⟩, hS.F ht⟩) hS.2.2 dX5_isPerson_20
set_option maxHeartbeats 4000000 in
set_option maxRecDepth 100000 in
theorem c_X3_leastOf_4 (l : Launch) (g : dkG) (z : Nat) (I0 : dkI) (p0 : Int32) (dp0 : dkN [(3, 3)] p0)  (hO : dkOk I0) : Met l yX3_leastOf wsX3_leastOf (dkR 0) (dkPc g z [.int p0] I0) (dkQi g z (fun r I1 => dkF [] I0 I1 ∧ dkOk I1 ∧ ((dkN [(0, 0)] r ∧ True)))) 0 0 (dkA z) := by
  refine Met.ofW (cc := cX3_leastOf) (maxL := 1) (ret := (some .int)) (by decide) rfl ?_
  intro p e s m args below meth c s₁ B hml hv
  obtain ⟨ha, hW, hK, hT⟩ := hv
  have hx := B.exec
  have hb := B.bytes
  have hr := B.returns
  have hts := atoms_spec (ws := wsX3_leastOf) B.pre
  have hown : s.vm.findClass RX3 = some m.cls := findClass_of_methodNamed B.named
  have hlocks := B.notSynchronized
  have hS : va_S (dkA z) s.heap s.heap [] := va_S.rf
  have hF : dkF [] I0 I0 := dkF_rf _ _
  have hl := lv_entry ([.int p0]) (n := 1) (Nat.le_of_ble_eq_true rfl)
  have hgo : entryFrame m args 1 = entryFrame m ([.int p0] : List Value).toArray 1 := by rw [ha]
  rw [hgo, lg_entry_eq]
  generalize (lg_sl ([.int p0]) ++ List.replicate (1 - (lg_sl ([.int p0])).length) Slot.unset).toArray = ls at hl ⊢
  have hl : lv_has ls 1 [(0, .int p0)] := hl
  refine lv_iload_n hx hb dX3_leastOf_0 rfl (lv_at hl 0 rfl) ?_
  refine lv_if_ne (tgt := 8) hx hb dX3_leastOf_1 (by decide) (fun c1 => ?_) (fun c1 => ?_)
  ·
    refine lv_iconst (v := 0) hx hb dX3_leastOf_8 (by decide) ?_
    exact W.iret (v := 0) hx hb hr (fun t ht hW9 => ⟨⟨0, I0, rfl, ⟨hF, hO, ⟨dkN_sub (dkN_lit (x := 0) (0) rfl) rfl, trivial⟩⟩, dkW_eq ht hW⟩, hS.F ht⟩) hS.2.2 dX3_leastOf_9
  ·
    exact (dkN_nil (show dkN [] p0 from dkN_eq1 dp0 (dkN_lit (x := 0) (0) rfl) (congrArg Int32.toInt c1) rfl)).elim
set_option maxHeartbeats 4000000 in
set_option maxRecDepth 100000 in
theorem c_X3_mostOf_4 (l : Launch) (g : dkG) (z : Nat) (I0 : dkI) (p0 : Int32) (dp0 : dkN [(3, 3)] p0)  (hO : dkOk I0) : Met l yX3_mostOf wsX3_mostOf (dkR 0) (dkPc g z [.ref (z + 325), .int p0] I0) (dkQi g z (fun r I1 => dkF [] I0 I1 ∧ dkOk I1 ∧ ((dkN [(2, 2)] r ∧ True)))) 0 0 (dkA z) := by
  refine Met.ofW (cc := cX3_mostOf) (maxL := 2) (ret := (some .int)) (by decide) rfl ?_
  intro p e s m args below meth c s₁ B hml hv
  obtain ⟨ha, hW, hK, hT⟩ := hv
  have hx := B.exec
  have hb := B.bytes
  have hr := B.returns
  have hts := atoms_spec (ws := wsX3_mostOf) B.pre
  have hown : s.vm.findClass RX3 = some m.cls := findClass_of_methodNamed B.named
  have hlocks := B.notSynchronized
  have hS : va_S (dkA z) s.heap s.heap [] := va_S.rf
  have hF : dkF [] I0 I0 := dkF_rf _ _
  have hl := lv_entry ([.ref (z + 325), .int p0]) (n := 2) (Nat.le_of_ble_eq_true rfl)
  have hgo : entryFrame m args 2 = entryFrame m ([.ref (z + 325), .int p0] : List Value).toArray 2 := by rw [ha]
  rw [hgo, lg_entry_eq]
  generalize (lg_sl ([.ref (z + 325), .int p0]) ++ List.replicate (2 - (lg_sl ([.ref (z + 325), .int p0])).length) Slot.unset).toArray = ls at hl ⊢
  have hl : lv_has ls 2 [(0, .ref (z + 325)), (1, .int p0)] := hl
  refine lv_iload_n hx hb dX3_mostOf_0 rfl (lv_at hl 1 rfl) ?_
  refine lv_tableOut (tgt := 43) hx hb dX3_mostOf_1 (dkN_out dp0 rfl) (by decide) ?_
  refine lv_iconst (v := 2) hx hb dX3_mostOf_43 (by decide) ?_
  exact W.iret (v := 2) hx hb hr (fun t ht hW9 => ⟨⟨2, I0, rfl, ⟨hF, hO, ⟨dkN_sub (dkN_lit (x := 2) (2) rfl) rfl, trivial⟩⟩, dkW_eq ht hW⟩, hS.F ht⟩) hS.2.2 dX3_mostOf_44
set_option maxHeartbeats 4000000 in
set_option maxRecDepth 100000 in
theorem c_X3_guesses_4 (l : Launch) (g : dkG) (z : Nat) (I0 : dkI) (r0 : Nat) (hr0 : 2 ≤ r0 ∧ r0 < 10) (p0 : Int32) (p1 : Int32) (p2 : Int32) (p3 : Int32) (p4 : Int32) (dp0 : dkN [(3, 3)] p0) (dp1 : dkN [(0, 4)] p1) (dp2 : dkN [(0, 5)] p2) (dp3 : dkN [(0, 39)] p3) (dp4 : dkN [(1, 12)] p4)  (hO : dkOk I0) : Met l yX3_guesses wsX3_guesses (dkR 6) (dkPc g z [.ref (z + 325), .int p0, .int p1, .int p2, .ref (z + r0), .int p3, .int p4] I0) (dkQi g z (fun r I1 => dkF [(326, 326, 0, 4), (326, 326, 11, 11), (326, 326, 15, 17), (327, 327, 0, 4), (328, 328, 0, 4), (329, 329, 0, 4), (330, 330, 0, 4), (331, 331, 0, 4), (332, 332, 0, 4), (333, 333, 0, 5), (334, 334, 0, 5), (335, 335, 0, 5), (336, 336, 0, 8)] I0 I1 ∧ dkOk I1 ∧ ((True ∧ True)))) 0 0 (dkA z) := by
  refine Met.ofW (cc := cX3_guesses) (maxL := 9) (ret := (some .int)) (by decide) rfl ?_
  intro p e s m args below meth c s₁ B hml hv
  obtain ⟨ha, hW, hK, hT⟩ := hv
  have hx := B.exec
  have hb := B.bytes
  have hr := B.returns
  have hts := atoms_spec (ws := wsX3_guesses) B.pre
  have hown : s.vm.findClass RX3 = some m.cls := findClass_of_methodNamed B.named
  have hlocks := B.notSynchronized
  have hS : va_S (dkA z) s.heap s.heap [] := va_S.rf
  have hF : dkF [(326, 326, 0, 4), (326, 326, 11, 11), (326, 326, 15, 17), (327, 327, 0, 4), (328, 328, 0, 4), (329, 329, 0, 4), (330, 330, 0, 4), (331, 331, 0, 4), (332, 332, 0, 4), (333, 333, 0, 5), (334, 334, 0, 5), (335, 335, 0, 5), (336, 336, 0, 8)] I0 I0 := dkF_rf _ _
  have hl := lv_entry ([.ref (z + 325), .int p0, .int p1, .int p2, .ref (z + r0), .int p3, .int p4]) (n := 9) (Nat.le_of_ble_eq_true rfl)
  have hgo : entryFrame m args 9 = entryFrame m ([.ref (z + 325), .int p0, .int p1, .int p2, .ref (z + r0), .int p3, .int p4] : List Value).toArray 9 := by rw [ha]
  rw [hgo, lg_entry_eq]
  generalize (lg_sl ([.ref (z + 325), .int p0, .int p1, .int p2, .ref (z + r0), .int p3, .int p4]) ++ List.replicate (9 - (lg_sl ([.ref (z + 325), .int p0, .int p1, .int p2, .ref (z + r0), .int p3, .int p4])).length) Slot.unset).toArray = ls at hl ⊢
  have hl : lv_has ls 9 [(0, .ref (z + 325)), (1, .int p0), (2, .int p1), (3, .int p2), (4, .ref (z + r0)), (5, .int p3), (6, .int p4)] := hl
  have C9 : ∀ (n : Nat), ∀ (I : dkI) (H : Heap) (locs : List Loc) (ls : Array Slot) (x9_7 : Int32) (x9_8 : Int32), (3 - x9_8.toInt).toNat < n → dkW g z I H → va_S (dkA z) s.heap H locs → dkF [(326, 326, 0, 4), (326, 326, 11, 11), (326, 326, 15, 17), (327, 327, 0, 4), (328, 328, 0, 4), (329, 329, 0, 4), (330, 330, 0, 4), (331, 331, 0, 4), (332, 332, 0, 4), (333, 333, 0, 5), (334, 334, 0, 5), (335, 335, 0, 5), (336, 336, 0, 8)] I0 I → dkOk I → dkN [(0, 3)] x9_8 → lv_has ls 9 [(0, .ref (z + 325)), (1, .int p0), (2, .int p1), (3, .int p2), (4, .ref (z + r0)), (5, .int p3), (6, .int p4), (7, .int x9_7), (8, .int x9_8)] → W p l e (headSpec wsX3_guesses (dkR 6)).room s m args below meth c H locs 0 0 (MQ below (dkQi g z (fun r I1 => dkF [(326, 326, 0, 4), (326, 326, 11, 11), (326, 326, 15, 17), (327, 327, 0, 4), (328, 328, 0, 4), (329, 329, 0, 4), (330, 330, 0, 4), (331, 331, 0, 4), (332, 332, 0, 4), (333, 333, 0, 5), (334, 334, 0, 5), (335, 335, 0, 5), (336, 336, 0, 8)] I0 I1 ∧ dkOk I1 ∧ ((True ∧ True)))) args s 0 0 (dkA z)) (F0 m 9 ls []) := by
    intro n
    induction n with
    | zero => intro I H locs ls x9_7 x9_8 hn; exact absurd hn (Nat.not_lt_zero _)
    | succ n ih9 =>
      intro I9_ H locs ls x9_7 x9_8 hn9 hW hS hF_9 hO k9_1 hl
      have hF := hF_9
      have C64 : ∀ (I : dkI) (H : Heap) (locs : List Loc) (ls : Array Slot) (x64_7 : Int32), dkW g z I H → va_S (dkA z) s.heap H locs → dkF [(326, 326, 0, 4), (326, 326, 11, 11), (326, 326, 15, 17), (327, 327, 0, 4), (328, 328, 0, 4), (329, 329, 0, 4), (330, 330, 0, 4), (331, 331, 0, 4), (332, 332, 0, 4), (333, 333, 0, 5), (334, 334, 0, 5), (335, 335, 0, 5), (336, 336, 0, 8)] I0 I → dkOk I → dkN [(0, 2)] x9_8 → lv_has ls 9 [(0, .ref (z + 325)), (1, .int p0), (2, .int p1), (3, .int p2), (4, .ref (z + r0)), (5, .int p3), (6, .int p4), (7, .int x64_7), (8, .int x9_8)] → W p l e (headSpec wsX3_guesses (dkR 6)).room s m args below meth c H locs 0 0 (MQ below (dkQi g z (fun r I1 => dkF [(326, 326, 0, 4), (326, 326, 11, 11), (326, 326, 15, 17), (327, 327, 0, 4), (328, 328, 0, 4), (329, 329, 0, 4), (330, 330, 0, 4), (331, 331, 0, 4), (332, 332, 0, 4), (333, 333, 0, 5), (334, 334, 0, 5), (335, 335, 0, 5), (336, 336, 0, 8)] I0 I1 ∧ dkOk I1 ∧ ((True ∧ True)))) args s 0 0 (dkA z)) (F0 m 64 ls []) := by
        intro I64_ H locs ls x64_7 hW hS hF_64 hO r64_0 hl
        have hF := hF_64
        obtain ⟨v1, ev1⟩ : ∃ y : Int32, y = x9_8 + 1 := ⟨_, rfl⟩
        have dv1 : dkN [(1, 3)] v1 := by rw [ev1]; exact dkN_add r64_0 (dkN_lit (x := 1) (1) rfl) rfl
        refine lv_iinc (v := v1) (lv' := [(8, .int v1), (0, .ref (z + 325)), (1, .int p0), (2, .int p1), (3, .int p2), (4, .ref (z + r0)), (5, .int p3), (6, .int p4), (7, .int x64_7)]) hx hb dX3_guesses_64 hl (k := 8) rfl (by rw [ev1]; rfl) (by decide) rfl (fun ls hl => ?_)
        refine lv_goto (tgt := 9) hx hb dX3_guesses_67 (by decide) ?_
        exact ih9 I64_ _ _ ls x64_7 v1 (dk_near hn9 (by rw [ev1]; exact dk_inc r64_0 rfl) (dkN_lt r64_0 rfl)) hW hS hF hO (dkN_sub dv1 rfl) (lv_sub hl [1, 2, 3, 4, 5, 6, 7, 8, 0] rfl)
      refine lv_iload hx hb dX3_guesses_9 (lv_at hl 8 rfl) ?_
      refine lv_aload_n hx hb dX3_guesses_11 rfl (lv_at hl 0 rfl) ?_
      refine lv_iload_n hx hb dX3_guesses_12 rfl (lv_at hl 1 rfl) ?_
      refine dk_Vi (As := [.int p0]) (rest := [.int x9_8]) ⟨hx, hb, hml, hown, hts⟩ (c_X3_mostOf_4 l g z I9_ p0 dp0 hO) (cwV 1 hts gX3_guesses_X3_mostOf rfl rfl rfl (by decide +kernel) ⟨Nat.le_of_ble_eq_true rfl, Nat.le_of_ble_eq_true rfl⟩) (dk_at325 hW) rfl hK hT hW hS rfl hl.1 rfl (Nat.le_of_ble_eq_true rfl) dX3_guesses_13 ⟨Nat.zero_le _, Nat.zero_le _⟩ (fun v2 I2 H2 L2 hp2 hW hS => ?_)
      obtain ⟨hF2, hO, hc2⟩ := hp2
      have hF := dkF_call hF hF2 rfl
      obtain ⟨dv2, -⟩ := hc2
      refine lv_icmp_gt (tgt := 70) hx hb dX3_guesses_16 (by decide) (fun c3 => ?_) (fun c3 => ?_)
      ·
        have d4 : dkN [(3, 3)] x9_8 := dkN_le2 1 dv2 k9_1 (dkc_lt c3) rfl
        refine lv_iload hx hb dX3_guesses_70 (lv_at hl 7 rfl) ?_
        exact W.iret (v := x9_7) hx hb hr (fun t ht hW9 => ⟨⟨x9_7, I2, rfl, ⟨hF, hO, ⟨trivial, trivial⟩⟩, dkW_eq ht hW⟩, hS.F ht⟩) hS.2.2 dX3_guesses_72
      ·
        have d5 : dkN [(0, 2)] x9_8 := dkN_le1 0 k9_1 dv2 (dkc_nlt c3) rfl
        refine lv_aload_n hx hb dX3_guesses_19 rfl (lv_at hl 0 rfl) ?_
        refine dk_get (k := 325) hx hb hts iX3_guesses_3 hown hK (dk_at325 hW) rfl 1 (by decide) (hts (.fieldLink RX3 12 "DogKings$Seer" "then" "LDogKings$Town;") (List.mem_of_getElem? (i := 1) rfl)) rfl dX3_guesses_20 ?_
        refine lv_aload_n hx hb dX3_guesses_23 rfl (lv_at hl 0 rfl) ?_
        refine dk_get (k := 325) hx hb hts iX3_guesses_3 hown hK (dk_at325 hW) rfl 0 (by decide) (hts (.fieldLink RX3 22 "DogKings$Seer" "now" "LDogKings$Town;") (List.mem_of_getElem? (i := 2) rfl)) rfl dX3_guesses_24 ?_
        refine dk_Vv (As := [.ref (z + 25)]) (rest := []) ⟨hx, hb, hml, hown, hts⟩ (c_X4_become_0 l g z I2 (326) (by unfold dkT; omega) (25) (by unfold dkT; omega) hO) (cwV 1 hts gX3_guesses_X4_become rfl rfl rfl (by decide +kernel) ⟨Nat.le_of_ble_eq_true rfl, Nat.le_of_ble_eq_true rfl⟩) (dk_at326 hW) rfl hK hT hW hS rfl hl.1 rfl (Nat.le_of_ble_eq_true rfl) dX3_guesses_27 ⟨Nat.zero_le _, Nat.zero_le _⟩ (fun I6 H6 L6 hp6 hW hS => ?_)
        obtain ⟨hF6, hO, hc6⟩ := hp6
        have hF := dkF_call hF hF6 rfl
        refine lv_aload_n hx hb dX3_guesses_30 rfl (lv_at hl 0 rfl) ?_
        refine dk_get (k := 325) hx hb hts iX3_guesses_3 hown hK (dk_at325 hW) rfl 1 (by decide) (hts (.fieldLink RX3 12 "DogKings$Seer" "then" "LDogKings$Town;") (List.mem_of_getElem? (i := 1) rfl)) rfl dX3_guesses_31 ?_
        refine lv_iload_n hx hb dX3_guesses_34 rfl (lv_at hl 1 rfl) ?_
        refine lv_iload_n hx hb dX3_guesses_35 rfl (lv_at hl 2 rfl) ?_
        refine lv_iload hx hb dX3_guesses_36 (lv_at hl 8 rfl) ?_
        refine dk_Vv (As := [.int p0, .int p1, .int x9_8]) (rest := []) ⟨hx, hb, hml, hown, hts⟩ (c_X4_take_1 l g z I6 (326) (by unfold dkT; omega) p0 p1 x9_8 dp0 dp1 (dkN_sub d5 rfl) hO) (cwV 3 hts gX3_guesses_X4_take rfl rfl rfl (by decide +kernel) ⟨Nat.le_of_ble_eq_true rfl, Nat.le_of_ble_eq_true rfl⟩) (dk_at326 hW) rfl hK hT hW hS rfl hl.1 rfl (Nat.le_of_ble_eq_true rfl) dX3_guesses_38 ⟨Nat.zero_le _, Nat.zero_le _⟩ (fun I7 H7 L7 hp7 hW hS => ?_)
        obtain ⟨hF7, hO, hc7⟩ := hp7
        have hF := dkF_call hF hF7 rfl
        refine lv_aload_n hx hb dX3_guesses_41 rfl (lv_at hl 0 rfl) ?_
        refine lv_iload_n hx hb dX3_guesses_42 rfl (lv_at hl 3 rfl) ?_
        refine lv_aload hx hb dX3_guesses_43 (lv_at hl 4 rfl) ?_
        refine lv_iload hx hb dX3_guesses_45 (lv_at hl 5 rfl) ?_
        refine lv_iload hx hb dX3_guesses_47 (lv_at hl 6 rfl) ?_
        refine dk_Vi (As := [.int p2, .ref (z + r0), .int p3, .int p4]) (rest := []) ⟨hx, hb, hml, hown, hts⟩ (c_X3_goesAsTold_0 l g z I7 r0 hr0 p2 p3 p4 dp2 dp3 dp4 hO) (cwV 4 hts gX3_guesses_X3_goesAsTold rfl rfl rfl (by decide +kernel) ⟨Nat.le_of_ble_eq_true rfl, Nat.le_of_ble_eq_true rfl⟩) (dk_at325 hW) rfl hK hT hW hS rfl hl.1 rfl (Nat.le_of_ble_eq_true rfl) dX3_guesses_49 ⟨Nat.zero_le _, Nat.zero_le _⟩ (fun v8 I8 H8 L8 hp8 hW hS => ?_)
        obtain ⟨hF8, hO, hc8⟩ := hp8
        have hF := dkF_call hF hF8 rfl
        rcases hc8 with ⟨dv8, f8_326_3, -⟩ | hc8
        ·
          refine lv_if_eq (tgt := 64) hx hb dX3_guesses_52 (by decide) (fun c9 => ?_) (fun c9 => ?_)
          ·
            exact C64 I8 _ _ ls x9_7 hW hS hF hO (dkN_sub d5 rfl) (lv_sub hl [0, 1, 2, 3, 4, 5, 6, 7, 8] rfl)
          ·
            exact (dkN_nil (show dkN [] v8 from dkN_ne1 (0) dv8 (dkN_lit (x := 0) (0) rfl) (dk_ne c9) rfl)).elim
        ·
          obtain ⟨dv8, -⟩ := hc8
          refine lv_if_eq (tgt := 64) hx hb dX3_guesses_52 (by decide) (fun c10 => ?_) (fun c10 => ?_)
          ·
            exact (dkN_nil (show dkN [] v8 from dkN_eq1 dv8 (dkN_lit (x := 0) (0) rfl) (congrArg Int32.toInt c10) rfl)).elim
          ·
            refine lv_iload hx hb dX3_guesses_55 (lv_at hl 7 rfl) ?_
            refine lv_iconst (v := 1) hx hb dX3_guesses_57 (by decide) ?_
            refine lv_iload hx hb dX3_guesses_58 (lv_at hl 8 rfl) ?_
            refine lv_ishl hx hb dX3_guesses_60 ?_
            refine lv_topi (fun v11 ev11 => ?_)
            have dv11 : dkN [(1, 4)] v11 := by rw [ev11]; exact dkN_shl1 0 2 (by decide) d5 rfl
            refine lv_ior hx hb dX3_guesses_61 ?_
            refine lv_topi (fun v12 ev12 => ?_)
            refine lv_istore (lv' := [(7, .int v12), (0, .ref (z + 325)), (1, .int p0), (2, .int p1), (3, .int p2), (4, .ref (z + r0)), (5, .int p3), (6, .int p4), (8, .int x9_8)]) hx hb dX3_guesses_62 hl (by decide) rfl (fun ls hl => ?_)
            exact C64 I8 _ _ ls v12 hW hS hF hO (dkN_sub d5 rfl) (lv_sub hl [1, 2, 3, 4, 5, 6, 7, 0, 8] rfl)
  refine lv_iconst (v := 0) hx hb dX3_guesses_0 (by decide) ?_
  refine lv_istore (lv' := [(7, .int 0), (0, .ref (z + 325)), (1, .int p0), (2, .int p1), (3, .int p2), (4, .ref (z + r0)), (5, .int p3), (6, .int p4)]) hx hb dX3_guesses_1 hl (by decide) rfl (fun ls hl => ?_)
  refine lv_iload_n hx hb dX3_guesses_3 rfl (lv_at hl 2 rfl) ?_
  refine dk_Si (As := [.int p0]) (rest := []) ⟨hx, hb, hml, hown, hts⟩ (c_X3_leastOf_4 l g z I0 p0 dp0 hO) (va_cwS 1 hts gX3_guesses_X3_leastOf rfl rfl rfl (by decide +kernel) ⟨Nat.le_of_ble_eq_true rfl, Nat.le_of_ble_eq_true rfl⟩) hK hT hW hS rfl hl.1 rfl (Nat.le_of_ble_eq_true rfl) dX3_guesses_4 ⟨Nat.zero_le _, Nat.zero_le _⟩ (fun v13 I13 H13 L13 hp13 hW hS => ?_)
  obtain ⟨hF13, hO, hc13⟩ := hp13
  have hF := dkF_call hF hF13 rfl
  obtain ⟨dv13, -⟩ := hc13
  refine lv_istore (lv' := [(8, .int v13), (7, .int 0), (0, .ref (z + 325)), (1, .int p0), (2, .int p1), (3, .int p2), (4, .ref (z + r0)), (5, .int p3), (6, .int p4)]) hx hb dX3_guesses_7 hl (by decide) rfl (fun ls hl => ?_)
  exact C9 _ I13 _ _ ls 0 v13 (Nat.lt_succ_self _) hW hS hF hO (dkN_sub dv13 rfl) (lv_sub hl [2, 3, 4, 5, 6, 7, 8, 1, 0] rfl)
set_option maxHeartbeats 4000000 in
set_option maxRecDepth 100000 in
theorem c_X3_leastOf_5 (l : Launch) (g : dkG) (z : Nat) (I0 : dkI) (p0 : Int32) (dp0 : dkN [(2, 2)] p0)  (hO : dkOk I0) : Met l yX3_leastOf wsX3_leastOf (dkR 0) (dkPc g z [.int p0] I0) (dkQi g z (fun r I1 => dkF [] I0 I1 ∧ dkOk I1 ∧ ((dkN [(0, 0)] r ∧ True)))) 0 0 (dkA z) := by
  refine Met.ofW (cc := cX3_leastOf) (maxL := 1) (ret := (some .int)) (by decide) rfl ?_
  intro p e s m args below meth c s₁ B hml hv
  obtain ⟨ha, hW, hK, hT⟩ := hv
  have hx := B.exec
  have hb := B.bytes
  have hr := B.returns
  have hts := atoms_spec (ws := wsX3_leastOf) B.pre
  have hown : s.vm.findClass RX3 = some m.cls := findClass_of_methodNamed B.named
  have hlocks := B.notSynchronized
  have hS : va_S (dkA z) s.heap s.heap [] := va_S.rf
  have hF : dkF [] I0 I0 := dkF_rf _ _
  have hl := lv_entry ([.int p0]) (n := 1) (Nat.le_of_ble_eq_true rfl)
  have hgo : entryFrame m args 1 = entryFrame m ([.int p0] : List Value).toArray 1 := by rw [ha]
  rw [hgo, lg_entry_eq]
  generalize (lg_sl ([.int p0]) ++ List.replicate (1 - (lg_sl ([.int p0])).length) Slot.unset).toArray = ls at hl ⊢
  have hl : lv_has ls 1 [(0, .int p0)] := hl
  refine lv_iload_n hx hb dX3_leastOf_0 rfl (lv_at hl 0 rfl) ?_
  refine lv_if_ne (tgt := 8) hx hb dX3_leastOf_1 (by decide) (fun c1 => ?_) (fun c1 => ?_)
  ·
    refine lv_iconst (v := 0) hx hb dX3_leastOf_8 (by decide) ?_
    exact W.iret (v := 0) hx hb hr (fun t ht hW9 => ⟨⟨0, I0, rfl, ⟨hF, hO, ⟨dkN_sub (dkN_lit (x := 0) (0) rfl) rfl, trivial⟩⟩, dkW_eq ht hW⟩, hS.F ht⟩) hS.2.2 dX3_leastOf_9
  ·
    exact (dkN_nil (show dkN [] p0 from dkN_eq1 dp0 (dkN_lit (x := 0) (0) rfl) (congrArg Int32.toInt c1) rfl)).elim
set_option maxHeartbeats 4000000 in
set_option maxRecDepth 100000 in
theorem c_X3_mostOf_5 (l : Launch) (g : dkG) (z : Nat) (I0 : dkI) (p0 : Int32) (dp0 : dkN [(2, 2)] p0)  (hO : dkOk I0) : Met l yX3_mostOf wsX3_mostOf (dkR 0) (dkPc g z [.ref (z + 325), .int p0] I0) (dkQi g z (fun r I1 => dkF [] I0 I1 ∧ dkOk I1 ∧ ((dkN [(9, 9)] r ∧ True)))) 0 0 (dkA z) := by
  refine Met.ofW (cc := cX3_mostOf) (maxL := 2) (ret := (some .int)) (by decide) rfl ?_
  intro p e s m args below meth c s₁ B hml hv
  obtain ⟨ha, hW, hK, hT⟩ := hv
  have hx := B.exec
  have hb := B.bytes
  have hr := B.returns
  have hts := atoms_spec (ws := wsX3_mostOf) B.pre
  have hown : s.vm.findClass RX3 = some m.cls := findClass_of_methodNamed B.named
  have hlocks := B.notSynchronized
  have hS : va_S (dkA z) s.heap s.heap [] := va_S.rf
  have hF : dkF [] I0 I0 := dkF_rf _ _
  have hl := lv_entry ([.ref (z + 325), .int p0]) (n := 2) (Nat.le_of_ble_eq_true rfl)
  have hgo : entryFrame m args 2 = entryFrame m ([.ref (z + 325), .int p0] : List Value).toArray 2 := by rw [ha]
  rw [hgo, lg_entry_eq]
  generalize (lg_sl ([.ref (z + 325), .int p0]) ++ List.replicate (2 - (lg_sl ([.ref (z + 325), .int p0])).length) Slot.unset).toArray = ls at hl ⊢
  have hl : lv_has ls 2 [(0, .ref (z + 325)), (1, .int p0)] := hl
  refine lv_iload_n hx hb dX3_mostOf_0 rfl (lv_at hl 1 rfl) ?_
  by_cases c1 : p0 = 2
  ·
    have qc1 : p0.toInt = 2 := by rw [c1]; rfl
    have d2 : dkN [(2, 2)] p0 := dkN_lit (2) qc1
    refine lv_tableIn (tgt := 40) hx hb dX3_mostOf_1 (by rw [qc1]; decide) (by rw [qc1]; decide) (by rw [qc1]; rfl) (by decide) ?_
    refine lv_bipush (v := 9) hx hb dX3_mostOf_40 (by decide) ?_
    exact W.iret (v := 9) hx hb hr (fun t ht hW9 => ⟨⟨9, I0, rfl, ⟨hF, hO, ⟨dkN_sub (dkN_lit (x := 9) (9) rfl) rfl, trivial⟩⟩, dkW_eq ht hW⟩, hS.F ht⟩) hS.2.2 dX3_mostOf_42
  ·
    exact (dkN_nil (show dkN [] p0 from dkN_ne1 (2) dp0 (dkN_lit (x := 2) (2) rfl) (dk_ne c1) rfl)).elim
set_option maxHeartbeats 4000000 in
set_option maxRecDepth 100000 in
theorem c_X3_guesses_5 (l : Launch) (g : dkG) (z : Nat) (I0 : dkI) (r0 : Nat) (hr0 : 2 ≤ r0 ∧ r0 < 10) (p0 : Int32) (p1 : Int32) (p2 : Int32) (p3 : Int32) (p4 : Int32) (dp0 : dkN [(2, 2)] p0) (dp1 : dkN [(0, 4)] p1) (dp2 : dkN [(0, 5)] p2) (dp3 : dkN [(0, 39)] p3) (dp4 : dkN [(1, 12)] p4)  (hO : dkOk I0) : Met l yX3_guesses wsX3_guesses (dkR 6) (dkPc g z [.ref (z + 325), .int p0, .int p1, .int p2, .ref (z + r0), .int p3, .int p4] I0) (dkQi g z (fun r I1 => dkF [(326, 326, 0, 4), (326, 326, 11, 11), (326, 326, 15, 17), (327, 327, 0, 4), (328, 328, 0, 4), (329, 329, 0, 4), (330, 330, 0, 4), (331, 331, 0, 4), (332, 332, 0, 4), (333, 333, 0, 5), (334, 334, 0, 5), (335, 335, 0, 5), (336, 336, 0, 8)] I0 I1 ∧ dkOk I1 ∧ ((True ∧ True)))) 0 0 (dkA z) := by
  refine Met.ofW (cc := cX3_guesses) (maxL := 9) (ret := (some .int)) (by decide) rfl ?_
  intro p e s m args below meth c s₁ B hml hv
  obtain ⟨ha, hW, hK, hT⟩ := hv
  have hx := B.exec
  have hb := B.bytes
  have hr := B.returns
  have hts := atoms_spec (ws := wsX3_guesses) B.pre
  have hown : s.vm.findClass RX3 = some m.cls := findClass_of_methodNamed B.named
  have hlocks := B.notSynchronized
  have hS : va_S (dkA z) s.heap s.heap [] := va_S.rf
  have hF : dkF [(326, 326, 0, 4), (326, 326, 11, 11), (326, 326, 15, 17), (327, 327, 0, 4), (328, 328, 0, 4), (329, 329, 0, 4), (330, 330, 0, 4), (331, 331, 0, 4), (332, 332, 0, 4), (333, 333, 0, 5), (334, 334, 0, 5), (335, 335, 0, 5), (336, 336, 0, 8)] I0 I0 := dkF_rf _ _
  have hl := lv_entry ([.ref (z + 325), .int p0, .int p1, .int p2, .ref (z + r0), .int p3, .int p4]) (n := 9) (Nat.le_of_ble_eq_true rfl)
  have hgo : entryFrame m args 9 = entryFrame m ([.ref (z + 325), .int p0, .int p1, .int p2, .ref (z + r0), .int p3, .int p4] : List Value).toArray 9 := by rw [ha]
  rw [hgo, lg_entry_eq]
  generalize (lg_sl ([.ref (z + 325), .int p0, .int p1, .int p2, .ref (z + r0), .int p3, .int p4]) ++ List.replicate (9 - (lg_sl ([.ref (z + 325), .int p0, .int p1, .int p2, .ref (z + r0), .int p3, .int p4])).length) Slot.unset).toArray = ls at hl ⊢
  have hl : lv_has ls 9 [(0, .ref (z + 325)), (1, .int p0), (2, .int p1), (3, .int p2), (4, .ref (z + r0)), (5, .int p3), (6, .int p4)] := hl
  have C9 : ∀ (n : Nat), ∀ (I : dkI) (H : Heap) (locs : List Loc) (ls : Array Slot) (x9_7 : Int32) (x9_8 : Int32), (10 - x9_8.toInt).toNat < n → dkW g z I H → va_S (dkA z) s.heap H locs → dkF [(326, 326, 0, 4), (326, 326, 11, 11), (326, 326, 15, 17), (327, 327, 0, 4), (328, 328, 0, 4), (329, 329, 0, 4), (330, 330, 0, 4), (331, 331, 0, 4), (332, 332, 0, 4), (333, 333, 0, 5), (334, 334, 0, 5), (335, 335, 0, 5), (336, 336, 0, 8)] I0 I → dkOk I → dkN [(0, 10)] x9_8 → lv_has ls 9 [(0, .ref (z + 325)), (1, .int p0), (2, .int p1), (3, .int p2), (4, .ref (z + r0)), (5, .int p3), (6, .int p4), (7, .int x9_7), (8, .int x9_8)] → W p l e (headSpec wsX3_guesses (dkR 6)).room s m args below meth c H locs 0 0 (MQ below (dkQi g z (fun r I1 => dkF [(326, 326, 0, 4), (326, 326, 11, 11), (326, 326, 15, 17), (327, 327, 0, 4), (328, 328, 0, 4), (329, 329, 0, 4), (330, 330, 0, 4), (331, 331, 0, 4), (332, 332, 0, 4), (333, 333, 0, 5), (334, 334, 0, 5), (335, 335, 0, 5), (336, 336, 0, 8)] I0 I1 ∧ dkOk I1 ∧ ((True ∧ True)))) args s 0 0 (dkA z)) (F0 m 9 ls []) := by
    intro n
    induction n with
    | zero => intro I H locs ls x9_7 x9_8 hn; exact absurd hn (Nat.not_lt_zero _)
    | succ n ih9 =>
      intro I9_ H locs ls x9_7 x9_8 hn9 hW hS hF_9 hO k9_1 hl
      have hF := hF_9
      have C64 : ∀ (I : dkI) (H : Heap) (locs : List Loc) (ls : Array Slot) (x64_7 : Int32), dkW g z I H → va_S (dkA z) s.heap H locs → dkF [(326, 326, 0, 4), (326, 326, 11, 11), (326, 326, 15, 17), (327, 327, 0, 4), (328, 328, 0, 4), (329, 329, 0, 4), (330, 330, 0, 4), (331, 331, 0, 4), (332, 332, 0, 4), (333, 333, 0, 5), (334, 334, 0, 5), (335, 335, 0, 5), (336, 336, 0, 8)] I0 I → dkOk I → dkN [(0, 9)] x9_8 → lv_has ls 9 [(0, .ref (z + 325)), (1, .int p0), (2, .int p1), (3, .int p2), (4, .ref (z + r0)), (5, .int p3), (6, .int p4), (7, .int x64_7), (8, .int x9_8)] → W p l e (headSpec wsX3_guesses (dkR 6)).room s m args below meth c H locs 0 0 (MQ below (dkQi g z (fun r I1 => dkF [(326, 326, 0, 4), (326, 326, 11, 11), (326, 326, 15, 17), (327, 327, 0, 4), (328, 328, 0, 4), (329, 329, 0, 4), (330, 330, 0, 4), (331, 331, 0, 4), (332, 332, 0, 4), (333, 333, 0, 5), (334, 334, 0, 5), (335, 335, 0, 5), (336, 336, 0, 8)] I0 I1 ∧ dkOk I1 ∧ ((True ∧ True)))) args s 0 0 (dkA z)) (F0 m 64 ls []) := by
        intro I64_ H locs ls x64_7 hW hS hF_64 hO r64_0 hl
        have hF := hF_64
        obtain ⟨v1, ev1⟩ : ∃ y : Int32, y = x9_8 + 1 := ⟨_, rfl⟩
        have dv1 : dkN [(1, 10)] v1 := by rw [ev1]; exact dkN_add r64_0 (dkN_lit (x := 1) (1) rfl) rfl
        refine lv_iinc (v := v1) (lv' := [(8, .int v1), (0, .ref (z + 325)), (1, .int p0), (2, .int p1), (3, .int p2), (4, .ref (z + r0)), (5, .int p3), (6, .int p4), (7, .int x64_7)]) hx hb dX3_guesses_64 hl (k := 8) rfl (by rw [ev1]; rfl) (by decide) rfl (fun ls hl => ?_)
        refine lv_goto (tgt := 9) hx hb dX3_guesses_67 (by decide) ?_
        exact ih9 I64_ _ _ ls x64_7 v1 (dk_near hn9 (by rw [ev1]; exact dk_inc r64_0 rfl) (dkN_lt r64_0 rfl)) hW hS hF hO (dkN_sub dv1 rfl) (lv_sub hl [1, 2, 3, 4, 5, 6, 7, 8, 0] rfl)
      refine lv_iload hx hb dX3_guesses_9 (lv_at hl 8 rfl) ?_
      refine lv_aload_n hx hb dX3_guesses_11 rfl (lv_at hl 0 rfl) ?_
      refine lv_iload_n hx hb dX3_guesses_12 rfl (lv_at hl 1 rfl) ?_
      refine dk_Vi (As := [.int p0]) (rest := [.int x9_8]) ⟨hx, hb, hml, hown, hts⟩ (c_X3_mostOf_5 l g z I9_ p0 dp0 hO) (cwV 1 hts gX3_guesses_X3_mostOf rfl rfl rfl (by decide +kernel) ⟨Nat.le_of_ble_eq_true rfl, Nat.le_of_ble_eq_true rfl⟩) (dk_at325 hW) rfl hK hT hW hS rfl hl.1 rfl (Nat.le_of_ble_eq_true rfl) dX3_guesses_13 ⟨Nat.zero_le _, Nat.zero_le _⟩ (fun v2 I2 H2 L2 hp2 hW hS => ?_)
      obtain ⟨hF2, hO, hc2⟩ := hp2
      have hF := dkF_call hF hF2 rfl
      obtain ⟨dv2, -⟩ := hc2
      refine lv_icmp_gt (tgt := 70) hx hb dX3_guesses_16 (by decide) (fun c3 => ?_) (fun c3 => ?_)
      ·
        have d4 : dkN [(10, 10)] x9_8 := dkN_le2 1 dv2 k9_1 (dkc_lt c3) rfl
        refine lv_iload hx hb dX3_guesses_70 (lv_at hl 7 rfl) ?_
        exact W.iret (v := x9_7) hx hb hr (fun t ht hW9 => ⟨⟨x9_7, I2, rfl, ⟨hF, hO, ⟨trivial, trivial⟩⟩, dkW_eq ht hW⟩, hS.F ht⟩) hS.2.2 dX3_guesses_72
      ·
        have d5 : dkN [(0, 9)] x9_8 := dkN_le1 0 k9_1 dv2 (dkc_nlt c3) rfl
        refine lv_aload_n hx hb dX3_guesses_19 rfl (lv_at hl 0 rfl) ?_
        refine dk_get (k := 325) hx hb hts iX3_guesses_3 hown hK (dk_at325 hW) rfl 1 (by decide) (hts (.fieldLink RX3 12 "DogKings$Seer" "then" "LDogKings$Town;") (List.mem_of_getElem? (i := 1) rfl)) rfl dX3_guesses_20 ?_
        refine lv_aload_n hx hb dX3_guesses_23 rfl (lv_at hl 0 rfl) ?_
        refine dk_get (k := 325) hx hb hts iX3_guesses_3 hown hK (dk_at325 hW) rfl 0 (by decide) (hts (.fieldLink RX3 22 "DogKings$Seer" "now" "LDogKings$Town;") (List.mem_of_getElem? (i := 2) rfl)) rfl dX3_guesses_24 ?_
        refine dk_Vv (As := [.ref (z + 25)]) (rest := []) ⟨hx, hb, hml, hown, hts⟩ (c_X4_become_0 l g z I2 (326) (by unfold dkT; omega) (25) (by unfold dkT; omega) hO) (cwV 1 hts gX3_guesses_X4_become rfl rfl rfl (by decide +kernel) ⟨Nat.le_of_ble_eq_true rfl, Nat.le_of_ble_eq_true rfl⟩) (dk_at326 hW) rfl hK hT hW hS rfl hl.1 rfl (Nat.le_of_ble_eq_true rfl) dX3_guesses_27 ⟨Nat.zero_le _, Nat.zero_le _⟩ (fun I6 H6 L6 hp6 hW hS => ?_)
        obtain ⟨hF6, hO, hc6⟩ := hp6
        have hF := dkF_call hF hF6 rfl
        refine lv_aload_n hx hb dX3_guesses_30 rfl (lv_at hl 0 rfl) ?_
        refine dk_get (k := 325) hx hb hts iX3_guesses_3 hown hK (dk_at325 hW) rfl 1 (by decide) (hts (.fieldLink RX3 12 "DogKings$Seer" "then" "LDogKings$Town;") (List.mem_of_getElem? (i := 1) rfl)) rfl dX3_guesses_31 ?_
        refine lv_iload_n hx hb dX3_guesses_34 rfl (lv_at hl 1 rfl) ?_
        refine lv_iload_n hx hb dX3_guesses_35 rfl (lv_at hl 2 rfl) ?_
        refine lv_iload hx hb dX3_guesses_36 (lv_at hl 8 rfl) ?_
        refine dk_Vv (As := [.int p0, .int p1, .int x9_8]) (rest := []) ⟨hx, hb, hml, hown, hts⟩ (c_X4_take_3 l g z I6 (326) (by unfold dkT; omega) p0 p1 x9_8 dp0 dp1 d5 hO) (cwV 3 hts gX3_guesses_X4_take rfl rfl rfl (by decide +kernel) ⟨Nat.le_of_ble_eq_true rfl, Nat.le_of_ble_eq_true rfl⟩) (dk_at326 hW) rfl hK hT hW hS rfl hl.1 rfl (Nat.le_of_ble_eq_true rfl) dX3_guesses_38 ⟨Nat.zero_le _, Nat.zero_le _⟩ (fun I7 H7 L7 hp7 hW hS => ?_)
        obtain ⟨hF7, hO, hc7⟩ := hp7
        have hF := dkF_call hF hF7 rfl
        refine lv_aload_n hx hb dX3_guesses_41 rfl (lv_at hl 0 rfl) ?_
        refine lv_iload_n hx hb dX3_guesses_42 rfl (lv_at hl 3 rfl) ?_
        refine lv_aload hx hb dX3_guesses_43 (lv_at hl 4 rfl) ?_
        refine lv_iload hx hb dX3_guesses_45 (lv_at hl 5 rfl) ?_
        refine lv_iload hx hb dX3_guesses_47 (lv_at hl 6 rfl) ?_
        refine dk_Vi (As := [.int p2, .ref (z + r0), .int p3, .int p4]) (rest := []) ⟨hx, hb, hml, hown, hts⟩ (c_X3_goesAsTold_0 l g z I7 r0 hr0 p2 p3 p4 dp2 dp3 dp4 hO) (cwV 4 hts gX3_guesses_X3_goesAsTold rfl rfl rfl (by decide +kernel) ⟨Nat.le_of_ble_eq_true rfl, Nat.le_of_ble_eq_true rfl⟩) (dk_at325 hW) rfl hK hT hW hS rfl hl.1 rfl (Nat.le_of_ble_eq_true rfl) dX3_guesses_49 ⟨Nat.zero_le _, Nat.zero_le _⟩ (fun v8 I8 H8 L8 hp8 hW hS => ?_)
        obtain ⟨hF8, hO, hc8⟩ := hp8
        have hF := dkF_call hF hF8 rfl
        rcases hc8 with ⟨dv8, f8_326_3, -⟩ | hc8
        ·
          refine lv_if_eq (tgt := 64) hx hb dX3_guesses_52 (by decide) (fun c9 => ?_) (fun c9 => ?_)
          ·
            exact C64 I8 _ _ ls x9_7 hW hS hF hO (dkN_sub d5 rfl) (lv_sub hl [0, 1, 2, 3, 4, 5, 6, 7, 8] rfl)
          ·
            exact (dkN_nil (show dkN [] v8 from dkN_ne1 (0) dv8 (dkN_lit (x := 0) (0) rfl) (dk_ne c9) rfl)).elim
        ·
          obtain ⟨dv8, -⟩ := hc8
          refine lv_if_eq (tgt := 64) hx hb dX3_guesses_52 (by decide) (fun c10 => ?_) (fun c10 => ?_)
          ·
            exact (dkN_nil (show dkN [] v8 from dkN_eq1 dv8 (dkN_lit (x := 0) (0) rfl) (congrArg Int32.toInt c10) rfl)).elim
          ·
            refine lv_iload hx hb dX3_guesses_55 (lv_at hl 7 rfl) ?_
            refine lv_iconst (v := 1) hx hb dX3_guesses_57 (by decide) ?_
            refine lv_iload hx hb dX3_guesses_58 (lv_at hl 8 rfl) ?_
            refine lv_ishl hx hb dX3_guesses_60 ?_
            refine lv_topi (fun v11 ev11 => ?_)
            have dv11 : dkN [(1, 512)] v11 := by rw [ev11]; exact dkN_shl1 0 9 (by decide) d5 rfl
            refine lv_ior hx hb dX3_guesses_61 ?_
            refine lv_topi (fun v12 ev12 => ?_)
            refine lv_istore (lv' := [(7, .int v12), (0, .ref (z + 325)), (1, .int p0), (2, .int p1), (3, .int p2), (4, .ref (z + r0)), (5, .int p3), (6, .int p4), (8, .int x9_8)]) hx hb dX3_guesses_62 hl (by decide) rfl (fun ls hl => ?_)
            exact C64 I8 _ _ ls v12 hW hS hF hO (dkN_sub d5 rfl) (lv_sub hl [1, 2, 3, 4, 5, 6, 7, 0, 8] rfl)
  refine lv_iconst (v := 0) hx hb dX3_guesses_0 (by decide) ?_
  refine lv_istore (lv' := [(7, .int 0), (0, .ref (z + 325)), (1, .int p0), (2, .int p1), (3, .int p2), (4, .ref (z + r0)), (5, .int p3), (6, .int p4)]) hx hb dX3_guesses_1 hl (by decide) rfl (fun ls hl => ?_)
  refine lv_iload_n hx hb dX3_guesses_3 rfl (lv_at hl 2 rfl) ?_
  refine dk_Si (As := [.int p0]) (rest := []) ⟨hx, hb, hml, hown, hts⟩ (c_X3_leastOf_5 l g z I0 p0 dp0 hO) (va_cwS 1 hts gX3_guesses_X3_leastOf rfl rfl rfl (by decide +kernel) ⟨Nat.le_of_ble_eq_true rfl, Nat.le_of_ble_eq_true rfl⟩) hK hT hW hS rfl hl.1 rfl (Nat.le_of_ble_eq_true rfl) dX3_guesses_4 ⟨Nat.zero_le _, Nat.zero_le _⟩ (fun v13 I13 H13 L13 hp13 hW hS => ?_)
  obtain ⟨hF13, hO, hc13⟩ := hp13
  have hF := dkF_call hF hF13 rfl
  obtain ⟨dv13, -⟩ := hc13
  refine lv_istore (lv' := [(8, .int v13), (7, .int 0), (0, .ref (z + 325)), (1, .int p0), (2, .int p1), (3, .int p2), (4, .ref (z + r0)), (5, .int p3), (6, .int p4)]) hx hb dX3_guesses_7 hl (by decide) rfl (fun ls hl => ?_)
  exact C9 _ I13 _ _ ls 0 v13 (Nat.lt_succ_self _) hW hS hF hO (dkN_sub dv13 rfl) (lv_sub hl [2, 3, 4, 5, 6, 7, 8, 1, 0] rfl)
