set_option maxHeartbeats 4000000 in
set_option maxRecDepth 100000 in
theorem fx_X5_as_1 (l : Launch) (g : dkG) (z : Nat) (I0 : dkI) (p0 : Int32) (p1 : Int32)  (hO : dkOk I0) : Met l yX5_as wsX5_as (dkR 1) (dkPc g z [.ref (z + 0), .int p0, .int p1] I0) (dkQi g z (fun r I1 => dkF [(0, 0, 3, 3)] I0 I1 ∧ dkOk I1 ∧ ((dkN [(-1000001, -1000001)] r ∧ dkN [(-2147483648, -1)] p0 ∧ p0.toInt + 1 ≤ (0 : Int) ∧ r = (-1000001) ∧ I1 0 3 = I0 0 3 ∧ True) ∨ (dkN [(-1000001, -1000001)] r ∧ dkN [(0, 2147483647)] p0 ∧ (0 : Int) + 0 ≤ p0.toInt ∧ (I0 25 11).toInt + 0 ≤ p0.toInt ∧ r = (-1000001) ∧ I1 0 3 = I0 0 3 ∧ True) ∨ (dkN [(-1000001, -1000001)] r ∧ dkN [(0, 5)] p0 ∧ dkN [(-2147483648, -1)] p1 ∧ dkN [(1, 6)] (I1 25 11) ∧ (0 : Int) + 0 ≤ p0.toInt ∧ p0.toInt + 1 ≤ (I0 25 11).toInt ∧ p1.toInt + 1 ≤ (0 : Int) ∧ r = (-1000001) ∧ I1 0 3 = I0 0 3 ∧ True) ∨ (dkN [(-1000001, -1000001)] r ∧ dkN [(0, 5)] p0 ∧ dkN [(6, 2147483647)] p1 ∧ dkN [(1, 6)] (I1 25 11) ∧ (0 : Int) + 0 ≤ p0.toInt ∧ p0.toInt + 1 ≤ (I0 25 11).toInt ∧ (0 : Int) + 0 ≤ p1.toInt ∧ (5 : Int) + 1 ≤ p1.toInt ∧ r = (-1000001) ∧ I1 0 3 = I0 0 3 ∧ True) ∨ (True ∧ dkN [(0, 5)] p0 ∧ dkN [(0, 0)] p1 ∧ dkN [(0, 0)] (I1 0 3) ∧ dkN [(1, 6)] (I1 25 11) ∧ (0 : Int) + 0 ≤ p0.toInt ∧ p0.toInt + 1 ≤ (I0 25 11).toInt ∧ (0 : Int) + 0 ≤ p1.toInt ∧ p1.toInt + 0 ≤ (5 : Int) ∧ p1.toInt = (0 : Int) ∧ r = p0 ∧ I1 0 3 = 0 ∧ True) ∨ (True ∧ dkN [(0, 5)] p0 ∧ dkN [(1, 1)] p1 ∧ dkN [(0, 0)] (I1 0 3) ∧ dkN [(1, 6)] (I1 25 11) ∧ (0 : Int) + 0 ≤ p0.toInt ∧ p0.toInt + 1 ≤ (I0 25 11).toInt ∧ (0 : Int) + 0 ≤ p1.toInt ∧ p1.toInt + 0 ≤ (5 : Int) ∧ p1.toInt ≠ (0 : Int) ∧ p1.toInt = (1 : Int) ∧ (I0 32 (Int32.toNatClampNeg p0)).toInt = (1 : Int) ∧ r = p0 ∧ I1 0 3 = 0 ∧ True) ∨ (True ∧ dkN [(0, 5)] p0 ∧ dkN [(1, 1)] p1 ∧ dkN [(0, 0)] (I1 0 3) ∧ dkN [(1, 6)] (I1 25 11) ∧ (0 : Int) + 0 ≤ p0.toInt ∧ p0.toInt + 1 ≤ (I0 25 11).toInt ∧ (0 : Int) + 0 ≤ p1.toInt ∧ p1.toInt + 0 ≤ (5 : Int) ∧ p1.toInt ≠ (0 : Int) ∧ p1.toInt = (1 : Int) ∧ (I0 32 (Int32.toNatClampNeg p0)).toInt ≠ (1 : Int) ∧ (I0 32 (Int32.toNatClampNeg p0)).toInt = (2 : Int) ∧ r = p0 ∧ I1 0 3 = 0 ∧ True) ∨ (dkN [(-1000013, -1000013)] r ∧ dkN [(0, 5)] p0 ∧ dkN [(1, 1)] p1 ∧ dkN [(3, 3)] (I1 0 3) ∧ dkN [(1, 6)] (I1 25 11) ∧ (0 : Int) + 0 ≤ p0.toInt ∧ p0.toInt + 1 ≤ (I0 25 11).toInt ∧ (0 : Int) + 0 ≤ p1.toInt ∧ p1.toInt + 0 ≤ (5 : Int) ∧ p1.toInt ≠ (0 : Int) ∧ p1.toInt = (1 : Int) ∧ (I0 32 (Int32.toNatClampNeg p0)).toInt ≠ (1 : Int) ∧ (I0 32 (Int32.toNatClampNeg p0)).toInt ≠ (2 : Int) ∧ (I0 32 (Int32.toNatClampNeg p0)).toInt ≠ (3 : Int) ∧ ((-1000010 : Int32) - (3 : Int32)).toInt = (-1000010 : Int) - (3 : Int) ∧ r = (-1000010 : Int32) - (3 : Int32) ∧ I1 0 3 = 3 ∧ True) ∨ (True ∧ dkN [(0, 5)] p0 ∧ dkN [(1, 1)] p1 ∧ dkN [(0, 0)] (I1 0 3) ∧ dkN [(1, 6)] (I1 25 11) ∧ (0 : Int) + 0 ≤ p0.toInt ∧ p0.toInt + 1 ≤ (I0 25 11).toInt ∧ (0 : Int) + 0 ≤ p1.toInt ∧ p1.toInt + 0 ≤ (5 : Int) ∧ p1.toInt ≠ (0 : Int) ∧ p1.toInt = (1 : Int) ∧ (I0 32 (Int32.toNatClampNeg p0)).toInt ≠ (1 : Int) ∧ (I0 32 (Int32.toNatClampNeg p0)).toInt ≠ (2 : Int) ∧ (I0 32 (Int32.toNatClampNeg p0)).toInt = (3 : Int) ∧ r = p0 ∧ I1 0 3 = 0 ∧ True) ∨ (dkN [(-1000013, -1000013)] r ∧ dkN [(0, 5)] p0 ∧ dkN [(2, 2)] p1 ∧ dkN [(3, 3)] (I1 0 3) ∧ dkN [(1, 6)] (I1 25 11) ∧ (0 : Int) + 0 ≤ p0.toInt ∧ p0.toInt + 1 ≤ (I0 25 11).toInt ∧ (0 : Int) + 0 ≤ p1.toInt ∧ p1.toInt + 0 ≤ (5 : Int) ∧ p1.toInt ≠ (0 : Int) ∧ p1.toInt ≠ (1 : Int) ∧ p1.toInt = (2 : Int) ∧ (I0 32 (Int32.toNatClampNeg p0)).toInt ≠ p1.toInt ∧ ((-1000010 : Int32) - (3 : Int32)).toInt = (-1000010 : Int) - (3 : Int) ∧ r = (-1000010 : Int32) - (3 : Int32) ∧ I1 0 3 = 3 ∧ True) ∨ (True ∧ dkN [(0, 5)] p0 ∧ dkN [(2, 2)] p1 ∧ dkN [(0, 0)] (I1 0 3) ∧ dkN [(1, 6)] (I1 25 11) ∧ (0 : Int) + 0 ≤ p0.toInt ∧ p0.toInt + 1 ≤ (I0 25 11).toInt ∧ (0 : Int) + 0 ≤ p1.toInt ∧ p1.toInt + 0 ≤ (5 : Int) ∧ p1.toInt ≠ (0 : Int) ∧ p1.toInt ≠ (1 : Int) ∧ p1.toInt = (2 : Int) ∧ (I0 32 (Int32.toNatClampNeg p0)).toInt = p1.toInt ∧ r = p0 ∧ I1 0 3 = 0 ∧ True) ∨ (dkN [(-1000013, -1000013)] r ∧ dkN [(0, 5)] p0 ∧ dkN [(3, 3)] p1 ∧ dkN [(3, 3)] (I1 0 3) ∧ dkN [(1, 6)] (I1 25 11) ∧ (0 : Int) + 0 ≤ p0.toInt ∧ p0.toInt + 1 ≤ (I0 25 11).toInt ∧ (0 : Int) + 0 ≤ p1.toInt ∧ p1.toInt + 0 ≤ (5 : Int) ∧ p1.toInt ≠ (0 : Int) ∧ p1.toInt ≠ (1 : Int) ∧ p1.toInt ≠ (2 : Int) ∧ p1.toInt = (3 : Int) ∧ (I0 32 (Int32.toNatClampNeg p0)).toInt ≠ p1.toInt ∧ ((-1000010 : Int32) - (3 : Int32)).toInt = (-1000010 : Int) - (3 : Int) ∧ r = (-1000010 : Int32) - (3 : Int32) ∧ I1 0 3 = 3 ∧ True) ∨ (True ∧ dkN [(0, 5)] p0 ∧ dkN [(3, 3)] p1 ∧ dkN [(0, 0)] (I1 0 3) ∧ dkN [(1, 6)] (I1 25 11) ∧ (0 : Int) + 0 ≤ p0.toInt ∧ p0.toInt + 1 ≤ (I0 25 11).toInt ∧ (0 : Int) + 0 ≤ p1.toInt ∧ p1.toInt + 0 ≤ (5 : Int) ∧ p1.toInt ≠ (0 : Int) ∧ p1.toInt ≠ (1 : Int) ∧ p1.toInt ≠ (2 : Int) ∧ p1.toInt = (3 : Int) ∧ (I0 32 (Int32.toNatClampNeg p0)).toInt = p1.toInt ∧ r = p0 ∧ I1 0 3 = 0 ∧ True) ∨ (True ∧ dkN [(0, 5)] p0 ∧ dkN [(4, 4)] p1 ∧ dkN [(0, 0)] (I1 0 3) ∧ dkN [(1, 6)] (I1 25 11) ∧ (0 : Int) + 0 ≤ p0.toInt ∧ p0.toInt + 1 ≤ (I0 25 11).toInt ∧ (0 : Int) + 0 ≤ p1.toInt ∧ p1.toInt + 0 ≤ (5 : Int) ∧ p1.toInt ≠ (0 : Int) ∧ p1.toInt ≠ (1 : Int) ∧ p1.toInt ≠ (2 : Int) ∧ p1.toInt ≠ (3 : Int) ∧ p1.toInt = (4 : Int) ∧ (I0 32 (Int32.toNatClampNeg p0)).toInt = (4 : Int) ∧ r = p0 ∧ I1 0 3 = 0 ∧ True) ∨ (dkN [(-1000013, -1000013)] r ∧ dkN [(0, 5)] p0 ∧ dkN [(4, 4)] p1 ∧ dkN [(3, 3)] (I1 0 3) ∧ dkN [(1, 6)] (I1 25 11) ∧ (0 : Int) + 0 ≤ p0.toInt ∧ p0.toInt + 1 ≤ (I0 25 11).toInt ∧ (0 : Int) + 0 ≤ p1.toInt ∧ p1.toInt + 0 ≤ (5 : Int) ∧ p1.toInt ≠ (0 : Int) ∧ p1.toInt ≠ (1 : Int) ∧ p1.toInt ≠ (2 : Int) ∧ p1.toInt ≠ (3 : Int) ∧ p1.toInt = (4 : Int) ∧ (I0 32 (Int32.toNatClampNeg p0)).toInt ≠ (4 : Int) ∧ (I0 32 (Int32.toNatClampNeg p0)).toInt ≠ (5 : Int) ∧ ((-1000010 : Int32) - (3 : Int32)).toInt = (-1000010 : Int) - (3 : Int) ∧ r = (-1000010 : Int32) - (3 : Int32) ∧ I1 0 3 = 3 ∧ True) ∨ (True ∧ dkN [(0, 5)] p0 ∧ dkN [(4, 4)] p1 ∧ dkN [(0, 0)] (I1 0 3) ∧ dkN [(1, 6)] (I1 25 11) ∧ (0 : Int) + 0 ≤ p0.toInt ∧ p0.toInt + 1 ≤ (I0 25 11).toInt ∧ (0 : Int) + 0 ≤ p1.toInt ∧ p1.toInt + 0 ≤ (5 : Int) ∧ p1.toInt ≠ (0 : Int) ∧ p1.toInt ≠ (1 : Int) ∧ p1.toInt ≠ (2 : Int) ∧ p1.toInt ≠ (3 : Int) ∧ p1.toInt = (4 : Int) ∧ (I0 32 (Int32.toNatClampNeg p0)).toInt ≠ (4 : Int) ∧ (I0 32 (Int32.toNatClampNeg p0)).toInt = (5 : Int) ∧ r = p0 ∧ I1 0 3 = 0 ∧ True) ∨ (dkN [(-1000013, -1000013)] r ∧ dkN [(0, 5)] p0 ∧ dkN [(5, 5)] p1 ∧ dkN [(3, 3)] (I1 0 3) ∧ dkN [(1, 6)] (I1 25 11) ∧ (0 : Int) + 0 ≤ p0.toInt ∧ p0.toInt + 1 ≤ (I0 25 11).toInt ∧ (0 : Int) + 0 ≤ p1.toInt ∧ p1.toInt + 0 ≤ (5 : Int) ∧ p1.toInt ≠ (0 : Int) ∧ p1.toInt ≠ (1 : Int) ∧ p1.toInt ≠ (2 : Int) ∧ p1.toInt ≠ (3 : Int) ∧ p1.toInt ≠ (4 : Int) ∧ (I0 32 (Int32.toNatClampNeg p0)).toInt ≠ p1.toInt ∧ ((-1000010 : Int32) - (3 : Int32)).toInt = (-1000010 : Int) - (3 : Int) ∧ r = (-1000010 : Int32) - (3 : Int32) ∧ I1 0 3 = 3 ∧ True) ∨ (True ∧ dkN [(0, 5)] p0 ∧ dkN [(5, 5)] p1 ∧ dkN [(0, 0)] (I1 0 3) ∧ dkN [(1, 6)] (I1 25 11) ∧ (0 : Int) + 0 ≤ p0.toInt ∧ p0.toInt + 1 ≤ (I0 25 11).toInt ∧ (0 : Int) + 0 ≤ p1.toInt ∧ p1.toInt + 0 ≤ (5 : Int) ∧ p1.toInt ≠ (0 : Int) ∧ p1.toInt ≠ (1 : Int) ∧ p1.toInt ≠ (2 : Int) ∧ p1.toInt ≠ (3 : Int) ∧ p1.toInt ≠ (4 : Int) ∧ (I0 32 (Int32.toNatClampNeg p0)).toInt = p1.toInt ∧ r = p0 ∧ I1 0 3 = 0 ∧ True)))) 0 0 (dkA z) := by
  refine Met.ofW (cc := cX5_as) (maxL := 3) (ret := (some .int)) (by decide) rfl ?_
  intro p e s m args below meth c s₁ B hml hv
  obtain ⟨ha, hW, hK, hT⟩ := hv
  have hx := B.exec
  have hb := B.bytes
  have hr := B.returns
  have hts := atoms_spec (ws := wsX5_as) B.pre
  have hown : s.vm.findClass RX5 = some m.cls := findClass_of_methodNamed B.named
  have hlocks := B.notSynchronized
  have hS : va_S (dkA z) s.heap s.heap [] := va_S.rf
  have hF : dkF [(0, 0, 3, 3)] I0 I0 := dkF_rf _ _
  have hl := lv_entry ([.ref (z + 0), .int p0, .int p1]) (n := 3) (Nat.le_of_ble_eq_true rfl)
  have hgo : entryFrame m args 3 = entryFrame m ([.ref (z + 0), .int p0, .int p1] : List Value).toArray 3 := by rw [ha]
  rw [hgo, lg_entry_eq]
  generalize (lg_sl ([.ref (z + 0), .int p0, .int p1]) ++ List.replicate (3 - (lg_sl ([.ref (z + 0), .int p0, .int p1])).length) Slot.unset).toArray = ls at hl ⊢
  have hl : lv_has ls 3 [(0, .ref (z + 0)), (1, .int p0), (2, .int p1)] := hl
  refine lv_aload_n hx hb dX5_as_0 rfl (lv_at hl 0 rfl) ?_
  refine lv_iload_n hx hb dX5_as_1 rfl (lv_at hl 1 rfl) ?_
  refine dk_Vi (As := [.int p0]) (rest := []) ⟨hx, hb, hml, hown, hts⟩ (fx_X5_isDog_1 l g z I0 p0 hO) (cwV 1 hts gX5_as_X5_isDog rfl rfl rfl (by decide +kernel) ⟨Nat.le_of_ble_eq_true rfl, Nat.le_of_ble_eq_true rfl⟩) (dk_at0 hW) rfl hK hT hW hS rfl hl.1 rfl (Nat.le_of_ble_eq_true rfl) dX5_as_2 ⟨Nat.zero_le _, Nat.zero_le _⟩ (fun v1 I1 H1 L1 hp1 hW hS => ?_)
  obtain ⟨hF1, hO, hc1⟩ := hp1
  have hF := dkF_call hF hF1 rfl
  have eI1 : I0 = I1 := (dkF_nil hF1).symm
  subst eI1
  rcases hc1 with ⟨dv1, a1_0, x1_0, xr1, -⟩ | hc1
  ·
    have q2 : p0.toInt + 1 ≤ (0 : Int) := x1_0
    have xv1 : v1 = 0 := by have h := xr1; exact h
    have d3 : dkN [(-2147483648, -1)] p0 := dkN_eq1 (dkN_top p0) a1_0 rfl rfl
    refine lv_if_eq (tgt := 16) hx hb dX5_as_5 (by decide) (fun c4 => ?_) (fun c4 => ?_)
    ·
      refine lv_ldc (v := (-1000001)) hx hb hown (hts (.constant RX5 70 (-1000001)) (List.mem_of_getElem? (i := 1) rfl)) dX5_as_16 ?_
      exact W.iret (v := (-1000001)) hx hb hr (fun t ht hW9 => ⟨⟨(-1000001), I0, rfl, ⟨hF, hO, Or.inl ⟨dkN_sub (dkN_lit (x := (-1000001)) (-1000001) rfl) rfl, dkN_sub d3 rfl, q2, rfl, rfl, trivial⟩⟩, dkW_eq ht hW⟩, hS.F ht⟩) hS.2.2 dX5_as_18
    ·
      exact absurd ((xv1).trans (rfl).symm) c4
  rcases hc1 with ⟨dv1, a1_0, x1_0, x1_1, xr1, -⟩ | hc1
  ·
    have q5 : (0 : Int) + 0 ≤ p0.toInt := x1_0
    have q6 : (I0 25 11).toInt + 0 ≤ p0.toInt := x1_1
    have xv1 : v1 = 0 := by have h := xr1; exact h
    have d7 : dkN [(0, 2147483647)] p0 := dkN_eq1 (dkN_top p0) a1_0 rfl rfl
    refine lv_if_eq (tgt := 16) hx hb dX5_as_5 (by decide) (fun c8 => ?_) (fun c8 => ?_)
    ·
      refine lv_ldc (v := (-1000001)) hx hb hown (hts (.constant RX5 70 (-1000001)) (List.mem_of_getElem? (i := 1) rfl)) dX5_as_16 ?_
      exact W.iret (v := (-1000001)) hx hb hr (fun t ht hW9 => ⟨⟨(-1000001), I0, rfl, ⟨hF, hO, Or.inr (Or.inl ⟨dkN_sub (dkN_lit (x := (-1000001)) (-1000001) rfl) rfl, dkN_sub d7 rfl, q5, q6, rfl, rfl, trivial⟩)⟩, dkW_eq ht hW⟩, hS.F ht⟩) hS.2.2 dX5_as_18
    ·
      exact absurd ((xv1).trans (rfl).symm) c8
  ·
    obtain ⟨dv1, a1_0, f1_25_11, x1_0, x1_1, xr1, -⟩ := hc1
    have q9 : (0 : Int) + 0 ≤ p0.toInt := x1_0
    have q10 : p0.toInt + 1 ≤ (I0 25 11).toInt := x1_1
    have xv1 : v1 = 1 := by have h := xr1; exact h
    have d11 : dkN [(0, 5)] p0 := dkN_eq1 (dkN_top p0) a1_0 rfl rfl
    refine lv_if_eq (tgt := 16) hx hb dX5_as_5 (by decide) (fun c12 => ?_) (fun c12 => ?_)
    ·
      exact (dkN_nil (show dkN [] v1 from dkN_eq1 dv1 (dkN_lit (x := 0) (0) rfl) (congrArg Int32.toInt c12) rfl)).elim
    ·
      refine lv_iload_n hx hb dX5_as_8 rfl (lv_at hl 2 rfl) ?_
      refine lv_iconst (v := 5) hx hb dX5_as_9 (by decide) ?_
      refine dk_Si (As := [.int p1, .int 5]) (rest := []) ⟨hx, hb, hml, hown, hts⟩ (fx_X5_isUpTo_16 l g z I0 p1 5 (dkN_lit (x := 5) (5) rfl) hO) (va_cwS 2 hts gX5_as_X5_isUpTo rfl rfl rfl (by decide +kernel) ⟨Nat.le_of_ble_eq_true rfl, Nat.le_of_ble_eq_true rfl⟩) hK hT hW hS rfl hl.1 rfl (Nat.le_of_ble_eq_true rfl) dX5_as_10 ⟨Nat.zero_le _, Nat.zero_le _⟩ (fun v13 I13 H13 L13 hp13 hW hS => ?_)
      obtain ⟨hF13, hO, hc13⟩ := hp13
      have hF := dkF_call hF hF13 rfl
      have eI13 : I0 = I13 := (dkF_nil hF13).symm
      subst eI13
      rcases hc13 with ⟨dv13, a13_0, x13_0, xr13, -⟩ | hc13
      ·
        have q14 : p1.toInt + 1 ≤ (0 : Int) := x13_0
        have xv13 : v13 = 0 := by have h := xr13; exact h
        have d15 : dkN [(-2147483648, -1)] p1 := dkN_eq1 (dkN_top p1) a13_0 rfl rfl
        refine lv_if_ne (tgt := 19) hx hb dX5_as_13 (by decide) (fun c16 => ?_) (fun c16 => ?_)
        ·
          exact absurd ((xv13).trans (rfl).symm) c16
        ·
          refine lv_ldc (v := (-1000001)) hx hb hown (hts (.constant RX5 70 (-1000001)) (List.mem_of_getElem? (i := 1) rfl)) dX5_as_16 ?_
          exact W.iret (v := (-1000001)) hx hb hr (fun t ht hW9 => ⟨⟨(-1000001), I0, rfl, ⟨hF, hO, Or.inr (Or.inr (Or.inl ⟨dkN_sub (dkN_lit (x := (-1000001)) (-1000001) rfl) rfl, dkN_sub d11 rfl, dkN_sub d15 rfl, (show dkN [(1, 6)] (I0 25 11) from dkN_sub (by rw [hF13 25 11 rfl]; exact f1_25_11) rfl), q9, q10, q14, rfl, rfl, trivial⟩))⟩, dkW_eq ht hW⟩, hS.F ht⟩) hS.2.2 dX5_as_18
      rcases hc13 with ⟨dv13, a13_0, x13_0, x13_1, xr13, -⟩ | hc13
      ·
        have q17 : (0 : Int) + 0 ≤ p1.toInt := x13_0
        have q18 : (5 : Int) + 1 ≤ p1.toInt := x13_1
        have xv13 : v13 = 0 := by have h := xr13; exact h
        have d19 : dkN [(6, 2147483647)] p1 := dkN_eq1 (dkN_top p1) a13_0 rfl rfl
        refine lv_if_ne (tgt := 19) hx hb dX5_as_13 (by decide) (fun c20 => ?_) (fun c20 => ?_)
        ·
          exact absurd ((xv13).trans (rfl).symm) c20
        ·
          refine lv_ldc (v := (-1000001)) hx hb hown (hts (.constant RX5 70 (-1000001)) (List.mem_of_getElem? (i := 1) rfl)) dX5_as_16 ?_
          exact W.iret (v := (-1000001)) hx hb hr (fun t ht hW9 => ⟨⟨(-1000001), I0, rfl, ⟨hF, hO, Or.inr (Or.inr (Or.inr (Or.inl ⟨dkN_sub (dkN_lit (x := (-1000001)) (-1000001) rfl) rfl, dkN_sub d11 rfl, dkN_sub d19 rfl, (show dkN [(1, 6)] (I0 25 11) from dkN_sub (by rw [hF13 25 11 rfl]; exact f1_25_11) rfl), q9, q10, q17, q18, rfl, rfl, trivial⟩)))⟩, dkW_eq ht hW⟩, hS.F ht⟩) hS.2.2 dX5_as_18
      ·
        obtain ⟨dv13, a13_0, x13_0, x13_1, xr13, -⟩ := hc13
        have q21 : (0 : Int) + 0 ≤ p1.toInt := x13_0
        have q22 : p1.toInt + 0 ≤ (5 : Int) := x13_1
        have xv13 : v13 = 1 := by have h := xr13; exact h
        have d23 : dkN [(0, 5)] p1 := dkN_eq1 (dkN_top p1) a13_0 rfl rfl
        refine lv_if_ne (tgt := 19) hx hb dX5_as_13 (by decide) (fun c24 => ?_) (fun c24 => ?_)
        ·
          refine lv_aload_n hx hb dX5_as_19 rfl (lv_at hl 0 rfl) ?_
          refine dk_get (k := 0) hx hb hts iX5_as_5 hown hK (dk_at0 hW) rfl 5 (by decide) (hts (.fieldLink RX5 31 "DogKings" "now" "LDogKings$Town;") (List.mem_of_getElem? (i := 2) rfl)) rfl dX5_as_20 ?_
          refine dk_get (k := 25) hx hb hts iX5_as_4 hown hK (dk_at25 hW) rfl 12 (by decide) (hts (.fieldLink RX5 259 "DogKings$Town" "sort" "[I") (List.mem_of_getElem? (i := 3) rfl)) rfl dX5_as_23 ?_
          refine lv_iload_n hx hb dX5_as_26 rfl (lv_at hl 1 rfl) ?_
          refine dk_ild (k := 32) hx hb hK (dk_at32 hW) (dkN_in (n := 6) d11 rfl) dX5_as_27 ?_
          refine lv_topi (fun v25 ev25 => ?_)
          have xv25 : v25 = I0 32 (Int32.toNatClampNeg p0) := ev25.trans rfl
          refine lv_iload_n hx hb dX5_as_28 rfl (lv_at hl 2 rfl) ?_
          refine dk_Si (As := [.int v25, .int p1]) (rest := []) ⟨hx, hb, hml, hown, hts⟩ (fx_X5_isA_3 l g z I0 v25 p1 d23 hO) (va_cwS 2 hts gX5_as_X5_isA rfl rfl rfl (by decide +kernel) ⟨Nat.le_of_ble_eq_true rfl, Nat.le_of_ble_eq_true rfl⟩) hK hT hW hS rfl hl.1 rfl (Nat.le_of_ble_eq_true rfl) dX5_as_29 ⟨Nat.zero_le _, Nat.zero_le _⟩ (fun v26 I26 H26 L26 hp26 hW hS => ?_)
          obtain ⟨hF26, hO, hc26⟩ := hp26
          have hF := dkF_call hF hF26 rfl
          have eI26 : I0 = I26 := (dkF_nil hF26).symm
          subst eI26
          rcases hc26 with ⟨dv26, a26_1, x26_0, xr26, -⟩ | hc26
          ·
            have q27 : p1.toInt = (0 : Int) := x26_0
            have xv26 : v26 = 1 := by have h := xr26; exact h
            have d28 : dkN [(0, 0)] p1 := dkN_eq1 d23 a26_1 rfl rfl
            refine lv_if_eq (tgt := 43) hx hb dX5_as_32 (by decide) (fun c29 => ?_) (fun c29 => ?_)
            ·
              exact (dkN_nil (show dkN [] v26 from dkN_eq1 dv26 (dkN_lit (x := 0) (0) rfl) (congrArg Int32.toInt c29) rfl)).elim
            ·
              refine lv_aload_n hx hb dX5_as_35 rfl (lv_at hl 0 rfl) ?_
              refine lv_iload_n hx hb dX5_as_36 rfl (lv_at hl 1 rfl) ?_
              refine dk_Vi (As := [.int p0]) (rest := []) ⟨hx, hb, hml, hown, hts⟩ (fx_X5_nothingFound_1 l g z I0 p0 hO) (cwV 1 hts gX5_as_X5_nothingFound rfl rfl rfl (by decide +kernel) ⟨Nat.le_of_ble_eq_true rfl, Nat.le_of_ble_eq_true rfl⟩) (dk_at0 hW) rfl hK hT hW hS rfl hl.1 rfl (Nat.le_of_ble_eq_true rfl) dX5_as_37 ⟨Nat.zero_le _, Nat.zero_le _⟩ (fun v30 I30 H30 L30 hp30 hW hS => ?_)
              obtain ⟨hF30, hO, hc30⟩ := hp30
              have hF := dkF_call hF hF30 rfl
              obtain ⟨_, f30_0_3, xr30, xh30_0, -⟩ := hc30
              have y31 : I30 0 3 = 0 := by have h := xh30_0; exact h
              have xv30 : v30 = p0 := by have h := xr30; exact h
              refine lv_goto (tgt := 48) hx hb dX5_as_40 (by decide) ?_
              exact W.iret (v := v30) hx hb hr (fun t ht hW9 => ⟨⟨v30, I30, rfl, ⟨hF, hO, Or.inr (Or.inr (Or.inr (Or.inr (Or.inl ⟨trivial, dkN_sub d11 rfl, dkN_sub d28 rfl, (show dkN [(0, 0)] (I30 0 3) from dkN_sub f30_0_3 rfl), (show dkN [(1, 6)] (I30 25 11) from dkN_sub (by rw [hF30 25 11 rfl]; exact (by rw [hF26 25 11 rfl]; exact (by rw [hF13 25 11 rfl]; exact f1_25_11))) rfl), q9, q10, q21, q22, q27, xv30, y31, trivial⟩))))⟩, dkW_eq ht hW⟩, hS.F ht⟩) hS.2.2 dX5_as_48
          rcases hc26 with ⟨dv26, a26_0, a26_1, x26_0, x26_1, x26_2, xr26, -⟩ | hc26
          ·
            have q32 : p1.toInt ≠ (0 : Int) := x26_0
            have q33 : p1.toInt = (1 : Int) := x26_1
            have q34 : (I0 32 (Int32.toNatClampNeg p0)).toInt = (1 : Int) := by have h := x26_2; rw [xv25] at h; exact h
            have xv26 : v26 = 1 := by have h := xr26; exact h
            have d35 : dkN [(1, 1)] v25 := dkN_eq1 (dkN_top v25) a26_0 rfl rfl
            have d36 : dkN [(1, 1)] p1 := dkN_eq1 d23 a26_1 rfl rfl
            refine lv_if_eq (tgt := 43) hx hb dX5_as_32 (by decide) (fun c37 => ?_) (fun c37 => ?_)
            ·
              exact (dkN_nil (show dkN [] v26 from dkN_eq1 dv26 (dkN_lit (x := 0) (0) rfl) (congrArg Int32.toInt c37) rfl)).elim
            ·
              refine lv_aload_n hx hb dX5_as_35 rfl (lv_at hl 0 rfl) ?_
              refine lv_iload_n hx hb dX5_as_36 rfl (lv_at hl 1 rfl) ?_
              refine dk_Vi (As := [.int p0]) (rest := []) ⟨hx, hb, hml, hown, hts⟩ (fx_X5_nothingFound_1 l g z I0 p0 hO) (cwV 1 hts gX5_as_X5_nothingFound rfl rfl rfl (by decide +kernel) ⟨Nat.le_of_ble_eq_true rfl, Nat.le_of_ble_eq_true rfl⟩) (dk_at0 hW) rfl hK hT hW hS rfl hl.1 rfl (Nat.le_of_ble_eq_true rfl) dX5_as_37 ⟨Nat.zero_le _, Nat.zero_le _⟩ (fun v38 I38 H38 L38 hp38 hW hS => ?_)
              obtain ⟨hF38, hO, hc38⟩ := hp38
              have hF := dkF_call hF hF38 rfl
              obtain ⟨_, f38_0_3, xr38, xh38_0, -⟩ := hc38
              have y39 : I38 0 3 = 0 := by have h := xh38_0; exact h
              have xv38 : v38 = p0 := by have h := xr38; exact h
              refine lv_goto (tgt := 48) hx hb dX5_as_40 (by decide) ?_
              exact W.iret (v := v38) hx hb hr (fun t ht hW9 => ⟨⟨v38, I38, rfl, ⟨hF, hO, Or.inr (Or.inr (Or.inr (Or.inr (Or.inr (Or.inl ⟨trivial, dkN_sub d11 rfl, dkN_sub d36 rfl, (show dkN [(0, 0)] (I38 0 3) from dkN_sub f38_0_3 rfl), (show dkN [(1, 6)] (I38 25 11) from dkN_sub (by rw [hF38 25 11 rfl]; exact (by rw [hF26 25 11 rfl]; exact (by rw [hF13 25 11 rfl]; exact f1_25_11))) rfl), q9, q10, q21, q22, q32, q33, q34, xv38, y39, trivial⟩)))))⟩, dkW_eq ht hW⟩, hS.F ht⟩) hS.2.2 dX5_as_48
          rcases hc26 with ⟨dv26, a26_0, a26_1, x26_0, x26_1, x26_2, x26_3, xr26, -⟩ | hc26
          ·
            have q40 : p1.toInt ≠ (0 : Int) := x26_0
            have q41 : p1.toInt = (1 : Int) := x26_1
            have q42 : (I0 32 (Int32.toNatClampNeg p0)).toInt ≠ (1 : Int) := by have h := x26_2; rw [xv25] at h; exact h
            have q43 : (I0 32 (Int32.toNatClampNeg p0)).toInt = (2 : Int) := by have h := x26_3; rw [xv25] at h; exact h
            have xv26 : v26 = 1 := by have h := xr26; exact h
            have d44 : dkN [(2, 2)] v25 := dkN_eq1 (dkN_top v25) a26_0 rfl rfl
            have d45 : dkN [(1, 1)] p1 := dkN_eq1 d23 a26_1 rfl rfl
            refine lv_if_eq (tgt := 43) hx hb dX5_as_32 (by decide) (fun c46 => ?_) (fun c46 => ?_)
            ·
              exact (dkN_nil (show dkN [] v26 from dkN_eq1 dv26 (dkN_lit (x := 0) (0) rfl) (congrArg Int32.toInt c46) rfl)).elim
            ·
              refine lv_aload_n hx hb dX5_as_35 rfl (lv_at hl 0 rfl) ?_
              refine lv_iload_n hx hb dX5_as_36 rfl (lv_at hl 1 rfl) ?_
              refine dk_Vi (As := [.int p0]) (rest := []) ⟨hx, hb, hml, hown, hts⟩ (fx_X5_nothingFound_1 l g z I0 p0 hO) (cwV 1 hts gX5_as_X5_nothingFound rfl rfl rfl (by decide +kernel) ⟨Nat.le_of_ble_eq_true rfl, Nat.le_of_ble_eq_true rfl⟩) (dk_at0 hW) rfl hK hT hW hS rfl hl.1 rfl (Nat.le_of_ble_eq_true rfl) dX5_as_37 ⟨Nat.zero_le _, Nat.zero_le _⟩ (fun v47 I47 H47 L47 hp47 hW hS => ?_)
              obtain ⟨hF47, hO, hc47⟩ := hp47
              have hF := dkF_call hF hF47 rfl
              obtain ⟨_, f47_0_3, xr47, xh47_0, -⟩ := hc47
              have y48 : I47 0 3 = 0 := by have h := xh47_0; exact h
              have xv47 : v47 = p0 := by have h := xr47; exact h
              refine lv_goto (tgt := 48) hx hb dX5_as_40 (by decide) ?_
              exact W.iret (v := v47) hx hb hr (fun t ht hW9 => ⟨⟨v47, I47, rfl, ⟨hF, hO, Or.inr (Or.inr (Or.inr (Or.inr (Or.inr (Or.inr (Or.inl ⟨trivial, dkN_sub d11 rfl, dkN_sub d45 rfl, (show dkN [(0, 0)] (I47 0 3) from dkN_sub f47_0_3 rfl), (show dkN [(1, 6)] (I47 25 11) from dkN_sub (by rw [hF47 25 11 rfl]; exact (by rw [hF26 25 11 rfl]; exact (by rw [hF13 25 11 rfl]; exact f1_25_11))) rfl), q9, q10, q21, q22, q40, q41, q42, q43, xv47, y48, trivial⟩))))))⟩, dkW_eq ht hW⟩, hS.F ht⟩) hS.2.2 dX5_as_48
          rcases hc26 with ⟨dv26, a26_0, a26_1, x26_0, x26_1, x26_2, x26_3, x26_4, xr26, -⟩ | hc26
          ·
            have q49 : p1.toInt ≠ (0 : Int) := x26_0
            have q50 : p1.toInt = (1 : Int) := x26_1
            have q51 : (I0 32 (Int32.toNatClampNeg p0)).toInt ≠ (1 : Int) := by have h := x26_2; rw [xv25] at h; exact h
            have q52 : (I0 32 (Int32.toNatClampNeg p0)).toInt ≠ (2 : Int) := by have h := x26_3; rw [xv25] at h; exact h
            have q53 : (I0 32 (Int32.toNatClampNeg p0)).toInt ≠ (3 : Int) := by have h := x26_4; rw [xv25] at h; exact h
            have xv26 : v26 = 0 := by have h := xr26; exact h
            have d54 : dkN [(-2147483648, 0), (4, 2147483647)] v25 := dkN_eq1 (dkN_top v25) a26_0 rfl rfl
            have d55 : dkN [(1, 1)] p1 := dkN_eq1 d23 a26_1 rfl rfl
            refine lv_if_eq (tgt := 43) hx hb dX5_as_32 (by decide) (fun c56 => ?_) (fun c56 => ?_)
            ·
              refine lv_aload_n hx hb dX5_as_43 rfl (lv_at hl 0 rfl) ?_
              refine lv_iconst (v := 3) hx hb dX5_as_44 (by decide) ?_
              refine dk_Vi (As := [.int 3]) (rest := []) ⟨hx, hb, hml, hown, hts⟩ (fx_X5_found_9 l g z I0 3 (dkN_lit (x := 3) (3) rfl) hO) (cwV 1 hts gX5_as_X5_found rfl rfl rfl (by decide +kernel) ⟨Nat.le_of_ble_eq_true rfl, Nat.le_of_ble_eq_true rfl⟩) (dk_at0 hW) rfl hK hT hW hS rfl hl.1 rfl (Nat.le_of_ble_eq_true rfl) dX5_as_45 ⟨Nat.zero_le _, Nat.zero_le _⟩ (fun v57 I57 H57 L57 hp57 hW hS => ?_)
              obtain ⟨hF57, hO, hc57⟩ := hp57
              have hF := dkF_call hF hF57 rfl
              obtain ⟨dv57, f57_0_3, x57_0, xr57, xh57_0, -⟩ := hc57
              have q58 : ((-1000010 : Int32) - (3 : Int32)).toInt = (-1000010 : Int) - (3 : Int) := x57_0
              have y59 : I57 0 3 = 3 := by have h := xh57_0; exact h
              have xv57 : v57 = (-1000010 : Int32) - (3 : Int32) := by have h := xr57; exact h
              exact W.iret (v := v57) hx hb hr (fun t ht hW9 => ⟨⟨v57, I57, rfl, ⟨hF, hO, Or.inr (Or.inr (Or.inr (Or.inr (Or.inr (Or.inr (Or.inr (Or.inl ⟨dkN_sub dv57 rfl, dkN_sub d11 rfl, dkN_sub d55 rfl, (show dkN [(3, 3)] (I57 0 3) from dkN_sub f57_0_3 rfl), (show dkN [(1, 6)] (I57 25 11) from dkN_sub (by rw [hF57 25 11 rfl]; exact (by rw [hF26 25 11 rfl]; exact (by rw [hF13 25 11 rfl]; exact f1_25_11))) rfl), q9, q10, q21, q22, q49, q50, q51, q52, q53, q58, xv57, y59, trivial⟩)))))))⟩, dkW_eq ht hW⟩, hS.F ht⟩) hS.2.2 dX5_as_48
            ·
              exact absurd ((xv26).trans (rfl).symm) c56
          rcases hc26 with ⟨dv26, a26_0, a26_1, x26_0, x26_1, x26_2, x26_3, x26_4, xr26, -⟩ | hc26
          ·
            have q60 : p1.toInt ≠ (0 : Int) := x26_0
            have q61 : p1.toInt = (1 : Int) := x26_1
            have q62 : (I0 32 (Int32.toNatClampNeg p0)).toInt ≠ (1 : Int) := by have h := x26_2; rw [xv25] at h; exact h
            have q63 : (I0 32 (Int32.toNatClampNeg p0)).toInt ≠ (2 : Int) := by have h := x26_3; rw [xv25] at h; exact h
            have q64 : (I0 32 (Int32.toNatClampNeg p0)).toInt = (3 : Int) := by have h := x26_4; rw [xv25] at h; exact h
            have xv26 : v26 = 1 := by have h := xr26; exact h
            have d65 : dkN [(3, 3)] v25 := dkN_eq1 (dkN_top v25) a26_0 rfl rfl
            have d66 : dkN [(1, 1)] p1 := dkN_eq1 d23 a26_1 rfl rfl
            refine lv_if_eq (tgt := 43) hx hb dX5_as_32 (by decide) (fun c67 => ?_) (fun c67 => ?_)
            ·
              exact (dkN_nil (show dkN [] v26 from dkN_eq1 dv26 (dkN_lit (x := 0) (0) rfl) (congrArg Int32.toInt c67) rfl)).elim
            ·
              refine lv_aload_n hx hb dX5_as_35 rfl (lv_at hl 0 rfl) ?_
              refine lv_iload_n hx hb dX5_as_36 rfl (lv_at hl 1 rfl) ?_
              refine dk_Vi (As := [.int p0]) (rest := []) ⟨hx, hb, hml, hown, hts⟩ (fx_X5_nothingFound_1 l g z I0 p0 hO) (cwV 1 hts gX5_as_X5_nothingFound rfl rfl rfl (by decide +kernel) ⟨Nat.le_of_ble_eq_true rfl, Nat.le_of_ble_eq_true rfl⟩) (dk_at0 hW) rfl hK hT hW hS rfl hl.1 rfl (Nat.le_of_ble_eq_true rfl) dX5_as_37 ⟨Nat.zero_le _, Nat.zero_le _⟩ (fun v68 I68 H68 L68 hp68 hW hS => ?_)
              obtain ⟨hF68, hO, hc68⟩ := hp68
              have hF := dkF_call hF hF68 rfl
              obtain ⟨_, f68_0_3, xr68, xh68_0, -⟩ := hc68
              have y69 : I68 0 3 = 0 := by have h := xh68_0; exact h
              have xv68 : v68 = p0 := by have h := xr68; exact h
              refine lv_goto (tgt := 48) hx hb dX5_as_40 (by decide) ?_
              exact W.iret (v := v68) hx hb hr (fun t ht hW9 => ⟨⟨v68, I68, rfl, ⟨hF, hO, Or.inr (Or.inr (Or.inr (Or.inr (Or.inr (Or.inr (Or.inr (Or.inr (Or.inl ⟨trivial, dkN_sub d11 rfl, dkN_sub d66 rfl, (show dkN [(0, 0)] (I68 0 3) from dkN_sub f68_0_3 rfl), (show dkN [(1, 6)] (I68 25 11) from dkN_sub (by rw [hF68 25 11 rfl]; exact (by rw [hF26 25 11 rfl]; exact (by rw [hF13 25 11 rfl]; exact f1_25_11))) rfl), q9, q10, q21, q22, q60, q61, q62, q63, q64, xv68, y69, trivial⟩))))))))⟩, dkW_eq ht hW⟩, hS.F ht⟩) hS.2.2 dX5_as_48
          rcases hc26 with ⟨dv26, a26_0, a26_1, x26_0, x26_1, x26_2, x26_3, xr26, -⟩ | hc26
          ·
            have q70 : p1.toInt ≠ (0 : Int) := x26_0
            have q71 : p1.toInt ≠ (1 : Int) := x26_1
            have q72 : p1.toInt = (2 : Int) := x26_2
            have q73 : (I0 32 (Int32.toNatClampNeg p0)).toInt ≠ p1.toInt := by have h := x26_3; rw [xv25] at h; exact h
            have xv26 : v26 = 0 := by have h := xr26; exact h
            have d74 : dkN [(-2147483648, 1), (3, 2147483647)] v25 := dkN_eq1 (dkN_top v25) a26_0 rfl rfl
            have d75 : dkN [(2, 2)] p1 := dkN_eq1 d23 a26_1 rfl rfl
            refine lv_if_eq (tgt := 43) hx hb dX5_as_32 (by decide) (fun c76 => ?_) (fun c76 => ?_)
            ·
              refine lv_aload_n hx hb dX5_as_43 rfl (lv_at hl 0 rfl) ?_
              refine lv_iconst (v := 3) hx hb dX5_as_44 (by decide) ?_
              refine dk_Vi (As := [.int 3]) (rest := []) ⟨hx, hb, hml, hown, hts⟩ (fx_X5_found_9 l g z I0 3 (dkN_lit (x := 3) (3) rfl) hO) (cwV 1 hts gX5_as_X5_found rfl rfl rfl (by decide +kernel) ⟨Nat.le_of_ble_eq_true rfl, Nat.le_of_ble_eq_true rfl⟩) (dk_at0 hW) rfl hK hT hW hS rfl hl.1 rfl (Nat.le_of_ble_eq_true rfl) dX5_as_45 ⟨Nat.zero_le _, Nat.zero_le _⟩ (fun v77 I77 H77 L77 hp77 hW hS => ?_)
              obtain ⟨hF77, hO, hc77⟩ := hp77
              have hF := dkF_call hF hF77 rfl
              obtain ⟨dv77, f77_0_3, x77_0, xr77, xh77_0, -⟩ := hc77
              have q78 : ((-1000010 : Int32) - (3 : Int32)).toInt = (-1000010 : Int) - (3 : Int) := x77_0
              have y79 : I77 0 3 = 3 := by have h := xh77_0; exact h
              have xv77 : v77 = (-1000010 : Int32) - (3 : Int32) := by have h := xr77; exact h
              exact W.iret (v := v77) hx hb hr (fun t ht hW9 => ⟨⟨v77, I77, rfl, ⟨hF, hO, Or.inr (Or.inr (Or.inr (Or.inr (Or.inr (Or.inr (Or.inr (Or.inr (Or.inr (Or.inl ⟨dkN_sub dv77 rfl, dkN_sub d11 rfl, dkN_sub d75 rfl, (show dkN [(3, 3)] (I77 0 3) from dkN_sub f77_0_3 rfl), (show dkN [(1, 6)] (I77 25 11) from dkN_sub (by rw [hF77 25 11 rfl]; exact (by rw [hF26 25 11 rfl]; exact (by rw [hF13 25 11 rfl]; exact f1_25_11))) rfl), q9, q10, q21, q22, q70, q71, q72, q73, q78, xv77, y79, trivial⟩)))))))))⟩, dkW_eq ht hW⟩, hS.F ht⟩) hS.2.2 dX5_as_48
            ·
              exact absurd ((xv26).trans (rfl).symm) c76
          rcases hc26 with ⟨dv26, a26_0, a26_1, x26_0, x26_1, x26_2, x26_3, xr26, -⟩ | hc26
          ·
            have q80 : p1.toInt ≠ (0 : Int) := x26_0
            have q81 : p1.toInt ≠ (1 : Int) := x26_1
            have q82 : p1.toInt = (2 : Int) := x26_2
            have q83 : (I0 32 (Int32.toNatClampNeg p0)).toInt = p1.toInt := by have h := x26_3; rw [xv25] at h; exact h
            have xv26 : v26 = 1 := by have h := xr26; exact h
            have d84 : dkN [(2, 2)] v25 := dkN_eq1 (dkN_top v25) a26_0 rfl rfl
            have d85 : dkN [(2, 2)] p1 := dkN_eq1 d23 a26_1 rfl rfl
            refine lv_if_eq (tgt := 43) hx hb dX5_as_32 (by decide) (fun c86 => ?_) (fun c86 => ?_)
            ·
              exact (dkN_nil (show dkN [] v26 from dkN_eq1 dv26 (dkN_lit (x := 0) (0) rfl) (congrArg Int32.toInt c86) rfl)).elim
            ·
              refine lv_aload_n hx hb dX5_as_35 rfl (lv_at hl 0 rfl) ?_
              refine lv_iload_n hx hb dX5_as_36 rfl (lv_at hl 1 rfl) ?_
              refine dk_Vi (As := [.int p0]) (rest := []) ⟨hx, hb, hml, hown, hts⟩ (fx_X5_nothingFound_1 l g z I0 p0 hO) (cwV 1 hts gX5_as_X5_nothingFound rfl rfl rfl (by decide +kernel) ⟨Nat.le_of_ble_eq_true rfl, Nat.le_of_ble_eq_true rfl⟩) (dk_at0 hW) rfl hK hT hW hS rfl hl.1 rfl (Nat.le_of_ble_eq_true rfl) dX5_as_37 ⟨Nat.zero_le _, Nat.zero_le _⟩ (fun v87 I87 H87 L87 hp87 hW hS => ?_)
              obtain ⟨hF87, hO, hc87⟩ := hp87
              have hF := dkF_call hF hF87 rfl
              obtain ⟨_, f87_0_3, xr87, xh87_0, -⟩ := hc87
              have y88 : I87 0 3 = 0 := by have h := xh87_0; exact h
              have xv87 : v87 = p0 := by have h := xr87; exact h
              refine lv_goto (tgt := 48) hx hb dX5_as_40 (by decide) ?_
              exact W.iret (v := v87) hx hb hr (fun t ht hW9 => ⟨⟨v87, I87, rfl, ⟨hF, hO, Or.inr (Or.inr (Or.inr (Or.inr (Or.inr (Or.inr (Or.inr (Or.inr (Or.inr (Or.inr (Or.inl ⟨trivial, dkN_sub d11 rfl, dkN_sub d85 rfl, (show dkN [(0, 0)] (I87 0 3) from dkN_sub f87_0_3 rfl), (show dkN [(1, 6)] (I87 25 11) from dkN_sub (by rw [hF87 25 11 rfl]; exact (by rw [hF26 25 11 rfl]; exact (by rw [hF13 25 11 rfl]; exact f1_25_11))) rfl), q9, q10, q21, q22, q80, q81, q82, q83, xv87, y88, trivial⟩))))))))))⟩, dkW_eq ht hW⟩, hS.F ht⟩) hS.2.2 dX5_as_48
          rcases hc26 with ⟨dv26, a26_0, a26_1, x26_0, x26_1, x26_2, x26_3, x26_4, xr26, -⟩ | hc26
          ·
            have q89 : p1.toInt ≠ (0 : Int) := x26_0
            have q90 : p1.toInt ≠ (1 : Int) := x26_1
            have q91 : p1.toInt ≠ (2 : Int) := x26_2
            have q92 : p1.toInt = (3 : Int) := x26_3
            have q93 : (I0 32 (Int32.toNatClampNeg p0)).toInt ≠ p1.toInt := by have h := x26_4; rw [xv25] at h; exact h
            have xv26 : v26 = 0 := by have h := xr26; exact h
            have d94 : dkN [(-2147483648, 2), (4, 2147483647)] v25 := dkN_eq1 (dkN_top v25) a26_0 rfl rfl
            have d95 : dkN [(3, 3)] p1 := dkN_eq1 d23 a26_1 rfl rfl
            refine lv_if_eq (tgt := 43) hx hb dX5_as_32 (by decide) (fun c96 => ?_) (fun c96 => ?_)
            ·
              refine lv_aload_n hx hb dX5_as_43 rfl (lv_at hl 0 rfl) ?_
              refine lv_iconst (v := 3) hx hb dX5_as_44 (by decide) ?_
              refine dk_Vi (As := [.int 3]) (rest := []) ⟨hx, hb, hml, hown, hts⟩ (fx_X5_found_9 l g z I0 3 (dkN_lit (x := 3) (3) rfl) hO) (cwV 1 hts gX5_as_X5_found rfl rfl rfl (by decide +kernel) ⟨Nat.le_of_ble_eq_true rfl, Nat.le_of_ble_eq_true rfl⟩) (dk_at0 hW) rfl hK hT hW hS rfl hl.1 rfl (Nat.le_of_ble_eq_true rfl) dX5_as_45 ⟨Nat.zero_le _, Nat.zero_le _⟩ (fun v97 I97 H97 L97 hp97 hW hS => ?_)
              obtain ⟨hF97, hO, hc97⟩ := hp97
              have hF := dkF_call hF hF97 rfl
              obtain ⟨dv97, f97_0_3, x97_0, xr97, xh97_0, -⟩ := hc97
              have q98 : ((-1000010 : Int32) - (3 : Int32)).toInt = (-1000010 : Int) - (3 : Int) := x97_0
              have y99 : I97 0 3 = 3 := by have h := xh97_0; exact h
              have xv97 : v97 = (-1000010 : Int32) - (3 : Int32) := by have h := xr97; exact h
              exact W.iret (v := v97) hx hb hr (fun t ht hW9 => ⟨⟨v97, I97, rfl, ⟨hF, hO, Or.inr (Or.inr (Or.inr (Or.inr (Or.inr (Or.inr (Or.inr (Or.inr (Or.inr (Or.inr (Or.inr (Or.inl ⟨dkN_sub dv97 rfl, dkN_sub d11 rfl, dkN_sub d95 rfl, (show dkN [(3, 3)] (I97 0 3) from dkN_sub f97_0_3 rfl), (show dkN [(1, 6)] (I97 25 11) from dkN_sub (by rw [hF97 25 11 rfl]; exact (by rw [hF26 25 11 rfl]; exact (by rw [hF13 25 11 rfl]; exact f1_25_11))) rfl), q9, q10, q21, q22, q89, q90, q91, q92, q93, q98, xv97, y99, trivial⟩)))))))))))⟩, dkW_eq ht hW⟩, hS.F ht⟩) hS.2.2 dX5_as_48
            ·
              exact absurd ((xv26).trans (rfl).symm) c96
          rcases hc26 with ⟨dv26, a26_0, a26_1, x26_0, x26_1, x26_2, x26_3, x26_4, xr26, -⟩ | hc26
          ·
            have q100 : p1.toInt ≠ (0 : Int) := x26_0
            have q101 : p1.toInt ≠ (1 : Int) := x26_1
            have q102 : p1.toInt ≠ (2 : Int) := x26_2
            have q103 : p1.toInt = (3 : Int) := x26_3
            have q104 : (I0 32 (Int32.toNatClampNeg p0)).toInt = p1.toInt := by have h := x26_4; rw [xv25] at h; exact h
            have xv26 : v26 = 1 := by have h := xr26; exact h
            have d105 : dkN [(3, 3)] v25 := dkN_eq1 (dkN_top v25) a26_0 rfl rfl
            have d106 : dkN [(3, 3)] p1 := dkN_eq1 d23 a26_1 rfl rfl
            refine lv_if_eq (tgt := 43) hx hb dX5_as_32 (by decide) (fun c107 => ?_) (fun c107 => ?_)
            ·
              exact (dkN_nil (show dkN [] v26 from dkN_eq1 dv26 (dkN_lit (x := 0) (0) rfl) (congrArg Int32.toInt c107) rfl)).elim
            ·
              refine lv_aload_n hx hb dX5_as_35 rfl (lv_at hl 0 rfl) ?_
              refine lv_iload_n hx hb dX5_as_36 rfl (lv_at hl 1 rfl) ?_
              refine dk_Vi (As := [.int p0]) (rest := []) ⟨hx, hb, hml, hown, hts⟩ (fx_X5_nothingFound_1 l g z I0 p0 hO) (cwV 1 hts gX5_as_X5_nothingFound rfl rfl rfl (by decide +kernel) ⟨Nat.le_of_ble_eq_true rfl, Nat.le_of_ble_eq_true rfl⟩) (dk_at0 hW) rfl hK hT hW hS rfl hl.1 rfl (Nat.le_of_ble_eq_true rfl) dX5_as_37 ⟨Nat.zero_le _, Nat.zero_le _⟩ (fun v108 I108 H108 L108 hp108 hW hS => ?_)
              obtain ⟨hF108, hO, hc108⟩ := hp108
              have hF := dkF_call hF hF108 rfl
              obtain ⟨_, f108_0_3, xr108, xh108_0, -⟩ := hc108
              have y109 : I108 0 3 = 0 := by have h := xh108_0; exact h
              have xv108 : v108 = p0 := by have h := xr108; exact h
              refine lv_goto (tgt := 48) hx hb dX5_as_40 (by decide) ?_
              exact W.iret (v := v108) hx hb hr (fun t ht hW9 => ⟨⟨v108, I108, rfl, ⟨hF, hO, Or.inr (Or.inr (Or.inr (Or.inr (Or.inr (Or.inr (Or.inr (Or.inr (Or.inr (Or.inr (Or.inr (Or.inr (Or.inl ⟨trivial, dkN_sub d11 rfl, dkN_sub d106 rfl, (show dkN [(0, 0)] (I108 0 3) from dkN_sub f108_0_3 rfl), (show dkN [(1, 6)] (I108 25 11) from dkN_sub (by rw [hF108 25 11 rfl]; exact (by rw [hF26 25 11 rfl]; exact (by rw [hF13 25 11 rfl]; exact f1_25_11))) rfl), q9, q10, q21, q22, q100, q101, q102, q103, q104, xv108, y109, trivial⟩))))))))))))⟩, dkW_eq ht hW⟩, hS.F ht⟩) hS.2.2 dX5_as_48
          rcases hc26 with ⟨dv26, a26_0, a26_1, x26_0, x26_1, x26_2, x26_3, x26_4, x26_5, xr26, -⟩ | hc26
          ·
            have q110 : p1.toInt ≠ (0 : Int) := x26_0
            have q111 : p1.toInt ≠ (1 : Int) := x26_1
            have q112 : p1.toInt ≠ (2 : Int) := x26_2
            have q113 : p1.toInt ≠ (3 : Int) := x26_3
            have q114 : p1.toInt = (4 : Int) := x26_4
            have q115 : (I0 32 (Int32.toNatClampNeg p0)).toInt = (4 : Int) := by have h := x26_5; rw [xv25] at h; exact h
            have xv26 : v26 = 1 := by have h := xr26; exact h
            have d116 : dkN [(4, 4)] v25 := dkN_eq1 (dkN_top v25) a26_0 rfl rfl
            have d117 : dkN [(4, 4)] p1 := dkN_eq1 d23 a26_1 rfl rfl
            refine lv_if_eq (tgt := 43) hx hb dX5_as_32 (by decide) (fun c118 => ?_) (fun c118 => ?_)
            ·
              exact (dkN_nil (show dkN [] v26 from dkN_eq1 dv26 (dkN_lit (x := 0) (0) rfl) (congrArg Int32.toInt c118) rfl)).elim
            ·
              refine lv_aload_n hx hb dX5_as_35 rfl (lv_at hl 0 rfl) ?_
              refine lv_iload_n hx hb dX5_as_36 rfl (lv_at hl 1 rfl) ?_
              refine dk_Vi (As := [.int p0]) (rest := []) ⟨hx, hb, hml, hown, hts⟩ (fx_X5_nothingFound_1 l g z I0 p0 hO) (cwV 1 hts gX5_as_X5_nothingFound rfl rfl rfl (by decide +kernel) ⟨Nat.le_of_ble_eq_true rfl, Nat.le_of_ble_eq_true rfl⟩) (dk_at0 hW) rfl hK hT hW hS rfl hl.1 rfl (Nat.le_of_ble_eq_true rfl) dX5_as_37 ⟨Nat.zero_le _, Nat.zero_le _⟩ (fun v119 I119 H119 L119 hp119 hW hS => ?_)
              obtain ⟨hF119, hO, hc119⟩ := hp119
              have hF := dkF_call hF hF119 rfl
              obtain ⟨_, f119_0_3, xr119, xh119_0, -⟩ := hc119
              have y120 : I119 0 3 = 0 := by have h := xh119_0; exact h
              have xv119 : v119 = p0 := by have h := xr119; exact h
              refine lv_goto (tgt := 48) hx hb dX5_as_40 (by decide) ?_
              exact W.iret (v := v119) hx hb hr (fun t ht hW9 => ⟨⟨v119, I119, rfl, ⟨hF, hO, Or.inr (Or.inr (Or.inr (Or.inr (Or.inr (Or.inr (Or.inr (Or.inr (Or.inr (Or.inr (Or.inr (Or.inr (Or.inr (Or.inl ⟨trivial, dkN_sub d11 rfl, dkN_sub d117 rfl, (show dkN [(0, 0)] (I119 0 3) from dkN_sub f119_0_3 rfl), (show dkN [(1, 6)] (I119 25 11) from dkN_sub (by rw [hF119 25 11 rfl]; exact (by rw [hF26 25 11 rfl]; exact (by rw [hF13 25 11 rfl]; exact f1_25_11))) rfl), q9, q10, q21, q22, q110, q111, q112, q113, q114, q115, xv119, y120, trivial⟩)))))))))))))⟩, dkW_eq ht hW⟩, hS.F ht⟩) hS.2.2 dX5_as_48
          rcases hc26 with ⟨dv26, a26_0, a26_1, x26_0, x26_1, x26_2, x26_3, x26_4, x26_5, x26_6, xr26, -⟩ | hc26
          ·
            have q121 : p1.toInt ≠ (0 : Int) := x26_0
            have q122 : p1.toInt ≠ (1 : Int) := x26_1
            have q123 : p1.toInt ≠ (2 : Int) := x26_2
            have q124 : p1.toInt ≠ (3 : Int) := x26_3
            have q125 : p1.toInt = (4 : Int) := x26_4
            have q126 : (I0 32 (Int32.toNatClampNeg p0)).toInt ≠ (4 : Int) := by have h := x26_5; rw [xv25] at h; exact h
            have q127 : (I0 32 (Int32.toNatClampNeg p0)).toInt ≠ (5 : Int) := by have h := x26_6; rw [xv25] at h; exact h
            have xv26 : v26 = 0 := by have h := xr26; exact h
            have d128 : dkN [(-2147483648, 3), (6, 2147483647)] v25 := dkN_eq1 (dkN_top v25) a26_0 rfl rfl
            have d129 : dkN [(4, 4)] p1 := dkN_eq1 d23 a26_1 rfl rfl
            refine lv_if_eq (tgt := 43) hx hb dX5_as_32 (by decide) (fun c130 => ?_) (fun c130 => ?_)
            ·
              refine lv_aload_n hx hb dX5_as_43 rfl (lv_at hl 0 rfl) ?_
              refine lv_iconst (v := 3) hx hb dX5_as_44 (by decide) ?_
              refine dk_Vi (As := [.int 3]) (rest := []) ⟨hx, hb, hml, hown, hts⟩ (fx_X5_found_9 l g z I0 3 (dkN_lit (x := 3) (3) rfl) hO) (cwV 1 hts gX5_as_X5_found rfl rfl rfl (by decide +kernel) ⟨Nat.le_of_ble_eq_true rfl, Nat.le_of_ble_eq_true rfl⟩) (dk_at0 hW) rfl hK hT hW hS rfl hl.1 rfl (Nat.le_of_ble_eq_true rfl) dX5_as_45 ⟨Nat.zero_le _, Nat.zero_le _⟩ (fun v131 I131 H131 L131 hp131 hW hS => ?_)
              obtain ⟨hF131, hO, hc131⟩ := hp131
              have hF := dkF_call hF hF131 rfl
              obtain ⟨dv131, f131_0_3, x131_0, xr131, xh131_0, -⟩ := hc131
              have q132 : ((-1000010 : Int32) - (3 : Int32)).toInt = (-1000010 : Int) - (3 : Int) := x131_0
              have y133 : I131 0 3 = 3 := by have h := xh131_0; exact h
              have xv131 : v131 = (-1000010 : Int32) - (3 : Int32) := by have h := xr131; exact h
              exact W.iret (v := v131) hx hb hr (fun t ht hW9 => ⟨⟨v131, I131, rfl, ⟨hF, hO, Or.inr (Or.inr (Or.inr (Or.inr (Or.inr (Or.inr (Or.inr (Or.inr (Or.inr (Or.inr (Or.inr (Or.inr (Or.inr (Or.inr (Or.inl ⟨dkN_sub dv131 rfl, dkN_sub d11 rfl, dkN_sub d129 rfl, (show dkN [(3, 3)] (I131 0 3) from dkN_sub f131_0_3 rfl), (show dkN [(1, 6)] (I131 25 11) from dkN_sub (by rw [hF131 25 11 rfl]; exact (by rw [hF26 25 11 rfl]; exact (by rw [hF13 25 11 rfl]; exact f1_25_11))) rfl), q9, q10, q21, q22, q121, q122, q123, q124, q125, q126, q127, q132, xv131, y133, trivial⟩))))))))))))))⟩, dkW_eq ht hW⟩, hS.F ht⟩) hS.2.2 dX5_as_48
            ·
              exact absurd ((xv26).trans (rfl).symm) c130
          rcases hc26 with ⟨dv26, a26_0, a26_1, x26_0, x26_1, x26_2, x26_3, x26_4, x26_5, x26_6, xr26, -⟩ | hc26
          ·
            have q134 : p1.toInt ≠ (0 : Int) := x26_0
            have q135 : p1.toInt ≠ (1 : Int) := x26_1
            have q136 : p1.toInt ≠ (2 : Int) := x26_2
            have q137 : p1.toInt ≠ (3 : Int) := x26_3
            have q138 : p1.toInt = (4 : Int) := x26_4
            have q139 : (I0 32 (Int32.toNatClampNeg p0)).toInt ≠ (4 : Int) := by have h := x26_5; rw [xv25] at h; exact h
            have q140 : (I0 32 (Int32.toNatClampNeg p0)).toInt = (5 : Int) := by have h := x26_6; rw [xv25] at h; exact h
            have xv26 : v26 = 1 := by have h := xr26; exact h
            have d141 : dkN [(5, 5)] v25 := dkN_eq1 (dkN_top v25) a26_0 rfl rfl
            have d142 : dkN [(4, 4)] p1 := dkN_eq1 d23 a26_1 rfl rfl
            refine lv_if_eq (tgt := 43) hx hb dX5_as_32 (by decide) (fun c143 => ?_) (fun c143 => ?_)
            ·
              exact (dkN_nil (show dkN [] v26 from dkN_eq1 dv26 (dkN_lit (x := 0) (0) rfl) (congrArg Int32.toInt c143) rfl)).elim
            ·
              refine lv_aload_n hx hb dX5_as_35 rfl (lv_at hl 0 rfl) ?_
              refine lv_iload_n hx hb dX5_as_36 rfl (lv_at hl 1 rfl) ?_
              refine dk_Vi (As := [.int p0]) (rest := []) ⟨hx, hb, hml, hown, hts⟩ (fx_X5_nothingFound_1 l g z I0 p0 hO) (cwV 1 hts gX5_as_X5_nothingFound rfl rfl rfl (by decide +kernel) ⟨Nat.le_of_ble_eq_true rfl, Nat.le_of_ble_eq_true rfl⟩) (dk_at0 hW) rfl hK hT hW hS rfl hl.1 rfl (Nat.le_of_ble_eq_true rfl) dX5_as_37 ⟨Nat.zero_le _, Nat.zero_le _⟩ (fun v144 I144 H144 L144 hp144 hW hS => ?_)
              obtain ⟨hF144, hO, hc144⟩ := hp144
              have hF := dkF_call hF hF144 rfl
              obtain ⟨_, f144_0_3, xr144, xh144_0, -⟩ := hc144
              have y145 : I144 0 3 = 0 := by have h := xh144_0; exact h
              have xv144 : v144 = p0 := by have h := xr144; exact h
              refine lv_goto (tgt := 48) hx hb dX5_as_40 (by decide) ?_
              exact W.iret (v := v144) hx hb hr (fun t ht hW9 => ⟨⟨v144, I144, rfl, ⟨hF, hO, Or.inr (Or.inr (Or.inr (Or.inr (Or.inr (Or.inr (Or.inr (Or.inr (Or.inr (Or.inr (Or.inr (Or.inr (Or.inr (Or.inr (Or.inr (Or.inl ⟨trivial, dkN_sub d11 rfl, dkN_sub d142 rfl, (show dkN [(0, 0)] (I144 0 3) from dkN_sub f144_0_3 rfl), (show dkN [(1, 6)] (I144 25 11) from dkN_sub (by rw [hF144 25 11 rfl]; exact (by rw [hF26 25 11 rfl]; exact (by rw [hF13 25 11 rfl]; exact f1_25_11))) rfl), q9, q10, q21, q22, q134, q135, q136, q137, q138, q139, q140, xv144, y145, trivial⟩)))))))))))))))⟩, dkW_eq ht hW⟩, hS.F ht⟩) hS.2.2 dX5_as_48
          rcases hc26 with ⟨dv26, a26_0, a26_1, x26_0, x26_1, x26_2, x26_3, x26_4, x26_5, xr26, -⟩ | hc26
          ·
            have q146 : p1.toInt ≠ (0 : Int) := x26_0
            have q147 : p1.toInt ≠ (1 : Int) := x26_1
            have q148 : p1.toInt ≠ (2 : Int) := x26_2
            have q149 : p1.toInt ≠ (3 : Int) := x26_3
            have q150 : p1.toInt ≠ (4 : Int) := x26_4
            have q151 : (I0 32 (Int32.toNatClampNeg p0)).toInt ≠ p1.toInt := by have h := x26_5; rw [xv25] at h; exact h
            have xv26 : v26 = 0 := by have h := xr26; exact h
            have d152 : dkN [(-2147483648, 4), (6, 2147483647)] v25 := dkN_eq1 (dkN_top v25) a26_0 rfl rfl
            have d153 : dkN [(5, 5)] p1 := dkN_eq1 d23 a26_1 rfl rfl
            refine lv_if_eq (tgt := 43) hx hb dX5_as_32 (by decide) (fun c154 => ?_) (fun c154 => ?_)
            ·
              refine lv_aload_n hx hb dX5_as_43 rfl (lv_at hl 0 rfl) ?_
              refine lv_iconst (v := 3) hx hb dX5_as_44 (by decide) ?_
              refine dk_Vi (As := [.int 3]) (rest := []) ⟨hx, hb, hml, hown, hts⟩ (fx_X5_found_9 l g z I0 3 (dkN_lit (x := 3) (3) rfl) hO) (cwV 1 hts gX5_as_X5_found rfl rfl rfl (by decide +kernel) ⟨Nat.le_of_ble_eq_true rfl, Nat.le_of_ble_eq_true rfl⟩) (dk_at0 hW) rfl hK hT hW hS rfl hl.1 rfl (Nat.le_of_ble_eq_true rfl) dX5_as_45 ⟨Nat.zero_le _, Nat.zero_le _⟩ (fun v155 I155 H155 L155 hp155 hW hS => ?_)
              obtain ⟨hF155, hO, hc155⟩ := hp155
              have hF := dkF_call hF hF155 rfl
              obtain ⟨dv155, f155_0_3, x155_0, xr155, xh155_0, -⟩ := hc155
              have q156 : ((-1000010 : Int32) - (3 : Int32)).toInt = (-1000010 : Int) - (3 : Int) := x155_0
              have y157 : I155 0 3 = 3 := by have h := xh155_0; exact h
              have xv155 : v155 = (-1000010 : Int32) - (3 : Int32) := by have h := xr155; exact h
              exact W.iret (v := v155) hx hb hr (fun t ht hW9 => ⟨⟨v155, I155, rfl, ⟨hF, hO, Or.inr (Or.inr (Or.inr (Or.inr (Or.inr (Or.inr (Or.inr (Or.inr (Or.inr (Or.inr (Or.inr (Or.inr (Or.inr (Or.inr (Or.inr (Or.inr (Or.inl ⟨dkN_sub dv155 rfl, dkN_sub d11 rfl, dkN_sub d153 rfl, (show dkN [(3, 3)] (I155 0 3) from dkN_sub f155_0_3 rfl), (show dkN [(1, 6)] (I155 25 11) from dkN_sub (by rw [hF155 25 11 rfl]; exact (by rw [hF26 25 11 rfl]; exact (by rw [hF13 25 11 rfl]; exact f1_25_11))) rfl), q9, q10, q21, q22, q146, q147, q148, q149, q150, q151, q156, xv155, y157, trivial⟩))))))))))))))))⟩, dkW_eq ht hW⟩, hS.F ht⟩) hS.2.2 dX5_as_48
            ·
              exact absurd ((xv26).trans (rfl).symm) c154
          ·
            obtain ⟨dv26, a26_0, a26_1, x26_0, x26_1, x26_2, x26_3, x26_4, x26_5, xr26, -⟩ := hc26
            have q158 : p1.toInt ≠ (0 : Int) := x26_0
            have q159 : p1.toInt ≠ (1 : Int) := x26_1
            have q160 : p1.toInt ≠ (2 : Int) := x26_2
            have q161 : p1.toInt ≠ (3 : Int) := x26_3
            have q162 : p1.toInt ≠ (4 : Int) := x26_4
            have q163 : (I0 32 (Int32.toNatClampNeg p0)).toInt = p1.toInt := by have h := x26_5; rw [xv25] at h; exact h
            have xv26 : v26 = 1 := by have h := xr26; exact h
            have d164 : dkN [(5, 5)] v25 := dkN_eq1 (dkN_top v25) a26_0 rfl rfl
            have d165 : dkN [(5, 5)] p1 := dkN_eq1 d23 a26_1 rfl rfl
            refine lv_if_eq (tgt := 43) hx hb dX5_as_32 (by decide) (fun c166 => ?_) (fun c166 => ?_)
            ·
              exact (dkN_nil (show dkN [] v26 from dkN_eq1 dv26 (dkN_lit (x := 0) (0) rfl) (congrArg Int32.toInt c166) rfl)).elim
            ·
              refine lv_aload_n hx hb dX5_as_35 rfl (lv_at hl 0 rfl) ?_
              refine lv_iload_n hx hb dX5_as_36 rfl (lv_at hl 1 rfl) ?_
              refine dk_Vi (As := [.int p0]) (rest := []) ⟨hx, hb, hml, hown, hts⟩ (fx_X5_nothingFound_1 l g z I0 p0 hO) (cwV 1 hts gX5_as_X5_nothingFound rfl rfl rfl (by decide +kernel) ⟨Nat.le_of_ble_eq_true rfl, Nat.le_of_ble_eq_true rfl⟩) (dk_at0 hW) rfl hK hT hW hS rfl hl.1 rfl (Nat.le_of_ble_eq_true rfl) dX5_as_37 ⟨Nat.zero_le _, Nat.zero_le _⟩ (fun v167 I167 H167 L167 hp167 hW hS => ?_)
              obtain ⟨hF167, hO, hc167⟩ := hp167
              have hF := dkF_call hF hF167 rfl
              obtain ⟨_, f167_0_3, xr167, xh167_0, -⟩ := hc167
              have y168 : I167 0 3 = 0 := by have h := xh167_0; exact h
              have xv167 : v167 = p0 := by have h := xr167; exact h
              refine lv_goto (tgt := 48) hx hb dX5_as_40 (by decide) ?_
              exact W.iret (v := v167) hx hb hr (fun t ht hW9 => ⟨⟨v167, I167, rfl, ⟨hF, hO, Or.inr (Or.inr (Or.inr (Or.inr (Or.inr (Or.inr (Or.inr (Or.inr (Or.inr (Or.inr (Or.inr (Or.inr (Or.inr (Or.inr (Or.inr (Or.inr (Or.inr (⟨trivial, dkN_sub d11 rfl, dkN_sub d165 rfl, (show dkN [(0, 0)] (I167 0 3) from dkN_sub f167_0_3 rfl), (show dkN [(1, 6)] (I167 25 11) from dkN_sub (by rw [hF167 25 11 rfl]; exact (by rw [hF26 25 11 rfl]; exact (by rw [hF13 25 11 rfl]; exact f1_25_11))) rfl), q9, q10, q21, q22, q158, q159, q160, q161, q162, q163, xv167, y168, trivial⟩)))))))))))))))))⟩, dkW_eq ht hW⟩, hS.F ht⟩) hS.2.2 dX5_as_48
        ·
          exact (dkN_nil (show dkN [] v13 from dkN_eq1 dv13 (dkN_lit (x := 0) (0) rfl) (congrArg Int32.toInt c24) rfl)).elim
set_option maxHeartbeats 4000000 in
set_option maxRecDepth 100000 in
theorem fx_X6_in_43 (l : Launch) (g : dkG) (z : Nat) (I0 : dkI) (p0 : Int32) (p1 : Int32) (p2 : Int32) (dp1 : dkN [(0, 0)] p1) (dp2 : dkN [(5, 5)] p2)  (hO : dkOk I0) : Met l yX6_in wsX6_in (dkR 0) (dkPc g z [.int p0, .int p1, .int p2] I0) (dkQi g z (fun r I1 => dkF [] I0 I1 ∧ dkOk I1 ∧ ((dkN [(0, 0)] r ∧ dkN [(-2147483648, -1)] p0 ∧ p0.toInt + 1 ≤ p1.toInt ∧ r = 0 ∧ True) ∨ (dkN [(0, 0)] r ∧ dkN [(6, 2147483647)] p0 ∧ p1.toInt + 0 ≤ p0.toInt ∧ p2.toInt + 1 ≤ p0.toInt ∧ r = 0 ∧ True) ∨ (dkN [(1, 1)] r ∧ dkN [(0, 5)] p0 ∧ p1.toInt + 0 ≤ p0.toInt ∧ p0.toInt + 0 ≤ p2.toInt ∧ r = 1 ∧ True)))) 0 0 (dkA z) := by
  refine Met.ofW (cc := cX6_in) (maxL := 3) (ret := (some .boolean)) (by decide) rfl ?_
  intro p e s m args below meth c s₁ B hml hv
  obtain ⟨ha, hW, hK, hT⟩ := hv
  have hx := B.exec
  have hb := B.bytes
  have hr := B.returns
  have hts := atoms_spec (ws := wsX6_in) B.pre
  have hown : s.vm.findClass RX6 = some m.cls := findClass_of_methodNamed B.named
  have hlocks := B.notSynchronized
  have hS : va_S (dkA z) s.heap s.heap [] := va_S.rf
  have hF : dkF [] I0 I0 := dkF_rf _ _
  have hl := lv_entry ([.int p0, .int p1, .int p2]) (n := 3) (Nat.le_of_ble_eq_true rfl)
  have hgo : entryFrame m args 3 = entryFrame m ([.int p0, .int p1, .int p2] : List Value).toArray 3 := by rw [ha]
  rw [hgo, lg_entry_eq]
  generalize (lg_sl ([.int p0, .int p1, .int p2]) ++ List.replicate (3 - (lg_sl ([.int p0, .int p1, .int p2])).length) Slot.unset).toArray = ls at hl ⊢
  have hl : lv_has ls 3 [(0, .int p0), (1, .int p1), (2, .int p2)] := hl
  refine lv_iload_n hx hb dX6_in_0 rfl (lv_at hl 0 rfl) ?_
  refine lv_iload_n hx hb dX6_in_1 rfl (lv_at hl 1 rfl) ?_
  refine lv_icmp_lt (tgt := 14) hx hb dX6_in_2 (by decide) (fun c1 => ?_) (fun c1 => ?_)
  ·
    have q2 : p0.toInt + 1 ≤ p1.toInt := (dkc_lt c1)
    have d3 : dkN [(-2147483648, -1)] p0 := dkN_le1 1 (dkN_top p0) dp1 (dkc_lt c1) rfl
    refine lv_iconst (v := 0) hx hb dX6_in_14 (by decide) ?_
    exact W.zret (v := 0) (ty := .boolean) hx hb hr rfl (fun t ht hW9 => ⟨⟨0, I0, rfl, ⟨hF, hO, Or.inl ⟨dkN_sub (dkN_lit (x := 0) (0) rfl) rfl, dkN_sub d3 rfl, q2, rfl, trivial⟩⟩, dkW_eq ht hW⟩, hS.F ht⟩) hS.2.2 dX6_in_15
  ·
    have q4 : p1.toInt + 0 ≤ p0.toInt := (dkc_nlt c1)
    have d5 : dkN [(0, 2147483647)] p0 := dkN_le2 0 dp1 (dkN_top p0) (dkc_nlt c1) rfl
    refine lv_iload_n hx hb dX6_in_5 rfl (lv_at hl 0 rfl) ?_
    refine lv_iload_n hx hb dX6_in_6 rfl (lv_at hl 2 rfl) ?_
    refine lv_icmp_gt (tgt := 14) hx hb dX6_in_7 (by decide) (fun c6 => ?_) (fun c6 => ?_)
    ·
      have q7 : p2.toInt + 1 ≤ p0.toInt := (dkc_lt c6)
      have d8 : dkN [(6, 2147483647)] p0 := dkN_le2 1 dp2 d5 (dkc_lt c6) rfl
      refine lv_iconst (v := 0) hx hb dX6_in_14 (by decide) ?_
      exact W.zret (v := 0) (ty := .boolean) hx hb hr rfl (fun t ht hW9 => ⟨⟨0, I0, rfl, ⟨hF, hO, Or.inr (Or.inl ⟨dkN_sub (dkN_lit (x := 0) (0) rfl) rfl, dkN_sub d8 rfl, q4, q7, rfl, trivial⟩)⟩, dkW_eq ht hW⟩, hS.F ht⟩) hS.2.2 dX6_in_15
    ·
      have q9 : p0.toInt + 0 ≤ p2.toInt := (dkc_nlt c6)
      have d10 : dkN [(0, 5)] p0 := dkN_le1 0 d5 dp2 (dkc_nlt c6) rfl
      refine lv_iconst (v := 1) hx hb dX6_in_10 (by decide) ?_
      refine lv_goto (tgt := 15) hx hb dX6_in_11 (by decide) ?_
      exact W.zret (v := 1) (ty := .boolean) hx hb hr rfl (fun t ht hW9 => ⟨⟨1, I0, rfl, ⟨hF, hO, Or.inr (Or.inr (⟨dkN_sub (dkN_lit (x := 1) (1) rfl) rfl, dkN_sub d10 rfl, q4, q9, rfl, trivial⟩))⟩, dkW_eq ht hW⟩, hS.F ht⟩) hS.2.2 dX6_in_15
set_option maxHeartbeats 4000000 in
set_option maxRecDepth 100000 in
theorem fx_X6_kindIn_1 (l : Launch) (g : dkG) (z : Nat) (I0 : dkI) (p0 : Int32) (dp0 : dkN [(0, 5)] p0)  (hO : dkOk I0) : Met l yX6_kindIn wsX6_kindIn (dkR 0) (dkPc g z [.ref (z + 340), .int p0] I0) (dkQi g z (fun r I1 => dkF [] I0 I1 ∧ dkOk I1 ∧ ((True ∧ ((3 : Int32) * p0).toInt = (3 : Int) * p0.toInt ∧ ((36 : Int32) + ((3 : Int32) * p0)).toInt = (36 : Int) + ((3 : Int32) * p0).toInt ∧ r = I0 346 (Int32.toNatClampNeg ((36 : Int32) + ((3 : Int32) * p0))) ∧ True)))) 0 0 (dkA z) := by
  refine Met.ofW (cc := cX6_kindIn) (maxL := 2) (ret := (some .int)) (by decide) rfl ?_
  intro p e s m args below meth c s₁ B hml hv
  obtain ⟨ha, hW, hK, hT⟩ := hv
  have hx := B.exec
  have hb := B.bytes
  have hr := B.returns
  have hts := atoms_spec (ws := wsX6_kindIn) B.pre
  have hown : s.vm.findClass RX6 = some m.cls := findClass_of_methodNamed B.named
  have hlocks := B.notSynchronized
  have hS : va_S (dkA z) s.heap s.heap [] := va_S.rf
  have hF : dkF [] I0 I0 := dkF_rf _ _
  have hl := lv_entry ([.ref (z + 340), .int p0]) (n := 2) (Nat.le_of_ble_eq_true rfl)
  have hgo : entryFrame m args 2 = entryFrame m ([.ref (z + 340), .int p0] : List Value).toArray 2 := by rw [ha]
  rw [hgo, lg_entry_eq]
  generalize (lg_sl ([.ref (z + 340), .int p0]) ++ List.replicate (2 - (lg_sl ([.ref (z + 340), .int p0])).length) Slot.unset).toArray = ls at hl ⊢
  have hl : lv_has ls 2 [(0, .ref (z + 340)), (1, .int p0)] := hl
  refine lv_aload_n hx hb dX6_kindIn_0 rfl (lv_at hl 0 rfl) ?_
  refine dk_get (k := 340) hx hb hts iX6_kindIn_6 hown hK (dk_at340 hW) rfl 13 (by decide) (hts (.fieldLink RX6 25 "DogKingsModel" "now" "[I") (List.mem_of_getElem? (i := 1) rfl)) rfl dX6_kindIn_1 ?_
  refine lv_bipush (v := 36) hx hb dX6_kindIn_4 (by decide) ?_
  refine lv_iconst (v := 3) hx hb dX6_kindIn_6 (by decide) ?_
  refine lv_iload_n hx hb dX6_kindIn_7 rfl (lv_at hl 1 rfl) ?_
  refine lv_imul hx hb dX6_kindIn_8 ?_
  refine lv_topi (fun v1 ev1 => ?_)
  have dv1 : dkN [(0, 0), (3, 3), (6, 6), (9, 9), (12, 12), (15, 15)] v1 := by rw [ev1]; exact dkN_mulPt 3 (dkN_lit (x := 3) (3) rfl) dp0 rfl
  have xv1 : v1 = (3 : Int32) * p0 := by rw [ev1]
  have q2 : ((3 : Int32) * p0).toInt = (3 : Int) * p0.toInt := by first | (rw [← xv1]; exact (by rw [ev1]; exact dk_mulE 3 (x := 3) rfl dp0 (by decide) rfl)) | (subst xv1; exact (by rw [ev1]; exact dk_mulE 3 (x := 3) rfl dp0 (by decide) rfl))
  refine lv_iadd hx hb dX6_kindIn_9 ?_
  refine lv_topi (fun v3 ev3 => ?_)
  have dv3 : dkN [(36, 36), (39, 39), (42, 42), (45, 45), (48, 48), (51, 51)] v3 := by rw [ev3]; exact dkN_add (dkN_lit (x := 36) (36) rfl) dv1 rfl
  have xv3 : v3 = (36 : Int32) + ((3 : Int32) * p0) := by rw [ev3, xv1]
  have q4 : ((36 : Int32) + ((3 : Int32) * p0)).toInt = (36 : Int) + ((3 : Int32) * p0).toInt := by first | (rw [← xv3, ← xv1]; exact (by rw [ev3]; exact dk_addE (dkN_lit (x := 36) (36) rfl) dv1 rfl)) | (subst xv3 xv1; exact (by rw [ev3]; exact dk_addE (dkN_lit (x := 36) (36) rfl) dv1 rfl))
  refine dk_ild (k := 346) hx hb hK (dk_at346 hW) (dkN_in (n := 54) dv3 rfl) dX6_kindIn_10 ?_
  refine lv_topi (fun v5 ev5 => ?_)
  have xv5 : v5 = I0 346 (Int32.toNatClampNeg ((36 : Int32) + ((3 : Int32) * p0))) := ev5.trans (by rw [xv3])
  exact W.iret (v := v5) hx hb hr (fun t ht hW9 => ⟨⟨v5, I0, rfl, ⟨hF, hO, ⟨trivial, q2, q4, xv5, trivial⟩⟩, dkW_eq ht hW⟩, hS.F ht⟩) hS.2.2 dX6_kindIn_11
set_option maxHeartbeats 4000000 in
set_option maxRecDepth 100000 in
theorem fx_X6_found_9 (l : Launch) (g : dkG) (z : Nat) (I0 : dkI) (p0 : Int32) (dp0 : dkN [(3, 3)] p0)  (hO : dkOk I0) : Met l yX6_found wsX6_found (dkR 0) (dkPc g z [.ref (z + 340), .int p0] I0) (dkQi g z (fun r I1 => dkF [(340, 340, 4, 4)] I0 I1 ∧ dkOk I1 ∧ ((dkN [(-1000013, -1000013)] r ∧ dkN [(3, 3)] (I1 340 4) ∧ ((-1000010 : Int32) - p0).toInt = (-1000010 : Int) - p0.toInt ∧ r = (-1000010 : Int32) - p0 ∧ I1 340 4 = p0 ∧ True)))) 0 0 (dkA z) := by
  refine Met.ofW (cc := cX6_found) (maxL := 2) (ret := (some .int)) (by decide) rfl ?_
  intro p e s m args below meth c s₁ B hml hv
  obtain ⟨ha, hW, hK, hT⟩ := hv
  have hx := B.exec
  have hb := B.bytes
  have hr := B.returns
  have hts := atoms_spec (ws := wsX6_found) B.pre
  have hown : s.vm.findClass RX6 = some m.cls := findClass_of_methodNamed B.named
  have hlocks := B.notSynchronized
  have hS : va_S (dkA z) s.heap s.heap [] := va_S.rf
  have hF : dkF [(340, 340, 4, 4)] I0 I0 := dkF_rf _ _
  have hl := lv_entry ([.ref (z + 340), .int p0]) (n := 2) (Nat.le_of_ble_eq_true rfl)
  have hgo : entryFrame m args 2 = entryFrame m ([.ref (z + 340), .int p0] : List Value).toArray 2 := by rw [ha]
  rw [hgo, lg_entry_eq]
  generalize (lg_sl ([.ref (z + 340), .int p0]) ++ List.replicate (2 - (lg_sl ([.ref (z + 340), .int p0])).length) Slot.unset).toArray = ls at hl ⊢
  have hl : lv_has ls 2 [(0, .ref (z + 340)), (1, .int p0)] := hl
  refine lv_aload_n hx hb dX6_found_0 rfl (lv_at hl 0 rfl) ?_
  refine lv_iload_n hx hb dX6_found_1 rfl (lv_at hl 1 rfl) ?_
  refine dk_put (k := 340) hx hb hts iX6_found_6 tyX6 tyX6_ok nmX6 hown hK hW (dk_at340 hW) hS rfl 4 (by decide) (hts (.fieldLink RX6 51 "DogKingsModel" "status" "I") (List.mem_of_getElem? (i := 1) rfl)) rfl rfl (Nat.le_of_ble_eq_true rfl) rfl dX6_found_2 (fun I1 H1 L1 eI1 hW hS => ?_)
  have eI1 : I1 = dkU I0 340 4 p0 := eI1
  have hO := dkO_set hO eI1 (dkN_sub dp0 rfl)
  have hF := dkF_set hF eI1 rfl
  refine lv_ldc (v := (-1000010)) hx hb hown (hts (.constant RX6 55 (-1000010)) (List.mem_of_getElem? (i := 2) rfl)) dX6_found_5 ?_
  refine lv_iload_n hx hb dX6_found_7 rfl (lv_at hl 1 rfl) ?_
  refine lv_isub hx hb dX6_found_8 ?_
  refine lv_topi (fun v2 ev2 => ?_)
  have dv2 : dkN [(-1000013, -1000013)] v2 := by rw [ev2]; exact dkN_subt (dkN_lit (x := (-1000010)) (-1000010) rfl) dp0 rfl
  have xv2 : v2 = (-1000010 : Int32) - p0 := by rw [ev2]
  have q3 : ((-1000010 : Int32) - p0).toInt = (-1000010 : Int) - p0.toInt := by first | (rw [← xv2]; exact (by rw [ev2]; exact dk_subE (dkN_lit (x := (-1000010)) (-1000010) rfl) dp0 rfl)) | (subst xv2; exact (by rw [ev2]; exact dk_subE (dkN_lit (x := (-1000010)) (-1000010) rfl) dp0 rfl))
  exact W.iret (v := v2) hx hb hr (fun t ht hW9 => ⟨⟨v2, I1, rfl, ⟨hF, hO, ⟨dkN_sub dv2 rfl, (show dkN [(3, 3)] (I1 340 4) from dkN_sub (by rw [eI1, dkU_ss]; exact dp0) rfl), q3, xv2, (by rw [eI1, dkU_ss]), trivial⟩⟩, dkW_eq ht hW⟩, hS.F ht⟩) hS.2.2 dX6_found_9
set_option maxHeartbeats 4000000 in
set_option maxRecDepth 100000 in
theorem fx_X6_as_1 (l : Launch) (g : dkG) (z : Nat) (I0 : dkI) (p0 : Int32) (p1 : Int32)  (hO : dkOk I0) : Met l yX6_as wsX6_as (dkR 2) (dkPc g z [.ref (z + 340), .int p0, .int p1] I0) (dkQi g z (fun r I1 => dkF [(340, 340, 4, 4)] I0 I1 ∧ dkOk I1 ∧ ((dkN [(-1000001, -1000001)] r ∧ dkN [(-2147483648, -1)] p0 ∧ ((I0 346 5) - (1 : Int32)).toInt = (I0 346 5).toInt - (1 : Int) ∧ p0.toInt + 1 ≤ (0 : Int) ∧ r = (-1000001) ∧ I1 340 4 = I0 340 4 ∧ True) ∨ (dkN [(-1000001, -1000001)] r ∧ dkN [(0, 2147483647)] p0 ∧ ((I0 346 5) - (1 : Int32)).toInt = (I0 346 5).toInt - (1 : Int) ∧ (0 : Int) + 0 ≤ p0.toInt ∧ ((I0 346 5) - (1 : Int32)).toInt + 1 ≤ p0.toInt ∧ r = (-1000001) ∧ I1 340 4 = I0 340 4 ∧ True) ∨ (dkN [(-1000001, -1000001)] r ∧ dkN [(0, 5)] p0 ∧ dkN [(-2147483648, -1)] p1 ∧ ((I0 346 5) - (1 : Int32)).toInt = (I0 346 5).toInt - (1 : Int) ∧ (0 : Int) + 0 ≤ p0.toInt ∧ p0.toInt + 0 ≤ ((I0 346 5) - (1 : Int32)).toInt ∧ p1.toInt + 1 ≤ (0 : Int) ∧ r = (-1000001) ∧ I1 340 4 = I0 340 4 ∧ True) ∨ (dkN [(-1000001, -1000001)] r ∧ dkN [(0, 5)] p0 ∧ dkN [(6, 2147483647)] p1 ∧ ((I0 346 5) - (1 : Int32)).toInt = (I0 346 5).toInt - (1 : Int) ∧ (0 : Int) + 0 ≤ p0.toInt ∧ p0.toInt + 0 ≤ ((I0 346 5) - (1 : Int32)).toInt ∧ (0 : Int) + 0 ≤ p1.toInt ∧ (5 : Int) + 1 ≤ p1.toInt ∧ r = (-1000001) ∧ I1 340 4 = I0 340 4 ∧ True) ∨ (True ∧ dkN [(0, 5)] p0 ∧ dkN [(0, 0)] p1 ∧ dkN [(0, 0)] (I1 340 4) ∧ ((I0 346 5) - (1 : Int32)).toInt = (I0 346 5).toInt - (1 : Int) ∧ (0 : Int) + 0 ≤ p0.toInt ∧ p0.toInt + 0 ≤ ((I0 346 5) - (1 : Int32)).toInt ∧ (0 : Int) + 0 ≤ p1.toInt ∧ p1.toInt + 0 ≤ (5 : Int) ∧ ((3 : Int32) * p0).toInt = (3 : Int) * p0.toInt ∧ ((36 : Int32) + ((3 : Int32) * p0)).toInt = (36 : Int) + ((3 : Int32) * p0).toInt ∧ p1.toInt = (0 : Int) ∧ r = p0 ∧ I1 340 4 = 0 ∧ True) ∨ (True ∧ dkN [(0, 5)] p0 ∧ dkN [(1, 5)] p1 ∧ dkN [(0, 0)] (I1 340 4) ∧ ((I0 346 5) - (1 : Int32)).toInt = (I0 346 5).toInt - (1 : Int) ∧ (0 : Int) + 0 ≤ p0.toInt ∧ p0.toInt + 0 ≤ ((I0 346 5) - (1 : Int32)).toInt ∧ (0 : Int) + 0 ≤ p1.toInt ∧ p1.toInt + 0 ≤ (5 : Int) ∧ ((3 : Int32) * p0).toInt = (3 : Int) * p0.toInt ∧ ((36 : Int32) + ((3 : Int32) * p0)).toInt = (36 : Int) + ((3 : Int32) * p0).toInt ∧ p1.toInt ≠ (0 : Int) ∧ p1.toInt = (I0 346 (Int32.toNatClampNeg ((36 : Int32) + ((3 : Int32) * p0)))).toInt ∧ r = p0 ∧ I1 340 4 = 0 ∧ True) ∨ (dkN [(-1000013, -1000013)] r ∧ dkN [(0, 5)] p0 ∧ dkN [(2, 3), (5, 5)] p1 ∧ dkN [(3, 3)] (I1 340 4) ∧ ((I0 346 5) - (1 : Int32)).toInt = (I0 346 5).toInt - (1 : Int) ∧ (0 : Int) + 0 ≤ p0.toInt ∧ p0.toInt + 0 ≤ ((I0 346 5) - (1 : Int32)).toInt ∧ (0 : Int) + 0 ≤ p1.toInt ∧ p1.toInt + 0 ≤ (5 : Int) ∧ ((3 : Int32) * p0).toInt = (3 : Int) * p0.toInt ∧ ((36 : Int32) + ((3 : Int32) * p0)).toInt = (36 : Int) + ((3 : Int32) * p0).toInt ∧ p1.toInt ≠ (0 : Int) ∧ p1.toInt ≠ (I0 346 (Int32.toNatClampNeg ((36 : Int32) + ((3 : Int32) * p0)))).toInt ∧ p1.toInt ≠ (1 : Int) ∧ p1.toInt ≠ (4 : Int) ∧ ((-1000010 : Int32) - (3 : Int32)).toInt = (-1000010 : Int) - (3 : Int) ∧ r = (-1000010 : Int32) - (3 : Int32) ∧ I1 340 4 = 3 ∧ True) ∨ (dkN [(-1000013, -1000013)] r ∧ dkN [(0, 5)] p0 ∧ dkN [(4, 4)] p1 ∧ dkN [(3, 3)] (I1 340 4) ∧ ((I0 346 5) - (1 : Int32)).toInt = (I0 346 5).toInt - (1 : Int) ∧ (0 : Int) + 0 ≤ p0.toInt ∧ p0.toInt + 0 ≤ ((I0 346 5) - (1 : Int32)).toInt ∧ (0 : Int) + 0 ≤ p1.toInt ∧ p1.toInt + 0 ≤ (5 : Int) ∧ ((3 : Int32) * p0).toInt = (3 : Int) * p0.toInt ∧ ((36 : Int32) + ((3 : Int32) * p0)).toInt = (36 : Int) + ((3 : Int32) * p0).toInt ∧ p1.toInt ≠ (0 : Int) ∧ p1.toInt ≠ (I0 346 (Int32.toNatClampNeg ((36 : Int32) + ((3 : Int32) * p0)))).toInt ∧ p1.toInt ≠ (1 : Int) ∧ p1.toInt = (4 : Int) ∧ (I0 346 (Int32.toNatClampNeg ((36 : Int32) + ((3 : Int32) * p0)))).toInt ≠ (5 : Int) ∧ ((-1000010 : Int32) - (3 : Int32)).toInt = (-1000010 : Int) - (3 : Int) ∧ r = (-1000010 : Int32) - (3 : Int32) ∧ I1 340 4 = 3 ∧ True) ∨ (True ∧ dkN [(0, 5)] p0 ∧ dkN [(4, 4)] p1 ∧ dkN [(0, 0)] (I1 340 4) ∧ ((I0 346 5) - (1 : Int32)).toInt = (I0 346 5).toInt - (1 : Int) ∧ (0 : Int) + 0 ≤ p0.toInt ∧ p0.toInt + 0 ≤ ((I0 346 5) - (1 : Int32)).toInt ∧ (0 : Int) + 0 ≤ p1.toInt ∧ p1.toInt + 0 ≤ (5 : Int) ∧ ((3 : Int32) * p0).toInt = (3 : Int) * p0.toInt ∧ ((36 : Int32) + ((3 : Int32) * p0)).toInt = (36 : Int) + ((3 : Int32) * p0).toInt ∧ p1.toInt ≠ (0 : Int) ∧ p1.toInt ≠ (I0 346 (Int32.toNatClampNeg ((36 : Int32) + ((3 : Int32) * p0)))).toInt ∧ p1.toInt ≠ (1 : Int) ∧ p1.toInt = (4 : Int) ∧ (I0 346 (Int32.toNatClampNeg ((36 : Int32) + ((3 : Int32) * p0)))).toInt = (5 : Int) ∧ r = p0 ∧ I1 340 4 = 0 ∧ True) ∨ (True ∧ dkN [(0, 5)] p0 ∧ dkN [(1, 1)] p1 ∧ dkN [(0, 0)] (I1 340 4) ∧ ((I0 346 5) - (1 : Int32)).toInt = (I0 346 5).toInt - (1 : Int) ∧ (0 : Int) + 0 ≤ p0.toInt ∧ p0.toInt + 0 ≤ ((I0 346 5) - (1 : Int32)).toInt ∧ (0 : Int) + 0 ≤ p1.toInt ∧ p1.toInt + 0 ≤ (5 : Int) ∧ ((3 : Int32) * p0).toInt = (3 : Int) * p0.toInt ∧ ((36 : Int32) + ((3 : Int32) * p0)).toInt = (36 : Int) + ((3 : Int32) * p0).toInt ∧ p1.toInt ≠ (0 : Int) ∧ p1.toInt ≠ (I0 346 (Int32.toNatClampNeg ((36 : Int32) + ((3 : Int32) * p0)))).toInt ∧ p1.toInt = (1 : Int) ∧ (I0 346 (Int32.toNatClampNeg ((36 : Int32) + ((3 : Int32) * p0)))).toInt + 1 ≤ (4 : Int) ∧ r = p0 ∧ I1 340 4 = 0 ∧ True) ∨ (dkN [(-1000013, -1000013)] r ∧ dkN [(0, 5)] p0 ∧ dkN [(1, 1)] p1 ∧ dkN [(3, 3)] (I1 340 4) ∧ ((I0 346 5) - (1 : Int32)).toInt = (I0 346 5).toInt - (1 : Int) ∧ (0 : Int) + 0 ≤ p0.toInt ∧ p0.toInt + 0 ≤ ((I0 346 5) - (1 : Int32)).toInt ∧ (0 : Int) + 0 ≤ p1.toInt ∧ p1.toInt + 0 ≤ (5 : Int) ∧ ((3 : Int32) * p0).toInt = (3 : Int) * p0.toInt ∧ ((36 : Int32) + ((3 : Int32) * p0)).toInt = (36 : Int) + ((3 : Int32) * p0).toInt ∧ p1.toInt ≠ (0 : Int) ∧ p1.toInt ≠ (I0 346 (Int32.toNatClampNeg ((36 : Int32) + ((3 : Int32) * p0)))).toInt ∧ p1.toInt = (1 : Int) ∧ (4 : Int) + 0 ≤ (I0 346 (Int32.toNatClampNeg ((36 : Int32) + ((3 : Int32) * p0)))).toInt ∧ p1.toInt ≠ (4 : Int) ∧ ((-1000010 : Int32) - (3 : Int32)).toInt = (-1000010 : Int) - (3 : Int) ∧ r = (-1000010 : Int32) - (3 : Int32) ∧ I1 340 4 = 3 ∧ True)))) 0 0 (dkA z) := by
  refine Met.ofW (cc := cX6_as) (maxL := 5) (ret := (some .int)) (by decide) rfl ?_
  intro p e s m args below meth c s₁ B hml hv
  obtain ⟨ha, hW, hK, hT⟩ := hv
  have hx := B.exec
  have hb := B.bytes
  have hr := B.returns
  have hts := atoms_spec (ws := wsX6_as) B.pre
  have hown : s.vm.findClass RX6 = some m.cls := findClass_of_methodNamed B.named
  have hlocks := B.notSynchronized
  have hS : va_S (dkA z) s.heap s.heap [] := va_S.rf
  have hF : dkF [(340, 340, 4, 4)] I0 I0 := dkF_rf _ _
  have hl := lv_entry ([.ref (z + 340), .int p0, .int p1]) (n := 5) (Nat.le_of_ble_eq_true rfl)
  have hgo : entryFrame m args 5 = entryFrame m ([.ref (z + 340), .int p0, .int p1] : List Value).toArray 5 := by rw [ha]
  rw [hgo, lg_entry_eq]
  generalize (lg_sl ([.ref (z + 340), .int p0, .int p1]) ++ List.replicate (5 - (lg_sl ([.ref (z + 340), .int p0, .int p1])).length) Slot.unset).toArray = ls at hl ⊢
  have hl : lv_has ls 5 [(0, .ref (z + 340)), (1, .int p0), (2, .int p1)] := hl
  refine lv_aload_n hx hb dX6_as_0 rfl (lv_at hl 0 rfl) ?_
  refine lv_iload_n hx hb dX6_as_1 rfl (lv_at hl 1 rfl) ?_
  refine dk_Vi (As := [.int p0]) (rest := []) ⟨hx, hb, hml, hown, hts⟩ (fx_X6_isDog_1 l g z I0 p0 hO) (cwV 1 hts gX6_as_X6_isDog rfl rfl rfl (by decide +kernel) ⟨Nat.le_of_ble_eq_true rfl, Nat.le_of_ble_eq_true rfl⟩) (dk_at340 hW) rfl hK hT hW hS rfl hl.1 rfl (Nat.le_of_ble_eq_true rfl) dX6_as_2 ⟨Nat.zero_le _, Nat.zero_le _⟩ (fun v1 I1 H1 L1 hp1 hW hS => ?_)
  obtain ⟨hF1, hO, hc1⟩ := hp1
  have hF := dkF_call hF hF1 rfl
  have eI1 : I0 = I1 := (dkF_nil hF1).symm
  subst eI1
  rcases hc1 with ⟨dv1, a1_0, x1_0, x1_1, xr1, -⟩ | hc1
  ·
    have q2 : ((I0 346 5) - (1 : Int32)).toInt = (I0 346 5).toInt - (1 : Int) := x1_0
    have q3 : p0.toInt + 1 ≤ (0 : Int) := x1_1
    have xv1 : v1 = 0 := by have h := xr1; exact h
    have d4 : dkN [(-2147483648, -1)] p0 := dkN_eq1 (dkN_top p0) a1_0 rfl rfl
    refine lv_if_eq (tgt := 17) hx hb dX6_as_5 (by decide) (fun c5 => ?_) (fun c5 => ?_)
    ·
      refine lv_ldc (v := (-1000001)) hx hb hown (hts (.constant RX6 64 (-1000001)) (List.mem_of_getElem? (i := 1) rfl)) dX6_as_17 ?_
      exact W.iret (v := (-1000001)) hx hb hr (fun t ht hW9 => ⟨⟨(-1000001), I0, rfl, ⟨hF, hO, Or.inl ⟨dkN_sub (dkN_lit (x := (-1000001)) (-1000001) rfl) rfl, dkN_sub d4 rfl, q2, q3, rfl, rfl, trivial⟩⟩, dkW_eq ht hW⟩, hS.F ht⟩) hS.2.2 dX6_as_19
    ·
      exact absurd ((xv1).trans (rfl).symm) c5
  rcases hc1 with ⟨dv1, a1_0, x1_0, x1_1, x1_2, xr1, -⟩ | hc1
  ·
    have q6 : ((I0 346 5) - (1 : Int32)).toInt = (I0 346 5).toInt - (1 : Int) := x1_0
    have q7 : (0 : Int) + 0 ≤ p0.toInt := x1_1
    have q8 : ((I0 346 5) - (1 : Int32)).toInt + 1 ≤ p0.toInt := x1_2
    have xv1 : v1 = 0 := by have h := xr1; exact h
    have d9 : dkN [(0, 2147483647)] p0 := dkN_eq1 (dkN_top p0) a1_0 rfl rfl
    refine lv_if_eq (tgt := 17) hx hb dX6_as_5 (by decide) (fun c10 => ?_) (fun c10 => ?_)
    ·
      refine lv_ldc (v := (-1000001)) hx hb hown (hts (.constant RX6 64 (-1000001)) (List.mem_of_getElem? (i := 1) rfl)) dX6_as_17 ?_
      exact W.iret (v := (-1000001)) hx hb hr (fun t ht hW9 => ⟨⟨(-1000001), I0, rfl, ⟨hF, hO, Or.inr (Or.inl ⟨dkN_sub (dkN_lit (x := (-1000001)) (-1000001) rfl) rfl, dkN_sub d9 rfl, q6, q7, q8, rfl, rfl, trivial⟩)⟩, dkW_eq ht hW⟩, hS.F ht⟩) hS.2.2 dX6_as_19
    ·
      exact absurd ((xv1).trans (rfl).symm) c10
  ·
    obtain ⟨dv1, a1_0, x1_0, x1_1, x1_2, xr1, -⟩ := hc1
    have q11 : ((I0 346 5) - (1 : Int32)).toInt = (I0 346 5).toInt - (1 : Int) := x1_0
    have q12 : (0 : Int) + 0 ≤ p0.toInt := x1_1
    have q13 : p0.toInt + 0 ≤ ((I0 346 5) - (1 : Int32)).toInt := x1_2
    have xv1 : v1 = 1 := by have h := xr1; exact h
    have d14 : dkN [(0, 5)] p0 := dkN_eq1 (dkN_top p0) a1_0 rfl rfl
    refine lv_if_eq (tgt := 17) hx hb dX6_as_5 (by decide) (fun c15 => ?_) (fun c15 => ?_)
    ·
      exact (dkN_nil (show dkN [] v1 from dkN_eq1 dv1 (dkN_lit (x := 0) (0) rfl) (congrArg Int32.toInt c15) rfl)).elim
    ·
      refine lv_iload_n hx hb dX6_as_8 rfl (lv_at hl 2 rfl) ?_
      refine lv_iconst (v := 0) hx hb dX6_as_9 (by decide) ?_
      refine lv_iconst (v := 5) hx hb dX6_as_10 (by decide) ?_
      refine dk_Si (As := [.int p1, .int 0, .int 5]) (rest := []) ⟨hx, hb, hml, hown, hts⟩ (fx_X6_in_43 l g z I0 p1 0 5 (dkN_lit (x := 0) (0) rfl) (dkN_lit (x := 5) (5) rfl) hO) (va_cwS 3 hts gX6_as_X6_in rfl rfl rfl (by decide +kernel) ⟨Nat.le_of_ble_eq_true rfl, Nat.le_of_ble_eq_true rfl⟩) hK hT hW hS rfl hl.1 rfl (Nat.le_of_ble_eq_true rfl) dX6_as_11 ⟨Nat.zero_le _, Nat.zero_le _⟩ (fun v16 I16 H16 L16 hp16 hW hS => ?_)
      obtain ⟨hF16, hO, hc16⟩ := hp16
      have hF := dkF_call hF hF16 rfl
      have eI16 : I0 = I16 := (dkF_nil hF16).symm
      subst eI16
      rcases hc16 with ⟨dv16, a16_0, x16_0, xr16, -⟩ | hc16
      ·
        have q17 : p1.toInt + 1 ≤ (0 : Int) := x16_0
        have xv16 : v16 = 0 := by have h := xr16; exact h
        have d18 : dkN [(-2147483648, -1)] p1 := dkN_eq1 (dkN_top p1) a16_0 rfl rfl
        refine lv_if_ne (tgt := 20) hx hb dX6_as_14 (by decide) (fun c19 => ?_) (fun c19 => ?_)
        ·
          exact absurd ((xv16).trans (rfl).symm) c19
        ·
          refine lv_ldc (v := (-1000001)) hx hb hown (hts (.constant RX6 64 (-1000001)) (List.mem_of_getElem? (i := 1) rfl)) dX6_as_17 ?_
          exact W.iret (v := (-1000001)) hx hb hr (fun t ht hW9 => ⟨⟨(-1000001), I0, rfl, ⟨hF, hO, Or.inr (Or.inr (Or.inl ⟨dkN_sub (dkN_lit (x := (-1000001)) (-1000001) rfl) rfl, dkN_sub d14 rfl, dkN_sub d18 rfl, q11, q12, q13, q17, rfl, rfl, trivial⟩))⟩, dkW_eq ht hW⟩, hS.F ht⟩) hS.2.2 dX6_as_19
      rcases hc16 with ⟨dv16, a16_0, x16_0, x16_1, xr16, -⟩ | hc16
      ·
        have q20 : (0 : Int) + 0 ≤ p1.toInt := x16_0
        have q21 : (5 : Int) + 1 ≤ p1.toInt := x16_1
        have xv16 : v16 = 0 := by have h := xr16; exact h
        have d22 : dkN [(6, 2147483647)] p1 := dkN_eq1 (dkN_top p1) a16_0 rfl rfl
        refine lv_if_ne (tgt := 20) hx hb dX6_as_14 (by decide) (fun c23 => ?_) (fun c23 => ?_)
        ·
          exact absurd ((xv16).trans (rfl).symm) c23
        ·
          refine lv_ldc (v := (-1000001)) hx hb hown (hts (.constant RX6 64 (-1000001)) (List.mem_of_getElem? (i := 1) rfl)) dX6_as_17 ?_
          exact W.iret (v := (-1000001)) hx hb hr (fun t ht hW9 => ⟨⟨(-1000001), I0, rfl, ⟨hF, hO, Or.inr (Or.inr (Or.inr (Or.inl ⟨dkN_sub (dkN_lit (x := (-1000001)) (-1000001) rfl) rfl, dkN_sub d14 rfl, dkN_sub d22 rfl, q11, q12, q13, q20, q21, rfl, rfl, trivial⟩)))⟩, dkW_eq ht hW⟩, hS.F ht⟩) hS.2.2 dX6_as_19
      ·
        obtain ⟨dv16, a16_0, x16_0, x16_1, xr16, -⟩ := hc16
        have q24 : (0 : Int) + 0 ≤ p1.toInt := x16_0
        have q25 : p1.toInt + 0 ≤ (5 : Int) := x16_1
        have xv16 : v16 = 1 := by have h := xr16; exact h
        have d26 : dkN [(0, 5)] p1 := dkN_eq1 (dkN_top p1) a16_0 rfl rfl
        refine lv_if_ne (tgt := 20) hx hb dX6_as_14 (by decide) (fun c27 => ?_) (fun c27 => ?_)
        ·
          refine lv_aload_n hx hb dX6_as_20 rfl (lv_at hl 0 rfl) ?_
          refine lv_iload_n hx hb dX6_as_21 rfl (lv_at hl 1 rfl) ?_
          refine dk_Vi (As := [.int p0]) (rest := []) ⟨hx, hb, hml, hown, hts⟩ (fx_X6_kindIn_1 l g z I0 p0 d14 hO) (cwV 1 hts gX6_as_X6_kindIn rfl rfl rfl (by decide +kernel) ⟨Nat.le_of_ble_eq_true rfl, Nat.le_of_ble_eq_true rfl⟩) (dk_at340 hW) rfl hK hT hW hS rfl hl.1 rfl (Nat.le_of_ble_eq_true rfl) dX6_as_22 ⟨Nat.zero_le _, Nat.zero_le _⟩ (fun v28 I28 H28 L28 hp28 hW hS => ?_)
          obtain ⟨hF28, hO, hc28⟩ := hp28
          have hF := dkF_call hF hF28 rfl
          have eI28 : I0 = I28 := (dkF_nil hF28).symm
          subst eI28
          obtain ⟨_, x28_0, x28_1, xr28, -⟩ := hc28
          have q29 : ((3 : Int32) * p0).toInt = (3 : Int) * p0.toInt := x28_0
          have q30 : ((36 : Int32) + ((3 : Int32) * p0)).toInt = (36 : Int) + ((3 : Int32) * p0).toInt := x28_1
          have xv28 : v28 = I0 346 (Int32.toNatClampNeg ((36 : Int32) + ((3 : Int32) * p0))) := by have h := xr28; exact h
          refine lv_istore_n (lv' := [(3, .int v28), (0, .ref (z + 340)), (1, .int p0), (2, .int p1)]) hx hb dX6_as_25 rfl hl (by decide) rfl (fun ls hl => ?_)
          refine lv_iload_n hx hb dX6_as_26 rfl (lv_at hl 3 rfl) ?_
          refine lv_if_eq (tgt := 55) hx hb dX6_as_27 (by decide) (fun c31 => ?_) (fun c31 => ?_)
          ·
            have q32 : p1.toInt = (0 : Int) := (congrArg Int32.toInt c31)
            have d33 : dkN [(0, 0)] p1 := dkN_eq1 d26 (dkN_lit (x := 0) (0) rfl) (congrArg Int32.toInt c31) rfl
            refine lv_iconst (v := 1) hx hb dX6_as_55 (by decide) ?_
            refine lv_goto (tgt := 60) hx hb dX6_as_56 (by decide) ?_
            refine lv_istore (lv' := [(4, .int 1), (3, .int v28), (0, .ref (z + 340)), (1, .int p0), (2, .int p1)]) hx hb dX6_as_60 hl (by decide) rfl (fun ls hl => ?_)
            refine lv_iload hx hb dX6_as_62 (lv_at hl 0 rfl) ?_
            refine lv_if_eq (tgt := 75) hx hb dX6_as_64 (by decide) (fun c34 => ?_) (fun c34 => ?_)
            ·
              exact (dkN_nil (show dkN [] 1 from dkN_eq1 (dkN_lit (x := 1) (1) rfl) (dkN_lit (x := 0) (0) rfl) (congrArg Int32.toInt c34) rfl)).elim
            ·
              refine lv_aload_n hx hb dX6_as_67 rfl (lv_at hl 2 rfl) ?_
              refine lv_iload_n hx hb dX6_as_68 rfl (lv_at hl 3 rfl) ?_
              refine dk_Vi (As := [.int p0]) (rest := []) ⟨hx, hb, hml, hown, hts⟩ (fx_X6_well_1 l g z I0 p0 hO) (cwV 1 hts gX6_as_X6_well rfl rfl rfl (by decide +kernel) ⟨Nat.le_of_ble_eq_true rfl, Nat.le_of_ble_eq_true rfl⟩) (dk_at340 hW) rfl hK hT hW hS rfl hl.1 rfl (Nat.le_of_ble_eq_true rfl) dX6_as_69 ⟨Nat.zero_le _, Nat.zero_le _⟩ (fun v35 I35 H35 L35 hp35 hW hS => ?_)
              obtain ⟨hF35, hO, hc35⟩ := hp35
              have hF := dkF_call hF hF35 rfl
              obtain ⟨_, f35_340_4, xr35, xh35_0, -⟩ := hc35
              have y36 : I35 340 4 = 0 := by have h := xh35_0; exact h
              have xv35 : v35 = p0 := by have h := xr35; exact h
              refine lv_goto (tgt := 80) hx hb dX6_as_72 (by decide) ?_
              exact W.iret (v := v35) hx hb hr (fun t ht hW9 => ⟨⟨v35, I35, rfl, ⟨hF, hO, Or.inr (Or.inr (Or.inr (Or.inr (Or.inl ⟨trivial, dkN_sub d14 rfl, dkN_sub d33 rfl, (show dkN [(0, 0)] (I35 340 4) from dkN_sub f35_340_4 rfl), q11, q12, q13, q24, q25, q29, q30, q32, xv35, y36, trivial⟩))))⟩, dkW_eq ht hW⟩, hS.F ht⟩) hS.2.2 dX6_as_80
          ·
            have q37 : p1.toInt ≠ (0 : Int) := (dk_ne c31)
            have d38 : dkN [(1, 5)] p1 := dkN_ne1 (0) d26 (dkN_lit (x := 0) (0) rfl) (dk_ne c31) rfl
            refine lv_iload_n hx hb dX6_as_30 rfl (lv_at hl 3 rfl) ?_
            refine lv_iload_n hx hb dX6_as_31 rfl (lv_at hl 0 rfl) ?_
            refine lv_icmp_eq (tgt := 55) hx hb dX6_as_32 (by decide) (fun c39 => ?_) (fun c39 => ?_)
            ·
              have q40 : p1.toInt = (I0 346 (Int32.toNatClampNeg ((36 : Int32) + ((3 : Int32) * p0)))).toInt := by first | (rw [← xv28]; exact (congrArg Int32.toInt c39)) | (subst xv28; exact (congrArg Int32.toInt c39))
              have d41 : dkN [(1, 5)] v28 := dkN_eq1 (dkN_top v28) d38 (congrArg Int32.toInt c39).symm rfl
              refine lv_iconst (v := 1) hx hb dX6_as_55 (by decide) ?_
              refine lv_goto (tgt := 60) hx hb dX6_as_56 (by decide) ?_
              refine lv_istore (lv' := [(4, .int 1), (3, .int v28), (0, .ref (z + 340)), (1, .int p0), (2, .int p1)]) hx hb dX6_as_60 hl (by decide) rfl (fun ls hl => ?_)
              refine lv_iload hx hb dX6_as_62 (lv_at hl 0 rfl) ?_
              refine lv_if_eq (tgt := 75) hx hb dX6_as_64 (by decide) (fun c42 => ?_) (fun c42 => ?_)
              ·
                exact (dkN_nil (show dkN [] 1 from dkN_eq1 (dkN_lit (x := 1) (1) rfl) (dkN_lit (x := 0) (0) rfl) (congrArg Int32.toInt c42) rfl)).elim
              ·
                refine lv_aload_n hx hb dX6_as_67 rfl (lv_at hl 2 rfl) ?_
                refine lv_iload_n hx hb dX6_as_68 rfl (lv_at hl 3 rfl) ?_
                refine dk_Vi (As := [.int p0]) (rest := []) ⟨hx, hb, hml, hown, hts⟩ (fx_X6_well_1 l g z I0 p0 hO) (cwV 1 hts gX6_as_X6_well rfl rfl rfl (by decide +kernel) ⟨Nat.le_of_ble_eq_true rfl, Nat.le_of_ble_eq_true rfl⟩) (dk_at340 hW) rfl hK hT hW hS rfl hl.1 rfl (Nat.le_of_ble_eq_true rfl) dX6_as_69 ⟨Nat.zero_le _, Nat.zero_le _⟩ (fun v43 I43 H43 L43 hp43 hW hS => ?_)
                obtain ⟨hF43, hO, hc43⟩ := hp43
                have hF := dkF_call hF hF43 rfl
                obtain ⟨_, f43_340_4, xr43, xh43_0, -⟩ := hc43
                have y44 : I43 340 4 = 0 := by have h := xh43_0; exact h
                have xv43 : v43 = p0 := by have h := xr43; exact h
                refine lv_goto (tgt := 80) hx hb dX6_as_72 (by decide) ?_
                exact W.iret (v := v43) hx hb hr (fun t ht hW9 => ⟨⟨v43, I43, rfl, ⟨hF, hO, Or.inr (Or.inr (Or.inr (Or.inr (Or.inr (Or.inl ⟨trivial, dkN_sub d14 rfl, dkN_sub d38 rfl, (show dkN [(0, 0)] (I43 340 4) from dkN_sub f43_340_4 rfl), q11, q12, q13, q24, q25, q29, q30, q37, q40, xv43, y44, trivial⟩)))))⟩, dkW_eq ht hW⟩, hS.F ht⟩) hS.2.2 dX6_as_80
            ·
              have q45 : p1.toInt ≠ (I0 346 (Int32.toNatClampNeg ((36 : Int32) + ((3 : Int32) * p0)))).toInt := by first | (rw [← xv28]; exact (dk_ne c39)) | (subst xv28; exact (dk_ne c39))
              refine lv_iload_n hx hb dX6_as_35 rfl (lv_at hl 3 rfl) ?_
              refine lv_iconst (v := 1) hx hb dX6_as_36 (by decide) ?_
              refine lv_icmp_ne (tgt := 45) hx hb dX6_as_37 (by decide) (fun c46 => ?_) (fun c46 => ?_)
              ·
                have q47 : p1.toInt ≠ (1 : Int) := (dk_ne c46)
                have d48 : dkN [(2, 5)] p1 := dkN_ne1 (1) d38 (dkN_lit (x := 1) (1) rfl) (dk_ne c46) rfl
                refine lv_iload_n hx hb dX6_as_45 rfl (lv_at hl 3 rfl) ?_
                refine lv_iconst (v := 4) hx hb dX6_as_46 (by decide) ?_
                refine lv_icmp_ne (tgt := 59) hx hb dX6_as_47 (by decide) (fun c49 => ?_) (fun c49 => ?_)
                ·
                  have q50 : p1.toInt ≠ (4 : Int) := (dk_ne c49)
                  have d51 : dkN [(2, 3), (5, 5)] p1 := dkN_ne1 (4) d48 (dkN_lit (x := 4) (4) rfl) (dk_ne c49) rfl
                  refine lv_iconst (v := 0) hx hb dX6_as_59 (by decide) ?_
                  refine lv_istore (lv' := [(4, .int 0), (3, .int v28), (0, .ref (z + 340)), (1, .int p0), (2, .int p1)]) hx hb dX6_as_60 hl (by decide) rfl (fun ls hl => ?_)
                  refine lv_iload hx hb dX6_as_62 (lv_at hl 0 rfl) ?_
                  refine lv_if_eq (tgt := 75) hx hb dX6_as_64 (by decide) (fun c52 => ?_) (fun c52 => ?_)
                  ·
                    refine lv_aload_n hx hb dX6_as_75 rfl (lv_at hl 2 rfl) ?_
                    refine lv_iconst (v := 3) hx hb dX6_as_76 (by decide) ?_
                    refine dk_Vi (As := [.int 3]) (rest := []) ⟨hx, hb, hml, hown, hts⟩ (fx_X6_found_9 l g z I0 3 (dkN_lit (x := 3) (3) rfl) hO) (cwV 1 hts gX6_as_X6_found rfl rfl rfl (by decide +kernel) ⟨Nat.le_of_ble_eq_true rfl, Nat.le_of_ble_eq_true rfl⟩) (dk_at340 hW) rfl hK hT hW hS rfl hl.1 rfl (Nat.le_of_ble_eq_true rfl) dX6_as_77 ⟨Nat.zero_le _, Nat.zero_le _⟩ (fun v53 I53 H53 L53 hp53 hW hS => ?_)
                    obtain ⟨hF53, hO, hc53⟩ := hp53
                    have hF := dkF_call hF hF53 rfl
                    obtain ⟨dv53, f53_340_4, x53_0, xr53, xh53_0, -⟩ := hc53
                    have q54 : ((-1000010 : Int32) - (3 : Int32)).toInt = (-1000010 : Int) - (3 : Int) := x53_0
                    have y55 : I53 340 4 = 3 := by have h := xh53_0; exact h
                    have xv53 : v53 = (-1000010 : Int32) - (3 : Int32) := by have h := xr53; exact h
                    exact W.iret (v := v53) hx hb hr (fun t ht hW9 => ⟨⟨v53, I53, rfl, ⟨hF, hO, Or.inr (Or.inr (Or.inr (Or.inr (Or.inr (Or.inr (Or.inl ⟨dkN_sub dv53 rfl, dkN_sub d14 rfl, dkN_sub d51 rfl, (show dkN [(3, 3)] (I53 340 4) from dkN_sub f53_340_4 rfl), q11, q12, q13, q24, q25, q29, q30, q37, q45, q47, q50, q54, xv53, y55, trivial⟩))))))⟩, dkW_eq ht hW⟩, hS.F ht⟩) hS.2.2 dX6_as_80
                  ·
                    exact (dkN_nil (show dkN [] 0 from dkN_ne1 (0) (dkN_lit (x := 0) (0) rfl) (dkN_lit (x := 0) (0) rfl) (dk_ne c52) rfl)).elim
                ·
                  have q56 : p1.toInt = (4 : Int) := (congrArg Int32.toInt c49)
                  have d57 : dkN [(4, 4)] p1 := dkN_eq1 d48 (dkN_lit (x := 4) (4) rfl) (congrArg Int32.toInt c49) rfl
                  refine lv_iload_n hx hb dX6_as_50 rfl (lv_at hl 0 rfl) ?_
                  refine lv_iconst (v := 5) hx hb dX6_as_51 (by decide) ?_
                  refine lv_icmp_ne (tgt := 59) hx hb dX6_as_52 (by decide) (fun c58 => ?_) (fun c58 => ?_)
                  ·
                    have q59 : (I0 346 (Int32.toNatClampNeg ((36 : Int32) + ((3 : Int32) * p0)))).toInt ≠ (5 : Int) := by first | (rw [← xv28]; exact (dk_ne c58)) | (subst xv28; exact (dk_ne c58))
                    have d60 : dkN [(-2147483648, 4), (6, 2147483647)] v28 := dkN_ne1 (5) (dkN_top v28) (dkN_lit (x := 5) (5) rfl) (dk_ne c58) rfl
                    refine lv_iconst (v := 0) hx hb dX6_as_59 (by decide) ?_
                    refine lv_istore (lv' := [(4, .int 0), (3, .int v28), (0, .ref (z + 340)), (1, .int p0), (2, .int p1)]) hx hb dX6_as_60 hl (by decide) rfl (fun ls hl => ?_)
                    refine lv_iload hx hb dX6_as_62 (lv_at hl 0 rfl) ?_
                    refine lv_if_eq (tgt := 75) hx hb dX6_as_64 (by decide) (fun c61 => ?_) (fun c61 => ?_)
                    ·
                      refine lv_aload_n hx hb dX6_as_75 rfl (lv_at hl 2 rfl) ?_
                      refine lv_iconst (v := 3) hx hb dX6_as_76 (by decide) ?_
                      refine dk_Vi (As := [.int 3]) (rest := []) ⟨hx, hb, hml, hown, hts⟩ (fx_X6_found_9 l g z I0 3 (dkN_lit (x := 3) (3) rfl) hO) (cwV 1 hts gX6_as_X6_found rfl rfl rfl (by decide +kernel) ⟨Nat.le_of_ble_eq_true rfl, Nat.le_of_ble_eq_true rfl⟩) (dk_at340 hW) rfl hK hT hW hS rfl hl.1 rfl (Nat.le_of_ble_eq_true rfl) dX6_as_77 ⟨Nat.zero_le _, Nat.zero_le _⟩ (fun v62 I62 H62 L62 hp62 hW hS => ?_)
                      obtain ⟨hF62, hO, hc62⟩ := hp62
                      have hF := dkF_call hF hF62 rfl
                      obtain ⟨dv62, f62_340_4, x62_0, xr62, xh62_0, -⟩ := hc62
                      have q63 : ((-1000010 : Int32) - (3 : Int32)).toInt = (-1000010 : Int) - (3 : Int) := x62_0
                      have y64 : I62 340 4 = 3 := by have h := xh62_0; exact h
                      have xv62 : v62 = (-1000010 : Int32) - (3 : Int32) := by have h := xr62; exact h
                      exact W.iret (v := v62) hx hb hr (fun t ht hW9 => ⟨⟨v62, I62, rfl, ⟨hF, hO, Or.inr (Or.inr (Or.inr (Or.inr (Or.inr (Or.inr (Or.inr (Or.inl ⟨dkN_sub dv62 rfl, dkN_sub d14 rfl, dkN_sub d57 rfl, (show dkN [(3, 3)] (I62 340 4) from dkN_sub f62_340_4 rfl), q11, q12, q13, q24, q25, q29, q30, q37, q45, q47, q56, q59, q63, xv62, y64, trivial⟩)))))))⟩, dkW_eq ht hW⟩, hS.F ht⟩) hS.2.2 dX6_as_80
                    ·
                      exact (dkN_nil (show dkN [] 0 from dkN_ne1 (0) (dkN_lit (x := 0) (0) rfl) (dkN_lit (x := 0) (0) rfl) (dk_ne c61) rfl)).elim
                  ·
                    have q65 : (I0 346 (Int32.toNatClampNeg ((36 : Int32) + ((3 : Int32) * p0)))).toInt = (5 : Int) := by first | (rw [← xv28]; exact (congrArg Int32.toInt c58)) | (subst xv28; exact (congrArg Int32.toInt c58))
                    have d66 : dkN [(5, 5)] v28 := dkN_eq1 (dkN_top v28) (dkN_lit (x := 5) (5) rfl) (congrArg Int32.toInt c58) rfl
                    refine lv_iconst (v := 1) hx hb dX6_as_55 (by decide) ?_
                    refine lv_goto (tgt := 60) hx hb dX6_as_56 (by decide) ?_
                    refine lv_istore (lv' := [(4, .int 1), (3, .int v28), (0, .ref (z + 340)), (1, .int p0), (2, .int p1)]) hx hb dX6_as_60 hl (by decide) rfl (fun ls hl => ?_)
                    refine lv_iload hx hb dX6_as_62 (lv_at hl 0 rfl) ?_
                    refine lv_if_eq (tgt := 75) hx hb dX6_as_64 (by decide) (fun c67 => ?_) (fun c67 => ?_)
                    ·
                      exact (dkN_nil (show dkN [] 1 from dkN_eq1 (dkN_lit (x := 1) (1) rfl) (dkN_lit (x := 0) (0) rfl) (congrArg Int32.toInt c67) rfl)).elim
                    ·
                      refine lv_aload_n hx hb dX6_as_67 rfl (lv_at hl 2 rfl) ?_
                      refine lv_iload_n hx hb dX6_as_68 rfl (lv_at hl 3 rfl) ?_
                      refine dk_Vi (As := [.int p0]) (rest := []) ⟨hx, hb, hml, hown, hts⟩ (fx_X6_well_1 l g z I0 p0 hO) (cwV 1 hts gX6_as_X6_well rfl rfl rfl (by decide +kernel) ⟨Nat.le_of_ble_eq_true rfl, Nat.le_of_ble_eq_true rfl⟩) (dk_at340 hW) rfl hK hT hW hS rfl hl.1 rfl (Nat.le_of_ble_eq_true rfl) dX6_as_69 ⟨Nat.zero_le _, Nat.zero_le _⟩ (fun v68 I68 H68 L68 hp68 hW hS => ?_)
                      obtain ⟨hF68, hO, hc68⟩ := hp68
                      have hF := dkF_call hF hF68 rfl
                      obtain ⟨_, f68_340_4, xr68, xh68_0, -⟩ := hc68
                      have y69 : I68 340 4 = 0 := by have h := xh68_0; exact h
                      have xv68 : v68 = p0 := by have h := xr68; exact h
                      refine lv_goto (tgt := 80) hx hb dX6_as_72 (by decide) ?_
                      exact W.iret (v := v68) hx hb hr (fun t ht hW9 => ⟨⟨v68, I68, rfl, ⟨hF, hO, Or.inr (Or.inr (Or.inr (Or.inr (Or.inr (Or.inr (Or.inr (Or.inr (Or.inl ⟨trivial, dkN_sub d14 rfl, dkN_sub d57 rfl, (show dkN [(0, 0)] (I68 340 4) from dkN_sub f68_340_4 rfl), q11, q12, q13, q24, q25, q29, q30, q37, q45, q47, q56, q65, xv68, y69, trivial⟩))))))))⟩, dkW_eq ht hW⟩, hS.F ht⟩) hS.2.2 dX6_as_80
              ·
                have q70 : p1.toInt = (1 : Int) := (congrArg Int32.toInt c46)
                have d71 : dkN [(1, 1)] p1 := dkN_eq1 d38 (dkN_lit (x := 1) (1) rfl) (congrArg Int32.toInt c46) rfl
                refine lv_iload_n hx hb dX6_as_40 rfl (lv_at hl 0 rfl) ?_
                refine lv_iconst (v := 4) hx hb dX6_as_41 (by decide) ?_
                refine lv_icmp_lt (tgt := 55) hx hb dX6_as_42 (by decide) (fun c72 => ?_) (fun c72 => ?_)
                ·
                  have q73 : (I0 346 (Int32.toNatClampNeg ((36 : Int32) + ((3 : Int32) * p0)))).toInt + 1 ≤ (4 : Int) := by first | (rw [← xv28]; exact (dkc_lt c72)) | (subst xv28; exact (dkc_lt c72))
                  have d74 : dkN [(-2147483648, 3)] v28 := dkN_le1 1 (dkN_top v28) (dkN_lit (x := 4) (4) rfl) (dkc_lt c72) rfl
                  refine lv_iconst (v := 1) hx hb dX6_as_55 (by decide) ?_
                  refine lv_goto (tgt := 60) hx hb dX6_as_56 (by decide) ?_
                  refine lv_istore (lv' := [(4, .int 1), (3, .int v28), (0, .ref (z + 340)), (1, .int p0), (2, .int p1)]) hx hb dX6_as_60 hl (by decide) rfl (fun ls hl => ?_)
                  refine lv_iload hx hb dX6_as_62 (lv_at hl 0 rfl) ?_
                  refine lv_if_eq (tgt := 75) hx hb dX6_as_64 (by decide) (fun c75 => ?_) (fun c75 => ?_)
                  ·
                    exact (dkN_nil (show dkN [] 1 from dkN_eq1 (dkN_lit (x := 1) (1) rfl) (dkN_lit (x := 0) (0) rfl) (congrArg Int32.toInt c75) rfl)).elim
                  ·
                    refine lv_aload_n hx hb dX6_as_67 rfl (lv_at hl 2 rfl) ?_
                    refine lv_iload_n hx hb dX6_as_68 rfl (lv_at hl 3 rfl) ?_
                    refine dk_Vi (As := [.int p0]) (rest := []) ⟨hx, hb, hml, hown, hts⟩ (fx_X6_well_1 l g z I0 p0 hO) (cwV 1 hts gX6_as_X6_well rfl rfl rfl (by decide +kernel) ⟨Nat.le_of_ble_eq_true rfl, Nat.le_of_ble_eq_true rfl⟩) (dk_at340 hW) rfl hK hT hW hS rfl hl.1 rfl (Nat.le_of_ble_eq_true rfl) dX6_as_69 ⟨Nat.zero_le _, Nat.zero_le _⟩ (fun v76 I76 H76 L76 hp76 hW hS => ?_)
                    obtain ⟨hF76, hO, hc76⟩ := hp76
                    have hF := dkF_call hF hF76 rfl
                    obtain ⟨_, f76_340_4, xr76, xh76_0, -⟩ := hc76
                    have y77 : I76 340 4 = 0 := by have h := xh76_0; exact h
                    have xv76 : v76 = p0 := by have h := xr76; exact h
                    refine lv_goto (tgt := 80) hx hb dX6_as_72 (by decide) ?_
                    exact W.iret (v := v76) hx hb hr (fun t ht hW9 => ⟨⟨v76, I76, rfl, ⟨hF, hO, Or.inr (Or.inr (Or.inr (Or.inr (Or.inr (Or.inr (Or.inr (Or.inr (Or.inr (Or.inl ⟨trivial, dkN_sub d14 rfl, dkN_sub d71 rfl, (show dkN [(0, 0)] (I76 340 4) from dkN_sub f76_340_4 rfl), q11, q12, q13, q24, q25, q29, q30, q37, q45, q70, q73, xv76, y77, trivial⟩)))))))))⟩, dkW_eq ht hW⟩, hS.F ht⟩) hS.2.2 dX6_as_80
                ·
                  have q78 : (4 : Int) + 0 ≤ (I0 346 (Int32.toNatClampNeg ((36 : Int32) + ((3 : Int32) * p0)))).toInt := by first | (rw [← xv28]; exact (dkc_nlt c72)) | (subst xv28; exact (dkc_nlt c72))
                  have d79 : dkN [(4, 2147483647)] v28 := dkN_le2 0 (dkN_lit (x := 4) (4) rfl) (dkN_top v28) (dkc_nlt c72) rfl
                  refine lv_iload_n hx hb dX6_as_45 rfl (lv_at hl 3 rfl) ?_
                  refine lv_iconst (v := 4) hx hb dX6_as_46 (by decide) ?_
                  refine lv_icmp_ne (tgt := 59) hx hb dX6_as_47 (by decide) (fun c80 => ?_) (fun c80 => ?_)
                  ·
                    have q81 : p1.toInt ≠ (4 : Int) := (dk_ne c80)
                    refine lv_iconst (v := 0) hx hb dX6_as_59 (by decide) ?_
                    refine lv_istore (lv' := [(4, .int 0), (3, .int v28), (0, .ref (z + 340)), (1, .int p0), (2, .int p1)]) hx hb dX6_as_60 hl (by decide) rfl (fun ls hl => ?_)
                    refine lv_iload hx hb dX6_as_62 (lv_at hl 0 rfl) ?_
                    refine lv_if_eq (tgt := 75) hx hb dX6_as_64 (by decide) (fun c82 => ?_) (fun c82 => ?_)
                    ·
                      refine lv_aload_n hx hb dX6_as_75 rfl (lv_at hl 2 rfl) ?_
                      refine lv_iconst (v := 3) hx hb dX6_as_76 (by decide) ?_
                      refine dk_Vi (As := [.int 3]) (rest := []) ⟨hx, hb, hml, hown, hts⟩ (fx_X6_found_9 l g z I0 3 (dkN_lit (x := 3) (3) rfl) hO) (cwV 1 hts gX6_as_X6_found rfl rfl rfl (by decide +kernel) ⟨Nat.le_of_ble_eq_true rfl, Nat.le_of_ble_eq_true rfl⟩) (dk_at340 hW) rfl hK hT hW hS rfl hl.1 rfl (Nat.le_of_ble_eq_true rfl) dX6_as_77 ⟨Nat.zero_le _, Nat.zero_le _⟩ (fun v83 I83 H83 L83 hp83 hW hS => ?_)
                      obtain ⟨hF83, hO, hc83⟩ := hp83
                      have hF := dkF_call hF hF83 rfl
                      obtain ⟨dv83, f83_340_4, x83_0, xr83, xh83_0, -⟩ := hc83
                      have q84 : ((-1000010 : Int32) - (3 : Int32)).toInt = (-1000010 : Int) - (3 : Int) := x83_0
                      have y85 : I83 340 4 = 3 := by have h := xh83_0; exact h
                      have xv83 : v83 = (-1000010 : Int32) - (3 : Int32) := by have h := xr83; exact h
                      exact W.iret (v := v83) hx hb hr (fun t ht hW9 => ⟨⟨v83, I83, rfl, ⟨hF, hO, Or.inr (Or.inr (Or.inr (Or.inr (Or.inr (Or.inr (Or.inr (Or.inr (Or.inr (Or.inr (⟨dkN_sub dv83 rfl, dkN_sub d14 rfl, dkN_sub d71 rfl, (show dkN [(3, 3)] (I83 340 4) from dkN_sub f83_340_4 rfl), q11, q12, q13, q24, q25, q29, q30, q37, q45, q70, q78, q81, q84, xv83, y85, trivial⟩))))))))))⟩, dkW_eq ht hW⟩, hS.F ht⟩) hS.2.2 dX6_as_80
                    ·
                      exact (dkN_nil (show dkN [] 0 from dkN_ne1 (0) (dkN_lit (x := 0) (0) rfl) (dkN_lit (x := 0) (0) rfl) (dk_ne c82) rfl)).elim
                  ·
                    exact (dkN_nil (show dkN [] p1 from dkN_eq1 d71 (dkN_lit (x := 4) (4) rfl) (congrArg Int32.toInt c80) rfl)).elim
        ·
          exact (dkN_nil (show dkN [] v16 from dkN_eq1 dv16 (dkN_lit (x := 0) (0) rfl) (congrArg Int32.toInt c27) rfl)).elim
set_option maxHeartbeats 4000000 in
set_option maxRecDepth 100000 in
theorem fx_X5_status_1 (l : Launch) (g : dkG) (z : Nat) (I0 : dkI)  (hO : dkOk I0) : Met l yX5_status wsX5_status (dkR 0) (dkPc g z [.ref (z + 0)] I0) (dkQi g z (fun r I1 => dkF [] I0 I1 ∧ dkOk I1 ∧ ((True ∧ r = I0 0 3 ∧ True)))) 0 0 (dkA z) := by
  refine Met.ofW (cc := cX5_status) (maxL := 1) (ret := (some .int)) (by decide) rfl ?_
  intro p e s m args below meth c s₁ B hml hv
  obtain ⟨ha, hW, hK, hT⟩ := hv
  have hx := B.exec
  have hb := B.bytes
  have hr := B.returns
  have hts := atoms_spec (ws := wsX5_status) B.pre
  have hown : s.vm.findClass RX5 = some m.cls := findClass_of_methodNamed B.named
  have hlocks := B.notSynchronized
  have hS : va_S (dkA z) s.heap s.heap [] := va_S.rf
  have hF : dkF [] I0 I0 := dkF_rf _ _
  have hl := lv_entry ([.ref (z + 0)]) (n := 1) (Nat.le_of_ble_eq_true rfl)
  have hgo : entryFrame m args 1 = entryFrame m ([.ref (z + 0)] : List Value).toArray 1 := by rw [ha]
  rw [hgo, lg_entry_eq]
  generalize (lg_sl ([.ref (z + 0)]) ++ List.replicate (1 - (lg_sl ([.ref (z + 0)])).length) Slot.unset).toArray = ls at hl ⊢
  have hl : lv_has ls 1 [(0, .ref (z + 0))] := hl
  refine lv_aload_n hx hb dX5_status_0 rfl (lv_at hl 0 rfl) ?_
  refine dk_get (k := 0) hx hb hts iX5_status_5 hown hK (dk_at0 hW) rfl 3 (by decide) (hts (.fieldLink RX5 292 "DogKings" "finding" "I") (List.mem_of_getElem? (i := 1) rfl)) rfl dX5_status_1 ?_
  refine lv_topi (fun v1 ev1 => ?_)
  have xv1 : v1 = I0 0 3 := ev1.trans rfl
  exact W.iret (v := v1) hx hb hr (fun t ht hW9 => ⟨⟨v1, I0, rfl, ⟨hF, hO, ⟨trivial, xv1, trivial⟩⟩, dkW_eq ht hW⟩, hS.F ht⟩) hS.2.2 dX5_status_4
set_option maxHeartbeats 4000000 in
set_option maxRecDepth 100000 in
theorem fx_X6_status_1 (l : Launch) (g : dkG) (z : Nat) (I0 : dkI)  (hO : dkOk I0) : Met l yX6_status wsX6_status (dkR 0) (dkPc g z [.ref (z + 340)] I0) (dkQi g z (fun r I1 => dkF [] I0 I1 ∧ dkOk I1 ∧ ((True ∧ r = I0 340 4 ∧ True)))) 0 0 (dkA z) := by
  refine Met.ofW (cc := cX6_status) (maxL := 1) (ret := (some .int)) (by decide) rfl ?_
  intro p e s m args below meth c s₁ B hml hv
  obtain ⟨ha, hW, hK, hT⟩ := hv
  have hx := B.exec
  have hb := B.bytes
  have hr := B.returns
  have hts := atoms_spec (ws := wsX6_status) B.pre
  have hown : s.vm.findClass RX6 = some m.cls := findClass_of_methodNamed B.named
  have hlocks := B.notSynchronized
  have hS : va_S (dkA z) s.heap s.heap [] := va_S.rf
  have hF : dkF [] I0 I0 := dkF_rf _ _
  have hl := lv_entry ([.ref (z + 340)]) (n := 1) (Nat.le_of_ble_eq_true rfl)
  have hgo : entryFrame m args 1 = entryFrame m ([.ref (z + 340)] : List Value).toArray 1 := by rw [ha]
  rw [hgo, lg_entry_eq]
  generalize (lg_sl ([.ref (z + 340)]) ++ List.replicate (1 - (lg_sl ([.ref (z + 340)])).length) Slot.unset).toArray = ls at hl ⊢
  have hl : lv_has ls 1 [(0, .ref (z + 340))] := hl
  refine lv_aload_n hx hb dX6_status_0 rfl (lv_at hl 0 rfl) ?_
  refine dk_get (k := 340) hx hb hts iX6_status_6 hown hK (dk_at340 hW) rfl 4 (by decide) (hts (.fieldLink RX6 51 "DogKingsModel" "status" "I") (List.mem_of_getElem? (i := 1) rfl)) rfl dX6_status_1 ?_
  refine lv_topi (fun v1 ev1 => ?_)
  have xv1 : v1 = I0 340 4 := ev1.trans rfl
  exact W.iret (v := v1) hx hb hr (fun t ht hW9 => ⟨⟨v1, I0, rfl, ⟨hF, hO, ⟨trivial, xv1, trivial⟩⟩, dkW_eq ht hW⟩, hS.F ht⟩) hS.2.2 dX6_status_4
set_option maxHeartbeats 4000000 in
set_option maxRecDepth 100000 in
theorem fx_X0_keep_1 (l : Launch) (g : dkG) (z : Nat) (I0 : dkI)  (hO : dkOk I0) (hP : dkQQ I0) : Met l yX0_keep wsX0_keep (dkR 1) (dkPc g z [.ref (z + 59), .ref (z + 25)] I0) (dkQv g z (fun I1 => dkF [(61, 324, 0, 2147483647), (59, 59, 1, 2)] I0 I1 ∧ dkOk I1 ∧ dkQQ I1 ∧ ((dkN [(1, 24)] (I1 59 2) ∧ True)))) 0 0 (dkA z) := by
  refine Met.ofW (cc := cX0_keep) (maxL := 2) (ret := none) (by decide) rfl ?_
  intro p e s m args below meth c s₁ B hml hv
  obtain ⟨ha, hW, hK, hT⟩ := hv
  have hx := B.exec
  have hb := B.bytes
  have hr := B.returns
  have hts := atoms_spec (ws := wsX0_keep) B.pre
  have hown : s.vm.findClass RX0 = some m.cls := findClass_of_methodNamed B.named
  have hlocks := B.notSynchronized
  have hS : va_S (dkA z) s.heap s.heap [] := va_S.rf
  have hF : dkF [(61, 324, 0, 2147483647), (59, 59, 1, 2)] I0 I0 := dkF_rf _ _
  have hl := lv_entry ([.ref (z + 59), .ref (z + 25)]) (n := 2) (Nat.le_of_ble_eq_true rfl)
  have hgo : entryFrame m args 2 = entryFrame m ([.ref (z + 59), .ref (z + 25)] : List Value).toArray 2 := by rw [ha]
  rw [hgo, lg_entry_eq]
  generalize (lg_sl ([.ref (z + 59), .ref (z + 25)]) ++ List.replicate (2 - (lg_sl ([.ref (z + 59), .ref (z + 25)])).length) Slot.unset).toArray = ls at hl ⊢
  have hl : lv_has ls 2 [(0, .ref (z + 59)), (1, .ref (z + 25))] := hl
  refine lv_aload_n hx hb dX0_keep_0 rfl (lv_at hl 0 rfl) ?_
  refine dk_get (k := 59) hx hb hts iX0_keep_0 hown hK (dk_at59 hW) rfl 0 (by decide) (hts (.fieldLink RX0 11 "DogKings$Acts" "before" "[LDogKings$Town;") (List.mem_of_getElem? (i := 1) rfl)) rfl dX0_keep_1 ?_
  refine lv_aload_n hx hb dX0_keep_4 rfl (lv_at hl 0 rfl) ?_
  refine dk_get (k := 59) hx hb hts iX0_keep_0 hown hK (dk_at59 hW) rfl 1 (by decide) (hts (.fieldLink RX0 16 "DogKings$Acts" "next" "I") (List.mem_of_getElem? (i := 2) rfl)) rfl dX0_keep_5 ?_
  refine lv_topi (fun v1 ev1 => ?_)
  have dv1 : dkN [(0, 23)] v1 := by rw [ev1]; exact (hO 59 1)
  have xv1 : v1 = I0 59 1 := ev1.trans rfl
  obtain ⟨tf2, htf2, etf2, hlotf2, hhitf2⟩ := dk_townAt60 (z := z) (dkN_in (n := 24) dv1 rfl)
  refine dk_tld (r := z + tf2) hx hb hK (dk_at60 hW) (dkN_in (n := 24) dv1 rfl) etf2 dX0_keep_8 ?_
  refine lv_aload_n hx hb dX0_keep_9 rfl (lv_at hl 1 rfl) ?_
  refine dk_Vv (As := [.ref (z + 25)]) (rest := []) ⟨hx, hb, hml, hown, hts⟩ (fx_X4_become_1 l g z I0 tf2 htf2 (25) (by unfold dkT; omega) (by omega) hO) (cwV 1 hts gX0_keep_X4_become rfl rfl rfl (by decide +kernel) ⟨Nat.le_of_ble_eq_true rfl, Nat.le_of_ble_eq_true rfl⟩) (dk_aT0 htf2 hW) rfl hK hT hW hS rfl hl.1 rfl (Nat.le_of_ble_eq_true rfl) dX0_keep_10 ⟨Nat.zero_le _, Nat.zero_le _⟩ (fun I3 H3 L3 hp3 hW hS => ?_)
  obtain ⟨hF3, hO, hc3⟩ := hp3
  have hF := dkF_hullP (lo := 61) (hi := 324) hF hF3 (dkHull_cons (by omega) (by omega) (by decide) (dkHull_cons (by omega) (by omega) (by decide) (dkHull_cons (by omega) (by omega) (by decide) (dkHull_cons (by omega) (by omega) (by decide) (dkHull_cons (by omega) (by omega) (by decide) (dkHull_cons (by omega) (by omega) (by decide) (dkHull_cons (by omega) (by omega) (by decide) (dkHull_cons (by omega) (by omega) (by decide) (dkHull_cons (by omega) (by omega) (by decide) (dkHull_cons (by omega) (by omega) (by decide) (dkHull_cons (by omega) (by omega) (by decide) (dkHull_cons (by omega) (by omega) (by decide) dkHull_nil)))))))))))) rfl
  obtain ⟨xh3_0, xh3_1, xh3_2, xp3_0, -⟩ := hc3
  have y4 : I3 tf2 0 = I0 25 0 := by have h := xh3_0; exact h
  have y5 : I3 tf2 4 = I0 25 4 := by have h := xh3_1; exact h
  have y6 : I3 tf2 11 = I0 25 11 := by have h := xh3_2; exact h
  have yp7 : ∀ j : Nat, j < Int32.toNatClampNeg (I0 25 11) → I3 (tf2 + 7) j = I0 32 j := by have h := xp3_0; exact h
  refine lv_aload_n hx hb dX0_keep_13 rfl (lv_at hl 0 rfl) ?_
  refine lv_aload_n hx hb dX0_keep_14 rfl (lv_at hl 0 rfl) ?_
  refine dk_get (k := 59) hx hb hts iX0_keep_0 hown hK (dk_at59 hW) rfl 1 (by decide) (hts (.fieldLink RX0 16 "DogKings$Acts" "next" "I") (List.mem_of_getElem? (i := 2) rfl)) rfl dX0_keep_15 ?_
  refine lv_topi (fun v8 ev8 => ?_)
  have dv8 : dkN [(0, 23)] v8 := by rw [ev8]; exact (hO 59 1)
  have xv8 : v8 = I0 59 1 := ev8.trans ((hF3 59 1 (dkNin_n (by omega) (dkNin_n (by omega) (dkNin_n (by omega) (dkNin_n (by omega) (dkNin_n (by omega) (dkNin_n (by omega) (dkNin_n (by omega) (dkNin_n (by omega) (dkNin_n (by omega) (dkNin_n (by omega) (dkNin_n (by omega) (dkNin_n (by omega) dkNin_nil))))))))))))).trans rfl)
  refine lv_iconst (v := 1) hx hb dX0_keep_18 (by decide) ?_
  refine lv_iadd hx hb dX0_keep_19 ?_
  refine lv_topi (fun v9 ev9 => ?_)
  have dv9 : dkN [(1, 24)] v9 := by rw [ev9]; exact dkN_add dv8 (dkN_lit (x := 1) (1) rfl) rfl
  have xv9 : v9 = (I0 59 1) + (1 : Int32) := by rw [ev9, xv8]
  have q10 : ((I0 59 1) + (1 : Int32)).toInt = (I0 59 1).toInt + (1 : Int) := by first | (rw [← xv9, ← xv8]; exact (by rw [ev9]; exact dk_addE dv8 (dkN_lit (x := 1) (1) rfl) rfl)) | (subst xv9 xv8; exact (by rw [ev9]; exact dk_addE dv8 (dkN_lit (x := 1) (1) rfl) rfl))
  refine lv_bipush (v := 24) hx hb dX0_keep_20 (by decide) ?_
  refine lv_irem hx hb dX0_keep_22 (dkN_ne0 (dkN_lit (x := 24) (24) rfl) rfl) ?_
  refine lv_topi (fun v11 ev11 => ?_)
  have dv11 : dkN [(0, 23)] v11 := by rw [ev11]; exact dkN_rem 24 (by decide) dv9 (dkN_lit (x := 24) (24) rfl) rfl
  have xv11 : v11 = ((I0 59 1) + (1 : Int32)) - ((I0 59 1) + (1 : Int32)) / (24 : Int32) * (24 : Int32) := by rw [ev11, xv9]
  refine dk_put (k := 59) hx hb hts iX0_keep_0 tyX0 tyX0_ok nmX0 hown hK hW (dk_at59 hW) hS rfl 1 (by decide) (hts (.fieldLink RX0 16 "DogKings$Acts" "next" "I") (List.mem_of_getElem? (i := 2) rfl)) rfl rfl (Nat.le_of_ble_eq_true rfl) rfl dX0_keep_23 (fun I12 H12 L12 eI12 hW hS => ?_)
  have eI12 : I12 = dkU I3 59 1 v11 := eI12
  have hO := dkO_set hO eI12 (dkN_sub dv11 rfl)
  have hF := dkF_set hF eI12 rfl
  refine lv_aload_n hx hb dX0_keep_26 rfl (lv_at hl 0 rfl) ?_
  refine lv_aload_n hx hb dX0_keep_27 rfl (lv_at hl 0 rfl) ?_
  refine dk_get (k := 59) hx hb hts iX0_keep_0 hown hK (dk_at59 hW) rfl 2 (by decide) (hts (.fieldLink RX0 24 "DogKings$Acts" "kept" "I") (List.mem_of_getElem? (i := 3) rfl)) rfl dX0_keep_28 ?_
  refine lv_topi (fun v13 ev13 => ?_)
  have dv13 : dkN [(0, 24)] v13 := by rw [ev13]; exact (hO 59 2)
  have xv13 : v13 = I0 59 2 := ev13.trans ((by rw [eI12, dkU_sn (by decide)] : I12 59 2 = _).trans ((hF3 59 2 (dkNin_n (by omega) (dkNin_n (by omega) (dkNin_n (by omega) (dkNin_n (by omega) (dkNin_n (by omega) (dkNin_n (by omega) (dkNin_n (by omega) (dkNin_n (by omega) (dkNin_n (by omega) (dkNin_n (by omega) (dkNin_n (by omega) (dkNin_n (by omega) dkNin_nil))))))))))))).trans rfl))
  refine lv_iconst (v := 1) hx hb dX0_keep_31 (by decide) ?_
  refine lv_iadd hx hb dX0_keep_32 ?_
  refine lv_topi (fun v14 ev14 => ?_)
  have dv14 : dkN [(1, 25)] v14 := by rw [ev14]; exact dkN_add dv13 (dkN_lit (x := 1) (1) rfl) rfl
  have xv14 : v14 = (I0 59 2) + (1 : Int32) := by rw [ev14, xv13]
  have q15 : ((I0 59 2) + (1 : Int32)).toInt = (I0 59 2).toInt + (1 : Int) := by first | (rw [← xv14, ← xv13]; exact (by rw [ev14]; exact dk_addE dv13 (dkN_lit (x := 1) (1) rfl) rfl)) | (subst xv14 xv13; exact (by rw [ev14]; exact dk_addE dv13 (dkN_lit (x := 1) (1) rfl) rfl))
  refine lv_bipush (v := 24) hx hb dX0_keep_33 (by decide) ?_
  refine va_mmin hx hb (by rw [hml]; exact hl.1.symm) hown (hts (.methodLink RX0 27 Lib.Math.min.name) (List.mem_of_getElem? (i := 4) rfl)) (hts (.static Lib.Math.min.name) (List.mem_of_getElem? (i := 5) rfl)) (hts (.initialized "java/lang/Math") (List.mem_of_getElem? (i := 6) rfl)) (hts (.code Lib.Math.min.name Lib.Math.min.code 2 (some .int)) (List.mem_of_getElem? (i := 7) rfl)) (Nat.le_of_ble_eq_true rfl) (Nat.le_of_ble_eq_true rfl) (Nat.zero_le _) (Nat.zero_le _) dX0_keep_35 ?_
  refine lv_topi (fun v16 ev16 => ?_)
  have dv16 : dkN [(1, 24)] v16 := by rw [ev16]; exact dkN_min dv14 (dkN_lit (x := 24) (24) rfl) rfl
  refine dk_put (k := 59) hx hb hts iX0_keep_0 tyX0 tyX0_ok nmX0 hown hK hW (dk_at59 hW) hS rfl 2 (by decide) (hts (.fieldLink RX0 24 "DogKings$Acts" "kept" "I") (List.mem_of_getElem? (i := 3) rfl)) rfl rfl (Nat.le_of_ble_eq_true rfl) rfl dX0_keep_38 (fun I17 H17 L17 eI17 hW hS => ?_)
  have eI17 : I17 = dkU I12 59 2 v16 := eI17
  have hO := dkO_set hO eI17 (dkN_sub dv16 rfl)
  have hF := dkF_set hF eI17 rfl
  have hO0 := ‹dkOk I0›
  have hb1 := dkN_lo (b := 0) (show dkN [(0, 23)] (I0 59 1) from hO0 59 1) rfl
  have hb2 := dkN_hi (b := 23) (show dkN [(0, 23)] (I0 59 1) from hO0 59 1) rfl
  have hb3 := dkN_lo (b := 0) (show dkN [(0, 24)] (I0 59 2) from hO0 59 2) rfl
  have hy1 := dkN_hi (b := 24) dv16 rfl
  have hy2 := dkN_lo (b := 0) dv16 rfl
  have hy3 : v16.toInt ≤ (I0 59 2).toInt + 1 := by have h1 := (show v16.toInt ≤ v14.toInt by rw [ev16]; exact dk_minle); rw [xv14] at h1; omega
  have hP := dkQQ_keep ‹dkQQ I0› (dk_tIdx (i := I0 59 1) (by have h1 := etf2; rw [xv1] at h1; exact h1)) (fun k j h => hF3 k j (dkNin_n (by omega) (dkNin_n (by omega) (dkNin_n (by omega) (dkNin_n (by omega) (dkNin_n (by omega) (dkNin_n (by omega) (dkNin_n (by omega) (dkNin_n (by omega) (dkNin_n (by omega) (dkNin_n (by omega) (dkNin_n (by omega) (dkNin_n (by omega) dkNin_nil))))))))))))) xh3_0 xh3_1 xh3_2 (fun j hj => xp3_0 j hj) eI12 (by have h1 := dk_remN ev11 (by rw [xv9]; omega) rfl; rw [xv9] at h1; have h2 : Int32.toNatClampNeg (I0 59 1) = (I0 59 1).toInt.toNat := rfl; omega) eI17 (by have h2 : Int32.toNatClampNeg (I0 59 2) = (I0 59 2).toInt.toNat := rfl; have h3 : Int32.toNatClampNeg v16 = v16.toInt.toNat := rfl; omega) (by have h3 : Int32.toNatClampNeg v16 = v16.toInt.toNat := rfl; omega) (by have h2 : Int32.toNatClampNeg (I0 59 1) = (I0 59 1).toInt.toNat := rfl; omega)
  exact W.vret hx hb hr (fun t ht hW9 => ⟨⟨I17, rfl, ⟨hF, hO, hP, ⟨(show dkN [(1, 24)] (I17 59 2) from dkN_sub (by rw [eI17, dkU_ss]; exact dv16) rfl), trivial⟩⟩, dkW_eq ht hW⟩, hS.F ht⟩) hS.2.2 dX0_keep_41
set_option maxHeartbeats 4000000 in
set_option maxRecDepth 100000 in
theorem c_X5_minutes_1 (l : Launch) (g : dkG) (z : Nat) (I0 : dkI) (p0 : Int32)  (hO : dkOk I0) (hP : dkQQ I0) : Met l yX5_minutes wsX5_minutes (dkR 5) (dkPc g z [.ref (z + 0), .int p0] I0) (dkQi g z (fun r I1 => dkF [(61, 324, 0, 2147483647), (25, 25, 2, 3), (28, 28, 0, 4), (30, 30, 0, 4), (31, 31, 0, 4), (34, 34, 0, 5), (35, 35, 0, 8), (59, 59, 1, 2)] I0 I1 ∧ dkOk I1 ∧ dkQQ I1 ∧ ((True ∧ True)))) 0 0 (dkA z) := by
  refine Met.ofW (cc := cX5_minutes) (maxL := 3) (ret := (some .int)) (by decide) rfl ?_
  intro p e s m args below meth c s₁ B hml hv
  obtain ⟨ha, hW, hK, hT⟩ := hv
  have hx := B.exec
  have hb := B.bytes
  have hr := B.returns
  have hts := atoms_spec (ws := wsX5_minutes) B.pre
  have hown : s.vm.findClass RX5 = some m.cls := findClass_of_methodNamed B.named
  have hlocks := B.notSynchronized
  have hS : va_S (dkA z) s.heap s.heap [] := va_S.rf
  have hF : dkF [(61, 324, 0, 2147483647), (25, 25, 2, 3), (28, 28, 0, 4), (30, 30, 0, 4), (31, 31, 0, 4), (34, 34, 0, 5), (35, 35, 0, 8), (59, 59, 1, 2)] I0 I0 := dkF_rf _ _
  have hl := lv_entry ([.ref (z + 0), .int p0]) (n := 3) (Nat.le_of_ble_eq_true rfl)
  have hgo : entryFrame m args 3 = entryFrame m ([.ref (z + 0), .int p0] : List Value).toArray 3 := by rw [ha]
  rw [hgo, lg_entry_eq]
  generalize (lg_sl ([.ref (z + 0), .int p0]) ++ List.replicate (3 - (lg_sl ([.ref (z + 0), .int p0])).length) Slot.unset).toArray = ls at hl ⊢
  have hl : lv_has ls 3 [(0, .ref (z + 0)), (1, .int p0)] := hl
  have C45 : ∀ (n : Nat), ∀ (I : dkI) (H : Heap) (locs : List Loc) (ls : Array Slot) (x45_2 : Int32), (24 - x45_2.toInt).toNat < n → dkW g z I H → va_S (dkA z) s.heap H locs → dkF [(61, 324, 0, 2147483647), (25, 25, 2, 3), (28, 28, 0, 4), (30, 30, 0, 4), (31, 31, 0, 4), (34, 34, 0, 5), (35, 35, 0, 8), (59, 59, 1, 2)] I0 I → dkOk I → dkQQ I → dkN [(0, 24)] x45_2 → dkN [(1, 24)] p0 → dkN [(1, 9)] (I 25 0) → lv_has ls 3 [(0, .ref (z + 0)), (1, .int p0), (2, .int x45_2)] → W p l e (headSpec wsX5_minutes (dkR 5)).room s m args below meth c H locs 0 0 (MQ below (dkQi g z (fun r I1 => dkF [(61, 324, 0, 2147483647), (25, 25, 2, 3), (28, 28, 0, 4), (30, 30, 0, 4), (31, 31, 0, 4), (34, 34, 0, 5), (35, 35, 0, 8), (59, 59, 1, 2)] I0 I1 ∧ dkOk I1 ∧ dkQQ I1 ∧ ((True ∧ True)))) args s 0 0 (dkA z)) (F0 m 45 ls []) := by
    intro n
    induction n with
    | zero => intro I H locs ls x45_2 hn; exact absurd hn (Nat.not_lt_zero _)
    | succ n ih45 =>
      intro I45_ H locs ls x45_2 hn45 hW hS hF_45 hO hP k45_0 r45_0 f45_0 hl
      have hF := hF_45
      refine lv_iload_n hx hb dX5_minutes_45 rfl (lv_at hl 2 rfl) ?_
      refine lv_iload_n hx hb dX5_minutes_46 rfl (lv_at hl 1 rfl) ?_
      refine lv_icmp_ge (tgt := 75) hx hb dX5_minutes_47 (by decide) (fun c1 => ?_) (fun c1 => ?_)
      ·
        have d2 : dkN [(1, 24)] x45_2 := dkN_le2 0 r45_0 k45_0 (dkc_le c1) rfl
        refine lv_aload_n hx hb dX5_minutes_75 rfl (lv_at hl 0 rfl) ?_
        refine dk_get (k := 0) hx hb hts iX5_minutes_5 hown hK (dk_at0 hW) rfl 5 (by decide) (hts (.fieldLink RX5 31 "DogKings" "now" "LDogKings$Town;") (List.mem_of_getElem? (i := 1) rfl)) rfl dX5_minutes_76 ?_
        refine dk_get (k := 25) hx hb hts iX5_minutes_4 hown hK (dk_at25 hW) rfl 2 (by decide) (hts (.fieldLink RX5 130 "DogKings$Town" "friday" "I") (List.mem_of_getElem? (i := 4) rfl)) rfl dX5_minutes_79 ?_
        refine lv_topi (fun v3 ev3 => ?_)
        exact W.iret (v := v3) hx hb hr (fun t ht hW9 => ⟨⟨v3, I45_, rfl, ⟨hF, hO, hP, ⟨trivial, trivial⟩⟩, dkW_eq ht hW⟩, hS.F ht⟩) hS.2.2 dX5_minutes_82
      ·
        have d4 : dkN [(0, 23)] x45_2 := dkN_le1 1 k45_0 r45_0 (dkc_nle c1) rfl
        refine lv_aload_n hx hb dX5_minutes_50 rfl (lv_at hl 0 rfl) ?_
        refine dk_get (k := 0) hx hb hts iX5_minutes_5 hown hK (dk_at0 hW) rfl 7 (by decide) (hts (.fieldLink RX5 42 "DogKings" "acts" "LDogKings$Acts;") (List.mem_of_getElem? (i := 6) rfl)) rfl dX5_minutes_51 ?_
        refine lv_aload_n hx hb dX5_minutes_54 rfl (lv_at hl 0 rfl) ?_
        refine dk_get (k := 0) hx hb hts iX5_minutes_5 hown hK (dk_at0 hW) rfl 5 (by decide) (hts (.fieldLink RX5 31 "DogKings" "now" "LDogKings$Town;") (List.mem_of_getElem? (i := 1) rfl)) rfl dX5_minutes_55 ?_
        refine dk_Vv (As := [.ref (z + 25)]) (rest := []) ⟨hx, hb, hml, hown, hts⟩ (fx_X0_keep_1 l g z I45_ hO hP) (cwV 1 hts gX5_minutes_X0_keep rfl rfl rfl (by decide +kernel) ⟨Nat.le_of_ble_eq_true rfl, Nat.le_of_ble_eq_true rfl⟩) (dk_at59 hW) rfl hK hT hW hS rfl hl.1 rfl (Nat.le_of_ble_eq_true rfl) dX5_minutes_58 ⟨Nat.zero_le _, Nat.zero_le _⟩ (fun I5 H5 L5 hp5 hW hS => ?_)
        obtain ⟨hF5, hO, hP, hc5⟩ := hp5
        have hF := dkF_call hF hF5 rfl
        obtain ⟨f5_59_2, -⟩ := hc5
        refine lv_aload_n hx hb dX5_minutes_61 rfl (lv_at hl 0 rfl) ?_
        refine dk_get (k := 0) hx hb hts iX5_minutes_5 hown hK (dk_at0 hW) rfl 5 (by decide) (hts (.fieldLink RX5 31 "DogKings" "now" "LDogKings$Town;") (List.mem_of_getElem? (i := 1) rfl)) rfl dX5_minutes_62 ?_
        refine dk_Vi (As := []) (rest := []) ⟨hx, hb, hml, hown, hts⟩ (c_X4_pass_0 l g z I5 (25) (by unfold dkT; omega) hO) (cwV 0 hts gX5_minutes_X4_pass rfl rfl rfl (by decide +kernel) ⟨Nat.le_of_ble_eq_true rfl, Nat.le_of_ble_eq_true rfl⟩) (dk_at25 hW) rfl hK hT hW hS rfl hl.1 rfl (Nat.le_of_ble_eq_true rfl) dX5_minutes_65 ⟨Nat.zero_le _, Nat.zero_le _⟩ (fun v6 I6 H6 L6 hp6 hW hS => ?_)
        obtain ⟨hF6, hO, hc6⟩ := hp6
        have hF := dkF_call hF hF6 rfl
        have hP := dkQQ_F hP hF6 rfl
        obtain ⟨dv6, f6_25_3, -⟩ := hc6
        refine lv_pop hx hb dX5_minutes_68 rfl ?_
        obtain ⟨v7, ev7⟩ : ∃ y : Int32, y = x45_2 + 1 := ⟨_, rfl⟩
        have dv7 : dkN [(1, 24)] v7 := by rw [ev7]; exact dkN_add d4 (dkN_lit (x := 1) (1) rfl) rfl
        refine lv_iinc (v := v7) (lv' := [(2, .int v7), (0, .ref (z + 0)), (1, .int p0)]) hx hb dX5_minutes_69 hl (k := 2) rfl (by rw [ev7]; rfl) (by decide) rfl (fun ls hl => ?_)
        refine lv_goto (tgt := 45) hx hb dX5_minutes_72 (by decide) ?_
        exact ih45 I6 _ _ ls v7 (dk_near hn45 (by rw [ev7]; exact dk_inc d4 rfl) (dkN_lt d4 rfl)) hW hS hF hO hP (dkN_sub dv7 rfl) (dkN_sub r45_0 rfl) (show dkN [(1, 9)] (I6 25 0) from dkN_sub (by rw [hF6 25 0 rfl]; exact (by rw [hF5 25 0 rfl]; exact f45_0)) rfl) (lv_sub hl [1, 2, 0] rfl)
  refine lv_aload_n hx hb dX5_minutes_0 rfl (lv_at hl 0 rfl) ?_
  refine dk_get (k := 0) hx hb hts iX5_minutes_5 hown hK (dk_at0 hW) rfl 5 (by decide) (hts (.fieldLink RX5 31 "DogKings" "now" "LDogKings$Town;") (List.mem_of_getElem? (i := 1) rfl)) rfl dX5_minutes_1 ?_
  refine dk_Vi (As := []) (rest := []) ⟨hx, hb, hml, hown, hts⟩ (c_X4_stands_0 l g z I0 (25) (by unfold dkT; omega) hO) (cwV 0 hts gX5_minutes_X4_stands rfl rfl rfl (by decide +kernel) ⟨Nat.le_of_ble_eq_true rfl, Nat.le_of_ble_eq_true rfl⟩) (dk_at25 hW) rfl hK hT hW hS rfl hl.1 rfl (Nat.le_of_ble_eq_true rfl) dX5_minutes_4 ⟨Nat.zero_le _, Nat.zero_le _⟩ (fun v8 I8 H8 L8 hp8 hW hS => ?_)
  obtain ⟨hF8, hO, hc8⟩ := hp8
  have hF := dkF_call hF hF8 rfl
  have hP := dkQQ_F hP hF8 rfl
  rcases hc8 with ⟨dv8, f8_25_0, -⟩ | hc8
  ·
    refine lv_if_ne (tgt := 13) hx hb dX5_minutes_7 (by decide) (fun c9 => ?_) (fun c9 => ?_)
    ·
      exact (dkN_nil (show dkN [] v8 from dkN_ne1 (0) dv8 (dkN_lit (x := 0) (0) rfl) (dk_ne c9) rfl)).elim
    ·
      refine lv_ldc (v := (-1000002)) hx hb hown (hts (.constant RX5 129 (-1000002)) (List.mem_of_getElem? (i := 2) rfl)) dX5_minutes_10 ?_
      exact W.iret (v := (-1000002)) hx hb hr (fun t ht hW9 => ⟨⟨(-1000002), I8, rfl, ⟨hF, hO, hP, ⟨trivial, trivial⟩⟩, dkW_eq ht hW⟩, hS.F ht⟩) hS.2.2 dX5_minutes_12
  ·
    obtain ⟨dv8, f8_25_0, -⟩ := hc8
    refine lv_if_ne (tgt := 13) hx hb dX5_minutes_7 (by decide) (fun c10 => ?_) (fun c10 => ?_)
    ·
      refine lv_iload_n hx hb dX5_minutes_13 rfl (lv_at hl 1 rfl) ?_
      refine lv_iconst (v := 1) hx hb dX5_minutes_14 (by decide) ?_
      refine lv_icmp_lt (tgt := 24) hx hb dX5_minutes_15 (by decide) (fun c11 => ?_) (fun c11 => ?_)
      ·
        have d12 : dkN [(-2147483648, 0)] p0 := dkN_le1 1 (dkN_top p0) (dkN_lit (x := 1) (1) rfl) (dkc_lt c11) rfl
        refine lv_ldc (v := (-1000001)) hx hb hown (hts (.constant RX5 70 (-1000001)) (List.mem_of_getElem? (i := 3) rfl)) dX5_minutes_24 ?_
        exact W.iret (v := (-1000001)) hx hb hr (fun t ht hW9 => ⟨⟨(-1000001), I8, rfl, ⟨hF, hO, hP, ⟨trivial, trivial⟩⟩, dkW_eq ht hW⟩, hS.F ht⟩) hS.2.2 dX5_minutes_26
      ·
        have d13 : dkN [(1, 2147483647)] p0 := dkN_le2 0 (dkN_lit (x := 1) (1) rfl) (dkN_top p0) (dkc_nlt c11) rfl
        refine lv_iload_n hx hb dX5_minutes_18 rfl (lv_at hl 1 rfl) ?_
        refine lv_bipush (v := 24) hx hb dX5_minutes_19 (by decide) ?_
        refine lv_icmp_le (tgt := 27) hx hb dX5_minutes_21 (by decide) (fun c14 => ?_) (fun c14 => ?_)
        ·
          have d15 : dkN [(1, 24)] p0 := dkN_le1 0 d13 (dkN_lit (x := 24) (24) rfl) (dkc_le c14) rfl
          refine lv_aload_n hx hb dX5_minutes_27 rfl (lv_at hl 0 rfl) ?_
          refine dk_get (k := 0) hx hb hts iX5_minutes_5 hown hK (dk_at0 hW) rfl 5 (by decide) (hts (.fieldLink RX5 31 "DogKings" "now" "LDogKings$Town;") (List.mem_of_getElem? (i := 1) rfl)) rfl dX5_minutes_28 ?_
          refine dk_get (k := 25) hx hb hts iX5_minutes_4 hown hK (dk_at25 hW) rfl 2 (by decide) (hts (.fieldLink RX5 130 "DogKings$Town" "friday" "I") (List.mem_of_getElem? (i := 4) rfl)) rfl dX5_minutes_31 ?_
          refine lv_topi (fun v16 ev16 => ?_)
          refine lv_sipush (v := 999) hx hb dX5_minutes_34 (by decide) ?_
          refine lv_icmp_lt (tgt := 43) hx hb dX5_minutes_37 (by decide) (fun c17 => ?_) (fun c17 => ?_)
          ·
            have d18 : dkN [(-2147483648, 998)] v16 := dkN_le1 1 (dkN_top v16) (dkN_lit (x := 999) (999) rfl) (dkc_lt c17) rfl
            have f19 : dkN [(-2147483648, 998)] (I8 25 2) := by rw [← ev16]; exact d18
            refine lv_iconst (v := 0) hx hb dX5_minutes_43 (by decide) ?_
            refine lv_istore_n (lv' := [(2, .int 0), (0, .ref (z + 0)), (1, .int p0)]) hx hb dX5_minutes_44 rfl hl (by decide) rfl (fun ls hl => ?_)
            exact C45 _ I8 _ _ ls 0 (Nat.lt_succ_self _) hW hS hF hO hP (dkN_sub (dkN_lit (x := 0) (0) rfl) rfl) (dkN_sub d15 rfl) (show dkN [(1, 9)] (I8 25 0) from dkN_sub f8_25_0 rfl) (lv_sub hl [1, 2, 0] rfl)
          ·
            have d20 : dkN [(999, 2147483647)] v16 := dkN_le2 0 (dkN_lit (x := 999) (999) rfl) (dkN_top v16) (dkc_nlt c17) rfl
            have f21 : dkN [(999, 2147483647)] (I8 25 2) := by rw [← ev16]; exact d20
            refine lv_ldc (v := (-1000003)) hx hb hown (hts (.constant RX5 99 (-1000003)) (List.mem_of_getElem? (i := 5) rfl)) dX5_minutes_40 ?_
            exact W.iret (v := (-1000003)) hx hb hr (fun t ht hW9 => ⟨⟨(-1000003), I8, rfl, ⟨hF, hO, hP, ⟨trivial, trivial⟩⟩, dkW_eq ht hW⟩, hS.F ht⟩) hS.2.2 dX5_minutes_42
        ·
          have d22 : dkN [(25, 2147483647)] p0 := dkN_le2 1 (dkN_lit (x := 24) (24) rfl) d13 (dkc_nle c14) rfl
          refine lv_ldc (v := (-1000001)) hx hb hown (hts (.constant RX5 70 (-1000001)) (List.mem_of_getElem? (i := 3) rfl)) dX5_minutes_24 ?_
          exact W.iret (v := (-1000001)) hx hb hr (fun t ht hW9 => ⟨⟨(-1000001), I8, rfl, ⟨hF, hO, hP, ⟨trivial, trivial⟩⟩, dkW_eq ht hW⟩, hS.F ht⟩) hS.2.2 dX5_minutes_26
    ·
      exact (dkN_nil (show dkN [] v8 from dkN_eq1 dv8 (dkN_lit (x := 0) (0) rfl) (congrArg Int32.toInt c10) rfl)).elim
set_option maxHeartbeats 4000000 in
set_option maxRecDepth 100000 in
theorem c_X5_bones_1 (l : Launch) (g : dkG) (z : Nat) (I0 : dkI) (p0 : Int32) (p1 : Int32)  (hO : dkOk I0) (hP : dkQQ I0) : Met l yX5_bones wsX5_bones (dkR 2) (dkPc g z [.ref (z + 0), .int p0, .int p1] I0) (dkQi g z (fun r I1 => dkF [(61, 324, 0, 2147483647), (29, 29, 0, 4), (59, 59, 1, 2)] I0 I1 ∧ dkOk I1 ∧ dkQQ I1 ∧ ((True ∧ True)))) 0 0 (dkA z) := by
  refine Met.ofW (cc := cX5_bones) (maxL := 4) (ret := (some .int)) (by decide) rfl ?_
  intro p e s m args below meth c s₁ B hml hv
  obtain ⟨ha, hW, hK, hT⟩ := hv
  have hx := B.exec
  have hb := B.bytes
  have hr := B.returns
  have hts := atoms_spec (ws := wsX5_bones) B.pre
  have hown : s.vm.findClass RX5 = some m.cls := findClass_of_methodNamed B.named
  have hlocks := B.notSynchronized
  have hS : va_S (dkA z) s.heap s.heap [] := va_S.rf
  have hF : dkF [(61, 324, 0, 2147483647), (29, 29, 0, 4), (59, 59, 1, 2)] I0 I0 := dkF_rf _ _
  have hl := lv_entry ([.ref (z + 0), .int p0, .int p1]) (n := 4) (Nat.le_of_ble_eq_true rfl)
  have hgo : entryFrame m args 4 = entryFrame m ([.ref (z + 0), .int p0, .int p1] : List Value).toArray 4 := by rw [ha]
  rw [hgo, lg_entry_eq]
  generalize (lg_sl ([.ref (z + 0), .int p0, .int p1]) ++ List.replicate (4 - (lg_sl ([.ref (z + 0), .int p0, .int p1])).length) Slot.unset).toArray = ls at hl ⊢
  have hl : lv_has ls 4 [(0, .ref (z + 0)), (1, .int p0), (2, .int p1)] := hl
  refine lv_aload_n hx hb dX5_bones_0 rfl (lv_at hl 0 rfl) ?_
  refine lv_iload_n hx hb dX5_bones_1 rfl (lv_at hl 1 rfl) ?_
  refine dk_Vi (As := [.int p0]) (rest := []) ⟨hx, hb, hml, hown, hts⟩ (c_X5_isPerson_0 l g z I0 p0 hO) (cwV 1 hts gX5_bones_X5_isPerson rfl rfl rfl (by decide +kernel) ⟨Nat.le_of_ble_eq_true rfl, Nat.le_of_ble_eq_true rfl⟩) (dk_at0 hW) rfl hK hT hW hS rfl hl.1 rfl (Nat.le_of_ble_eq_true rfl) dX5_bones_2 ⟨Nat.zero_le _, Nat.zero_le _⟩ (fun v1 I1 H1 L1 hp1 hW hS => ?_)
  obtain ⟨hF1, hO, hc1⟩ := hp1
  have hF := dkF_call hF hF1 rfl
  have hP := dkQQ_F hP hF1 rfl
  rcases hc1 with ⟨dv1, -⟩ | hc1
  ·
    refine lv_if_eq (tgt := 17) hx hb dX5_bones_5 (by decide) (fun c2 => ?_) (fun c2 => ?_)
    ·
      refine lv_ldc (v := (-1000001)) hx hb hown (hts (.constant RX5 70 (-1000001)) (List.mem_of_getElem? (i := 1) rfl)) dX5_bones_17 ?_
      exact W.iret (v := (-1000001)) hx hb hr (fun t ht hW9 => ⟨⟨(-1000001), I1, rfl, ⟨hF, hO, hP, ⟨trivial, trivial⟩⟩, dkW_eq ht hW⟩, hS.F ht⟩) hS.2.2 dX5_bones_19
    ·
      exact (dkN_nil (show dkN [] v1 from dkN_ne1 (0) dv1 (dkN_lit (x := 0) (0) rfl) (dk_ne c2) rfl)).elim
  ·
    obtain ⟨dv1, a1_0, f1_25_4, -⟩ := hc1
    have d3 : dkN [(0, 4)] p0 := dkN_eq1 (dkN_top p0) a1_0 rfl rfl
    refine lv_if_eq (tgt := 17) hx hb dX5_bones_5 (by decide) (fun c4 => ?_) (fun c4 => ?_)
    ·
      exact (dkN_nil (show dkN [] v1 from dkN_eq1 dv1 (dkN_lit (x := 0) (0) rfl) (congrArg Int32.toInt c4) rfl)).elim
    ·
      refine lv_iload_n hx hb dX5_bones_8 rfl (lv_at hl 2 rfl) ?_
      refine lv_bipush (v := 9) hx hb dX5_bones_9 (by decide) ?_
      refine dk_Si (As := [.int p1, .int 9]) (rest := []) ⟨hx, hb, hml, hown, hts⟩ (c_X5_isUpTo_3 l g z I1 p1 9 (dkN_lit (x := 9) (9) rfl) hO) (va_cwS 2 hts gX5_bones_X5_isUpTo rfl rfl rfl (by decide +kernel) ⟨Nat.le_of_ble_eq_true rfl, Nat.le_of_ble_eq_true rfl⟩) hK hT hW hS rfl hl.1 rfl (Nat.le_of_ble_eq_true rfl) dX5_bones_11 ⟨Nat.zero_le _, Nat.zero_le _⟩ (fun v5 I5 H5 L5 hp5 hW hS => ?_)
      obtain ⟨hF5, hO, hc5⟩ := hp5
      have hF := dkF_call hF hF5 rfl
      have hP := dkQQ_F hP hF5 rfl
      rcases hc5 with ⟨dv5, a5_0, -⟩ | hc5
      ·
        have d6 : dkN [(-2147483648, -1), (10, 2147483647)] p1 := dkN_eq1 (dkN_top p1) a5_0 rfl rfl
        refine lv_if_ne (tgt := 20) hx hb dX5_bones_14 (by decide) (fun c7 => ?_) (fun c7 => ?_)
        ·
          exact (dkN_nil (show dkN [] v5 from dkN_ne1 (0) dv5 (dkN_lit (x := 0) (0) rfl) (dk_ne c7) rfl)).elim
        ·
          refine lv_ldc (v := (-1000001)) hx hb hown (hts (.constant RX5 70 (-1000001)) (List.mem_of_getElem? (i := 1) rfl)) dX5_bones_17 ?_
          exact W.iret (v := (-1000001)) hx hb hr (fun t ht hW9 => ⟨⟨(-1000001), I5, rfl, ⟨hF, hO, hP, ⟨trivial, trivial⟩⟩, dkW_eq ht hW⟩, hS.F ht⟩) hS.2.2 dX5_bones_19
      ·
        obtain ⟨dv5, a5_0, -⟩ := hc5
        have d8 : dkN [(0, 9)] p1 := dkN_eq1 (dkN_top p1) a5_0 rfl rfl
        refine lv_if_ne (tgt := 20) hx hb dX5_bones_14 (by decide) (fun c9 => ?_) (fun c9 => ?_)
        ·
          refine lv_aload_n hx hb dX5_bones_20 rfl (lv_at hl 0 rfl) ?_
          refine dk_get (k := 0) hx hb hts iX5_bones_5 hown hK (dk_at0 hW) rfl 5 (by decide) (hts (.fieldLink RX5 31 "DogKings" "now" "LDogKings$Town;") (List.mem_of_getElem? (i := 2) rfl)) rfl dX5_bones_21 ?_
          refine dk_get (k := 25) hx hb hts iX5_bones_4 hown hK (dk_at25 hW) rfl 8 (by decide) (hts (.fieldLink RX5 143 "DogKings$Town" "bones" "[I") (List.mem_of_getElem? (i := 3) rfl)) rfl dX5_bones_24 ?_
          refine lv_iload_n hx hb dX5_bones_27 rfl (lv_at hl 1 rfl) ?_
          refine dk_ild (k := 29) hx hb hK (dk_at29 hW) (dkN_in (n := 5) d3 rfl) dX5_bones_28 ?_
          refine lv_topi (fun v10 ev10 => ?_)
          refine lv_istore_n (lv' := [(3, .int v10), (0, .ref (z + 0)), (1, .int p0), (2, .int p1)]) hx hb dX5_bones_29 rfl hl (by decide) rfl (fun ls hl => ?_)
          refine lv_iload_n hx hb dX5_bones_30 rfl (lv_at hl 3 rfl) ?_
          refine lv_iload_n hx hb dX5_bones_31 rfl (lv_at hl 0 rfl) ?_
          refine lv_icmp_eq (tgt := 56) hx hb dX5_bones_32 (by decide) (fun c11 => ?_) (fun c11 => ?_)
          ·
            have d12 : dkN [(0, 9)] v10 := dkN_eq1 (dkN_top v10) d8 (congrArg Int32.toInt c11).symm rfl
            refine lv_iload_n hx hb dX5_bones_56 rfl (lv_at hl 0 rfl) ?_
            exact W.iret (v := v10) hx hb hr (fun t ht hW9 => ⟨⟨v10, I5, rfl, ⟨hF, hO, hP, ⟨trivial, trivial⟩⟩, dkW_eq ht hW⟩, hS.F ht⟩) hS.2.2 dX5_bones_57
          ·
            refine lv_aload_n hx hb dX5_bones_35 rfl (lv_at hl 1 rfl) ?_
            refine dk_get (k := 0) hx hb hts iX5_bones_5 hown hK (dk_at0 hW) rfl 7 (by decide) (hts (.fieldLink RX5 42 "DogKings" "acts" "LDogKings$Acts;") (List.mem_of_getElem? (i := 4) rfl)) rfl dX5_bones_36 ?_
            refine lv_aload_n hx hb dX5_bones_39 rfl (lv_at hl 1 rfl) ?_
            refine dk_get (k := 0) hx hb hts iX5_bones_5 hown hK (dk_at0 hW) rfl 5 (by decide) (hts (.fieldLink RX5 31 "DogKings" "now" "LDogKings$Town;") (List.mem_of_getElem? (i := 2) rfl)) rfl dX5_bones_40 ?_
            refine dk_Vv (As := [.ref (z + 25)]) (rest := []) ⟨hx, hb, hml, hown, hts⟩ (fx_X0_keep_1 l g z I5 hO hP) (cwV 1 hts gX5_bones_X0_keep rfl rfl rfl (by decide +kernel) ⟨Nat.le_of_ble_eq_true rfl, Nat.le_of_ble_eq_true rfl⟩) (dk_at59 hW) rfl hK hT hW hS rfl hl.1 rfl (Nat.le_of_ble_eq_true rfl) dX5_bones_43 ⟨Nat.zero_le _, Nat.zero_le _⟩ (fun I13 H13 L13 hp13 hW hS => ?_)
            obtain ⟨hF13, hO, hP, hc13⟩ := hp13
            have hF := dkF_call hF hF13 rfl
            obtain ⟨f13_59_2, -⟩ := hc13
            refine lv_aload_n hx hb dX5_bones_46 rfl (lv_at hl 1 rfl) ?_
            refine dk_get (k := 0) hx hb hts iX5_bones_5 hown hK (dk_at0 hW) rfl 5 (by decide) (hts (.fieldLink RX5 31 "DogKings" "now" "LDogKings$Town;") (List.mem_of_getElem? (i := 2) rfl)) rfl dX5_bones_47 ?_
            refine dk_get (k := 25) hx hb hts iX5_bones_4 hown hK (dk_at25 hW) rfl 8 (by decide) (hts (.fieldLink RX5 143 "DogKings$Town" "bones" "[I") (List.mem_of_getElem? (i := 3) rfl)) rfl dX5_bones_50 ?_
            refine lv_iload_n hx hb dX5_bones_53 rfl (lv_at hl 2 rfl) ?_
            refine lv_iload_n hx hb dX5_bones_54 rfl (lv_at hl 3 rfl) ?_
            refine dk_ist (k := 29) hx hb hK hW (fun _ => rfl) (by decide) hS (dkN_in (n := 5) d3 rfl) dX5_bones_55 (fun I14 H14 L14 eI14 hW hS => ?_)
            have hO := dkO_set hO eI14 (dkN_sub d8 rfl)
            have hF := dkF_set hF eI14 (dkIn_v d3 rfl)
            have hP := dkQQ_set hP eI14 (dkQQb_v d3 rfl)
            refine lv_iload_n hx hb dX5_bones_56 rfl (lv_at hl 0 rfl) ?_
            exact W.iret (v := v10) hx hb hr (fun t ht hW9 => ⟨⟨v10, I14, rfl, ⟨hF, hO, hP, ⟨trivial, trivial⟩⟩, dkW_eq ht hW⟩, hS.F ht⟩) hS.2.2 dX5_bones_57
        ·
          exact (dkN_nil (show dkN [] v5 from dkN_eq1 dv5 (dkN_lit (x := 0) (0) rfl) (congrArg Int32.toInt c9) rfl)).elim
set_option maxHeartbeats 4000000 in
set_option maxRecDepth 100000 in
theorem c_X5_walk_1 (l : Launch) (g : dkG) (z : Nat) (I0 : dkI) (p0 : Int32) (p1 : Int32)  (hO : dkOk I0) (hP : dkQQ I0) : Met l yX5_walk wsX5_walk (dkR 2) (dkPc g z [.ref (z + 0), .int p0, .int p1] I0) (dkQi g z (fun r I1 => dkF [(61, 324, 0, 2147483647), (30, 30, 0, 4), (59, 59, 1, 2)] I0 I1 ∧ dkOk I1 ∧ dkQQ I1 ∧ ((True ∧ True)))) 0 0 (dkA z) := by
  refine Met.ofW (cc := cX5_walk) (maxL := 4) (ret := (some .int)) (by decide) rfl ?_
  intro p e s m args below meth c s₁ B hml hv
  obtain ⟨ha, hW, hK, hT⟩ := hv
  have hx := B.exec
  have hb := B.bytes
  have hr := B.returns
  have hts := atoms_spec (ws := wsX5_walk) B.pre
  have hown : s.vm.findClass RX5 = some m.cls := findClass_of_methodNamed B.named
  have hlocks := B.notSynchronized
  have hS : va_S (dkA z) s.heap s.heap [] := va_S.rf
  have hF : dkF [(61, 324, 0, 2147483647), (30, 30, 0, 4), (59, 59, 1, 2)] I0 I0 := dkF_rf _ _
  have hl := lv_entry ([.ref (z + 0), .int p0, .int p1]) (n := 4) (Nat.le_of_ble_eq_true rfl)
  have hgo : entryFrame m args 4 = entryFrame m ([.ref (z + 0), .int p0, .int p1] : List Value).toArray 4 := by rw [ha]
  rw [hgo, lg_entry_eq]
  generalize (lg_sl ([.ref (z + 0), .int p0, .int p1]) ++ List.replicate (4 - (lg_sl ([.ref (z + 0), .int p0, .int p1])).length) Slot.unset).toArray = ls at hl ⊢
  have hl : lv_has ls 4 [(0, .ref (z + 0)), (1, .int p0), (2, .int p1)] := hl
  refine lv_aload_n hx hb dX5_walk_0 rfl (lv_at hl 0 rfl) ?_
  refine lv_iload_n hx hb dX5_walk_1 rfl (lv_at hl 1 rfl) ?_
  refine dk_Vi (As := [.int p0]) (rest := []) ⟨hx, hb, hml, hown, hts⟩ (c_X5_isPerson_0 l g z I0 p0 hO) (cwV 1 hts gX5_walk_X5_isPerson rfl rfl rfl (by decide +kernel) ⟨Nat.le_of_ble_eq_true rfl, Nat.le_of_ble_eq_true rfl⟩) (dk_at0 hW) rfl hK hT hW hS rfl hl.1 rfl (Nat.le_of_ble_eq_true rfl) dX5_walk_2 ⟨Nat.zero_le _, Nat.zero_le _⟩ (fun v1 I1 H1 L1 hp1 hW hS => ?_)
  obtain ⟨hF1, hO, hc1⟩ := hp1
  have hF := dkF_call hF hF1 rfl
  have hP := dkQQ_F hP hF1 rfl
  rcases hc1 with ⟨dv1, -⟩ | hc1
  ·
    refine lv_if_eq (tgt := 16) hx hb dX5_walk_5 (by decide) (fun c2 => ?_) (fun c2 => ?_)
    ·
      refine lv_ldc (v := (-1000001)) hx hb hown (hts (.constant RX5 70 (-1000001)) (List.mem_of_getElem? (i := 1) rfl)) dX5_walk_16 ?_
      exact W.iret (v := (-1000001)) hx hb hr (fun t ht hW9 => ⟨⟨(-1000001), I1, rfl, ⟨hF, hO, hP, ⟨trivial, trivial⟩⟩, dkW_eq ht hW⟩, hS.F ht⟩) hS.2.2 dX5_walk_18
    ·
      exact (dkN_nil (show dkN [] v1 from dkN_ne1 (0) dv1 (dkN_lit (x := 0) (0) rfl) (dk_ne c2) rfl)).elim
  ·
    obtain ⟨dv1, a1_0, f1_25_4, -⟩ := hc1
    have d3 : dkN [(0, 4)] p0 := dkN_eq1 (dkN_top p0) a1_0 rfl rfl
    refine lv_if_eq (tgt := 16) hx hb dX5_walk_5 (by decide) (fun c4 => ?_) (fun c4 => ?_)
    ·
      exact (dkN_nil (show dkN [] v1 from dkN_eq1 dv1 (dkN_lit (x := 0) (0) rfl) (congrArg Int32.toInt c4) rfl)).elim
    ·
      refine lv_iload_n hx hb dX5_walk_8 rfl (lv_at hl 2 rfl) ?_
      refine lv_iconst (v := 2) hx hb dX5_walk_9 (by decide) ?_
      refine dk_Si (As := [.int p1, .int 2]) (rest := []) ⟨hx, hb, hml, hown, hts⟩ (c_X5_isUpTo_1 l g z I1 p1 2 (dkN_lit (x := 2) (2) rfl) hO) (va_cwS 2 hts gX5_walk_X5_isUpTo rfl rfl rfl (by decide +kernel) ⟨Nat.le_of_ble_eq_true rfl, Nat.le_of_ble_eq_true rfl⟩) hK hT hW hS rfl hl.1 rfl (Nat.le_of_ble_eq_true rfl) dX5_walk_10 ⟨Nat.zero_le _, Nat.zero_le _⟩ (fun v5 I5 H5 L5 hp5 hW hS => ?_)
      obtain ⟨hF5, hO, hc5⟩ := hp5
      have hF := dkF_call hF hF5 rfl
      have hP := dkQQ_F hP hF5 rfl
      rcases hc5 with ⟨dv5, a5_0, -⟩ | hc5
      ·
        have d6 : dkN [(-2147483648, -1), (3, 2147483647)] p1 := dkN_eq1 (dkN_top p1) a5_0 rfl rfl
        refine lv_if_ne (tgt := 19) hx hb dX5_walk_13 (by decide) (fun c7 => ?_) (fun c7 => ?_)
        ·
          exact (dkN_nil (show dkN [] v5 from dkN_ne1 (0) dv5 (dkN_lit (x := 0) (0) rfl) (dk_ne c7) rfl)).elim
        ·
          refine lv_ldc (v := (-1000001)) hx hb hown (hts (.constant RX5 70 (-1000001)) (List.mem_of_getElem? (i := 1) rfl)) dX5_walk_16 ?_
          exact W.iret (v := (-1000001)) hx hb hr (fun t ht hW9 => ⟨⟨(-1000001), I5, rfl, ⟨hF, hO, hP, ⟨trivial, trivial⟩⟩, dkW_eq ht hW⟩, hS.F ht⟩) hS.2.2 dX5_walk_18
      ·
        obtain ⟨dv5, a5_0, -⟩ := hc5
        have d8 : dkN [(0, 2)] p1 := dkN_eq1 (dkN_top p1) a5_0 rfl rfl
        refine lv_if_ne (tgt := 19) hx hb dX5_walk_13 (by decide) (fun c9 => ?_) (fun c9 => ?_)
        ·
          refine lv_aload_n hx hb dX5_walk_19 rfl (lv_at hl 0 rfl) ?_
          refine dk_get (k := 0) hx hb hts iX5_walk_5 hown hK (dk_at0 hW) rfl 5 (by decide) (hts (.fieldLink RX5 31 "DogKings" "now" "LDogKings$Town;") (List.mem_of_getElem? (i := 2) rfl)) rfl dX5_walk_20 ?_
          refine dk_get (k := 25) hx hb hts iX5_walk_4 hown hK (dk_at25 hW) rfl 9 (by decide) (hts (.fieldLink RX5 146 "DogKings$Town" "gait" "[I") (List.mem_of_getElem? (i := 3) rfl)) rfl dX5_walk_23 ?_
          refine lv_iload_n hx hb dX5_walk_26 rfl (lv_at hl 1 rfl) ?_
          refine dk_ild (k := 30) hx hb hK (dk_at30 hW) (dkN_in (n := 5) d3 rfl) dX5_walk_27 ?_
          refine lv_topi (fun v10 ev10 => ?_)
          refine lv_istore_n (lv' := [(3, .int v10), (0, .ref (z + 0)), (1, .int p0), (2, .int p1)]) hx hb dX5_walk_28 rfl hl (by decide) rfl (fun ls hl => ?_)
          refine lv_iload_n hx hb dX5_walk_29 rfl (lv_at hl 3 rfl) ?_
          refine lv_iload_n hx hb dX5_walk_30 rfl (lv_at hl 0 rfl) ?_
          refine lv_icmp_eq (tgt := 55) hx hb dX5_walk_31 (by decide) (fun c11 => ?_) (fun c11 => ?_)
          ·
            have d12 : dkN [(0, 2)] v10 := dkN_eq1 (dkN_top v10) d8 (congrArg Int32.toInt c11).symm rfl
            refine lv_iload_n hx hb dX5_walk_55 rfl (lv_at hl 0 rfl) ?_
            exact W.iret (v := v10) hx hb hr (fun t ht hW9 => ⟨⟨v10, I5, rfl, ⟨hF, hO, hP, ⟨trivial, trivial⟩⟩, dkW_eq ht hW⟩, hS.F ht⟩) hS.2.2 dX5_walk_56
          ·
            refine lv_aload_n hx hb dX5_walk_34 rfl (lv_at hl 1 rfl) ?_
            refine dk_get (k := 0) hx hb hts iX5_walk_5 hown hK (dk_at0 hW) rfl 7 (by decide) (hts (.fieldLink RX5 42 "DogKings" "acts" "LDogKings$Acts;") (List.mem_of_getElem? (i := 4) rfl)) rfl dX5_walk_35 ?_
            refine lv_aload_n hx hb dX5_walk_38 rfl (lv_at hl 1 rfl) ?_
            refine dk_get (k := 0) hx hb hts iX5_walk_5 hown hK (dk_at0 hW) rfl 5 (by decide) (hts (.fieldLink RX5 31 "DogKings" "now" "LDogKings$Town;") (List.mem_of_getElem? (i := 2) rfl)) rfl dX5_walk_39 ?_
            refine dk_Vv (As := [.ref (z + 25)]) (rest := []) ⟨hx, hb, hml, hown, hts⟩ (fx_X0_keep_1 l g z I5 hO hP) (cwV 1 hts gX5_walk_X0_keep rfl rfl rfl (by decide +kernel) ⟨Nat.le_of_ble_eq_true rfl, Nat.le_of_ble_eq_true rfl⟩) (dk_at59 hW) rfl hK hT hW hS rfl hl.1 rfl (Nat.le_of_ble_eq_true rfl) dX5_walk_42 ⟨Nat.zero_le _, Nat.zero_le _⟩ (fun I13 H13 L13 hp13 hW hS => ?_)
            obtain ⟨hF13, hO, hP, hc13⟩ := hp13
            have hF := dkF_call hF hF13 rfl
            obtain ⟨f13_59_2, -⟩ := hc13
            refine lv_aload_n hx hb dX5_walk_45 rfl (lv_at hl 1 rfl) ?_
            refine dk_get (k := 0) hx hb hts iX5_walk_5 hown hK (dk_at0 hW) rfl 5 (by decide) (hts (.fieldLink RX5 31 "DogKings" "now" "LDogKings$Town;") (List.mem_of_getElem? (i := 2) rfl)) rfl dX5_walk_46 ?_
            refine dk_get (k := 25) hx hb hts iX5_walk_4 hown hK (dk_at25 hW) rfl 9 (by decide) (hts (.fieldLink RX5 146 "DogKings$Town" "gait" "[I") (List.mem_of_getElem? (i := 3) rfl)) rfl dX5_walk_49 ?_
            refine lv_iload_n hx hb dX5_walk_52 rfl (lv_at hl 2 rfl) ?_
            refine lv_iload_n hx hb dX5_walk_53 rfl (lv_at hl 3 rfl) ?_
            refine dk_ist (k := 30) hx hb hK hW (fun _ => rfl) (by decide) hS (dkN_in (n := 5) d3 rfl) dX5_walk_54 (fun I14 H14 L14 eI14 hW hS => ?_)
            have hO := dkO_set hO eI14 (dkN_sub d8 rfl)
            have hF := dkF_set hF eI14 (dkIn_v d3 rfl)
            have hP := dkQQ_set hP eI14 (dkQQb_v d3 rfl)
            refine lv_iload_n hx hb dX5_walk_55 rfl (lv_at hl 0 rfl) ?_
            exact W.iret (v := v10) hx hb hr (fun t ht hW9 => ⟨⟨v10, I14, rfl, ⟨hF, hO, hP, ⟨trivial, trivial⟩⟩, dkW_eq ht hW⟩, hS.F ht⟩) hS.2.2 dX5_walk_56
        ·
          exact (dkN_nil (show dkN [] v5 from dkN_eq1 dv5 (dkN_lit (x := 0) (0) rfl) (congrArg Int32.toInt c9) rfl)).elim
set_option maxHeartbeats 4000000 in
set_option maxRecDepth 100000 in
theorem c_X5_put_1 (l : Launch) (g : dkG) (z : Nat) (I0 : dkI) (p0 : Int32) (p1 : Int32)  (hO : dkOk I0) (hP : dkQQ I0) : Met l yX5_put wsX5_put (dkR 2) (dkPc g z [.ref (z + 0), .int p0, .int p1] I0) (dkQi g z (fun r I1 => dkF [(61, 324, 0, 2147483647), (34, 34, 0, 5), (59, 59, 1, 2)] I0 I1 ∧ dkOk I1 ∧ dkQQ I1 ∧ ((True ∧ True)))) 0 0 (dkA z) := by
  refine Met.ofW (cc := cX5_put) (maxL := 4) (ret := (some .int)) (by decide) rfl ?_
  intro p e s m args below meth c s₁ B hml hv
  obtain ⟨ha, hW, hK, hT⟩ := hv
  have hx := B.exec
  have hb := B.bytes
  have hr := B.returns
  have hts := atoms_spec (ws := wsX5_put) B.pre
  have hown : s.vm.findClass RX5 = some m.cls := findClass_of_methodNamed B.named
  have hlocks := B.notSynchronized
  have hS : va_S (dkA z) s.heap s.heap [] := va_S.rf
  have hF : dkF [(61, 324, 0, 2147483647), (34, 34, 0, 5), (59, 59, 1, 2)] I0 I0 := dkF_rf _ _
  have hl := lv_entry ([.ref (z + 0), .int p0, .int p1]) (n := 4) (Nat.le_of_ble_eq_true rfl)
  have hgo : entryFrame m args 4 = entryFrame m ([.ref (z + 0), .int p0, .int p1] : List Value).toArray 4 := by rw [ha]
  rw [hgo, lg_entry_eq]
  generalize (lg_sl ([.ref (z + 0), .int p0, .int p1]) ++ List.replicate (4 - (lg_sl ([.ref (z + 0), .int p0, .int p1])).length) Slot.unset).toArray = ls at hl ⊢
  have hl : lv_has ls 4 [(0, .ref (z + 0)), (1, .int p0), (2, .int p1)] := hl
  refine lv_aload_n hx hb dX5_put_0 rfl (lv_at hl 0 rfl) ?_
  refine lv_iload_n hx hb dX5_put_1 rfl (lv_at hl 1 rfl) ?_
  refine dk_Vi (As := [.int p0]) (rest := []) ⟨hx, hb, hml, hown, hts⟩ (c_X5_isDog_0 l g z I0 p0 hO) (cwV 1 hts gX5_put_X5_isDog rfl rfl rfl (by decide +kernel) ⟨Nat.le_of_ble_eq_true rfl, Nat.le_of_ble_eq_true rfl⟩) (dk_at0 hW) rfl hK hT hW hS rfl hl.1 rfl (Nat.le_of_ble_eq_true rfl) dX5_put_2 ⟨Nat.zero_le _, Nat.zero_le _⟩ (fun v1 I1 H1 L1 hp1 hW hS => ?_)
  obtain ⟨hF1, hO, hc1⟩ := hp1
  have hF := dkF_call hF hF1 rfl
  have hP := dkQQ_F hP hF1 rfl
  rcases hc1 with ⟨dv1, -⟩ | hc1
  ·
    refine lv_if_eq (tgt := 16) hx hb dX5_put_5 (by decide) (fun c2 => ?_) (fun c2 => ?_)
    ·
      refine lv_ldc (v := (-1000001)) hx hb hown (hts (.constant RX5 70 (-1000001)) (List.mem_of_getElem? (i := 1) rfl)) dX5_put_16 ?_
      exact W.iret (v := (-1000001)) hx hb hr (fun t ht hW9 => ⟨⟨(-1000001), I1, rfl, ⟨hF, hO, hP, ⟨trivial, trivial⟩⟩, dkW_eq ht hW⟩, hS.F ht⟩) hS.2.2 dX5_put_18
    ·
      exact (dkN_nil (show dkN [] v1 from dkN_ne1 (0) dv1 (dkN_lit (x := 0) (0) rfl) (dk_ne c2) rfl)).elim
  ·
    obtain ⟨dv1, a1_0, f1_25_11, -⟩ := hc1
    have d3 : dkN [(0, 5)] p0 := dkN_eq1 (dkN_top p0) a1_0 rfl rfl
    refine lv_if_eq (tgt := 16) hx hb dX5_put_5 (by decide) (fun c4 => ?_) (fun c4 => ?_)
    ·
      exact (dkN_nil (show dkN [] v1 from dkN_eq1 dv1 (dkN_lit (x := 0) (0) rfl) (congrArg Int32.toInt c4) rfl)).elim
    ·
      refine lv_aload_n hx hb dX5_put_8 rfl (lv_at hl 0 rfl) ?_
      refine lv_iload_n hx hb dX5_put_9 rfl (lv_at hl 2 rfl) ?_
      refine dk_Vi (As := [.int p1]) (rest := []) ⟨hx, hb, hml, hown, hts⟩ (c_X5_isPlace_0 l g z I1 p1 hO) (cwV 1 hts gX5_put_X5_isPlace rfl rfl rfl (by decide +kernel) ⟨Nat.le_of_ble_eq_true rfl, Nat.le_of_ble_eq_true rfl⟩) (dk_at0 hW) rfl hK hT hW hS rfl hl.1 rfl (Nat.le_of_ble_eq_true rfl) dX5_put_10 ⟨Nat.zero_le _, Nat.zero_le _⟩ (fun v5 I5 H5 L5 hp5 hW hS => ?_)
      obtain ⟨hF5, hO, hc5⟩ := hp5
      have hF := dkF_call hF hF5 rfl
      have hP := dkQQ_F hP hF5 rfl
      rcases hc5 with ⟨dv5, -⟩ | hc5
      ·
        refine lv_if_ne (tgt := 19) hx hb dX5_put_13 (by decide) (fun c6 => ?_) (fun c6 => ?_)
        ·
          exact (dkN_nil (show dkN [] v5 from dkN_ne1 (0) dv5 (dkN_lit (x := 0) (0) rfl) (dk_ne c6) rfl)).elim
        ·
          refine lv_ldc (v := (-1000001)) hx hb hown (hts (.constant RX5 70 (-1000001)) (List.mem_of_getElem? (i := 1) rfl)) dX5_put_16 ?_
          exact W.iret (v := (-1000001)) hx hb hr (fun t ht hW9 => ⟨⟨(-1000001), I5, rfl, ⟨hF, hO, hP, ⟨trivial, trivial⟩⟩, dkW_eq ht hW⟩, hS.F ht⟩) hS.2.2 dX5_put_18
      ·
        obtain ⟨dv5, a5_0, f5_25_0, -⟩ := hc5
        have d7 : dkN [(0, 8)] p1 := dkN_eq1 (dkN_top p1) a5_0 rfl rfl
        refine lv_if_ne (tgt := 19) hx hb dX5_put_13 (by decide) (fun c8 => ?_) (fun c8 => ?_)
        ·
          refine lv_aload_n hx hb dX5_put_19 rfl (lv_at hl 0 rfl) ?_
          refine dk_get (k := 0) hx hb hts iX5_put_5 hown hK (dk_at0 hW) rfl 5 (by decide) (hts (.fieldLink RX5 31 "DogKings" "now" "LDogKings$Town;") (List.mem_of_getElem? (i := 2) rfl)) rfl dX5_put_20 ?_
          refine dk_get (k := 25) hx hb hts iX5_put_4 hown hK (dk_at25 hW) rfl 14 (by decide) (hts (.fieldLink RX5 155 "DogKings$Town" "dogAt" "[I") (List.mem_of_getElem? (i := 3) rfl)) rfl dX5_put_23 ?_
          refine lv_iload_n hx hb dX5_put_26 rfl (lv_at hl 1 rfl) ?_
          refine dk_ild (k := 34) hx hb hK (dk_at34 hW) (dkN_in (n := 6) d3 rfl) dX5_put_27 ?_
          refine lv_topi (fun v9 ev9 => ?_)
          refine lv_istore_n (lv' := [(3, .int v9), (0, .ref (z + 0)), (1, .int p0), (2, .int p1)]) hx hb dX5_put_28 rfl hl (by decide) rfl (fun ls hl => ?_)
          refine lv_iload_n hx hb dX5_put_29 rfl (lv_at hl 3 rfl) ?_
          refine lv_iload_n hx hb dX5_put_30 rfl (lv_at hl 0 rfl) ?_
          refine lv_icmp_ne (tgt := 37) hx hb dX5_put_31 (by decide) (fun c10 => ?_) (fun c10 => ?_)
          ·
            refine lv_aload_n hx hb dX5_put_37 rfl (lv_at hl 1 rfl) ?_
            refine dk_get (k := 0) hx hb hts iX5_put_5 hown hK (dk_at0 hW) rfl 7 (by decide) (hts (.fieldLink RX5 42 "DogKings" "acts" "LDogKings$Acts;") (List.mem_of_getElem? (i := 5) rfl)) rfl dX5_put_38 ?_
            refine lv_aload_n hx hb dX5_put_41 rfl (lv_at hl 1 rfl) ?_
            refine dk_get (k := 0) hx hb hts iX5_put_5 hown hK (dk_at0 hW) rfl 5 (by decide) (hts (.fieldLink RX5 31 "DogKings" "now" "LDogKings$Town;") (List.mem_of_getElem? (i := 2) rfl)) rfl dX5_put_42 ?_
            refine dk_Vv (As := [.ref (z + 25)]) (rest := []) ⟨hx, hb, hml, hown, hts⟩ (fx_X0_keep_1 l g z I5 hO hP) (cwV 1 hts gX5_put_X0_keep rfl rfl rfl (by decide +kernel) ⟨Nat.le_of_ble_eq_true rfl, Nat.le_of_ble_eq_true rfl⟩) (dk_at59 hW) rfl hK hT hW hS rfl hl.1 rfl (Nat.le_of_ble_eq_true rfl) dX5_put_45 ⟨Nat.zero_le _, Nat.zero_le _⟩ (fun I11 H11 L11 hp11 hW hS => ?_)
            obtain ⟨hF11, hO, hP, hc11⟩ := hp11
            have hF := dkF_call hF hF11 rfl
            obtain ⟨f11_59_2, -⟩ := hc11
            refine lv_aload_n hx hb dX5_put_48 rfl (lv_at hl 1 rfl) ?_
            refine dk_get (k := 0) hx hb hts iX5_put_5 hown hK (dk_at0 hW) rfl 5 (by decide) (hts (.fieldLink RX5 31 "DogKings" "now" "LDogKings$Town;") (List.mem_of_getElem? (i := 2) rfl)) rfl dX5_put_49 ?_
            refine dk_get (k := 25) hx hb hts iX5_put_4 hown hK (dk_at25 hW) rfl 14 (by decide) (hts (.fieldLink RX5 155 "DogKings$Town" "dogAt" "[I") (List.mem_of_getElem? (i := 3) rfl)) rfl dX5_put_52 ?_
            refine lv_iload_n hx hb dX5_put_55 rfl (lv_at hl 2 rfl) ?_
            refine lv_iload_n hx hb dX5_put_56 rfl (lv_at hl 3 rfl) ?_
            refine dk_ist (k := 34) hx hb hK hW (fun _ => rfl) (by decide) hS (dkN_in (n := 6) d3 rfl) dX5_put_57 (fun I12 H12 L12 eI12 hW hS => ?_)
            have hO := dkO_set hO eI12 (dkN_sub d7 rfl)
            have hF := dkF_set hF eI12 (dkIn_v d3 rfl)
            have hP := dkQQ_set hP eI12 (dkQQb_v d3 rfl)
            refine lv_iload_n hx hb dX5_put_58 rfl (lv_at hl 0 rfl) ?_
            exact W.iret (v := v9) hx hb hr (fun t ht hW9 => ⟨⟨v9, I12, rfl, ⟨hF, hO, hP, ⟨trivial, trivial⟩⟩, dkW_eq ht hW⟩, hS.F ht⟩) hS.2.2 dX5_put_59
          ·
            have d13 : dkN [(0, 8)] v9 := dkN_eq1 (dkN_top v9) d7 (congrArg Int32.toInt c10).symm rfl
            refine lv_ldc (v := (-1000002)) hx hb hown (hts (.constant RX5 129 (-1000002)) (List.mem_of_getElem? (i := 4) rfl)) dX5_put_34 ?_
            exact W.iret (v := (-1000002)) hx hb hr (fun t ht hW9 => ⟨⟨(-1000002), I5, rfl, ⟨hF, hO, hP, ⟨trivial, trivial⟩⟩, dkW_eq ht hW⟩, hS.F ht⟩) hS.2.2 dX5_put_36
        ·
          exact (dkN_nil (show dkN [] v5 from dkN_eq1 dv5 (dkN_lit (x := 0) (0) rfl) (congrArg Int32.toInt c8) rfl)).elim
