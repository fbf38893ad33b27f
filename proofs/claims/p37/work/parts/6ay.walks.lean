set_option maxHeartbeats 4000000 in
set_option maxRecDepth 100000 in
theorem fx_X5_suits_1 (l : Launch) (g : dkG) (z : Nat) (I0 : dkI) (p0 : Int32) (p1 : Int32) (p2 : Int32) (p3 : Int32) (p4 : Int32) (p5 : Int32)  (hO : dkOk I0) : Met l yX5_suits wsX5_suits (dkR 7) (dkPc g z [.ref (z + 0), .int p0, .int p1, .int p2, .int p3, .int p4, .int p5] I0) (dkQi g z (fun r I1 => dkF [(0, 0, 3, 3), (326, 326, 0, 4), (326, 326, 11, 11), (326, 326, 15, 17), (327, 327, 0, 4), (328, 328, 0, 4), (329, 329, 0, 4), (330, 330, 0, 4), (331, 331, 0, 4), (332, 332, 0, 4), (333, 333, 0, 5), (334, 334, 0, 5), (335, 335, 0, 5), (336, 336, 0, 8)] I0 I1 ∧ dkOk I1 ∧ ((dkN [(-1000001, -1000001)] r ∧ dkN [(-2147483648, -1)] p0 ∧ p0.toInt + 1 ≤ (0 : Int) ∧ r = (-1000001) ∧ I1 0 3 = I0 0 3 ∧ True) ∨ (dkN [(-1000001, -1000001)] r ∧ dkN [(0, 2147483647)] p0 ∧ (0 : Int) + 0 ≤ p0.toInt ∧ (I0 25 4).toInt + 0 ≤ p0.toInt ∧ r = (-1000001) ∧ I1 0 3 = I0 0 3 ∧ True) ∨ (dkN [(-1000001, -1000001)] r ∧ dkN [(0, 4)] p0 ∧ dkN [(-2147483648, -1)] p1 ∧ dkN [(1, 5)] (I1 25 4) ∧ (0 : Int) + 0 ≤ p0.toInt ∧ p0.toInt + 1 ≤ (I0 25 4).toInt ∧ p1.toInt + 1 ≤ (0 : Int) ∧ r = (-1000001) ∧ I1 0 3 = I0 0 3 ∧ True) ∨ (dkN [(-1000001, -1000001)] r ∧ dkN [(0, 4)] p0 ∧ dkN [(0, 2147483647)] p1 ∧ dkN [(1, 5)] (I1 25 4) ∧ (0 : Int) + 0 ≤ p0.toInt ∧ p0.toInt + 1 ≤ (I0 25 4).toInt ∧ (0 : Int) + 0 ≤ p1.toInt ∧ (I0 25 11).toInt + 0 ≤ p1.toInt ∧ r = (-1000001) ∧ I1 0 3 = I0 0 3 ∧ True) ∨ (dkN [(-1000001, -1000001)] r ∧ dkN [(0, 4)] p0 ∧ dkN [(0, 5)] p1 ∧ dkN [(-2147483648, -1)] p2 ∧ dkN [(1, 6)] (I1 25 11) ∧ dkN [(1, 5)] (I1 25 4) ∧ (0 : Int) + 0 ≤ p0.toInt ∧ p0.toInt + 1 ≤ (I0 25 4).toInt ∧ (0 : Int) + 0 ≤ p1.toInt ∧ p1.toInt + 1 ≤ (I0 25 11).toInt ∧ p2.toInt + 1 ≤ (0 : Int) ∧ r = (-1000001) ∧ I1 0 3 = I0 0 3 ∧ True) ∨ (dkN [(-1000001, -1000001)] r ∧ dkN [(0, 4)] p0 ∧ dkN [(0, 5)] p1 ∧ dkN [(8, 2147483647)] p2 ∧ dkN [(1, 6)] (I1 25 11) ∧ dkN [(1, 5)] (I1 25 4) ∧ (0 : Int) + 0 ≤ p0.toInt ∧ p0.toInt + 1 ≤ (I0 25 4).toInt ∧ (0 : Int) + 0 ≤ p1.toInt ∧ p1.toInt + 1 ≤ (I0 25 11).toInt ∧ (0 : Int) + 0 ≤ p2.toInt ∧ (7 : Int) + 1 ≤ p2.toInt ∧ r = (-1000001) ∧ I1 0 3 = I0 0 3 ∧ True) ∨ (dkN [(-1000001, -1000001)] r ∧ dkN [(0, 4)] p0 ∧ dkN [(0, 5)] p1 ∧ dkN [(0, 7)] p2 ∧ dkN [(-2147483648, 0)] p4 ∧ dkN [(1, 6)] (I1 25 11) ∧ dkN [(1, 5)] (I1 25 4) ∧ (0 : Int) + 0 ≤ p0.toInt ∧ p0.toInt + 1 ≤ (I0 25 4).toInt ∧ (0 : Int) + 0 ≤ p1.toInt ∧ p1.toInt + 1 ≤ (I0 25 11).toInt ∧ (0 : Int) + 0 ≤ p2.toInt ∧ p2.toInt + 0 ≤ (7 : Int) ∧ p4.toInt + 1 ≤ (1 : Int) ∧ r = (-1000001) ∧ I1 0 3 = I0 0 3 ∧ True) ∨ (dkN [(-1000001, -1000001)] r ∧ dkN [(0, 4)] p0 ∧ dkN [(0, 5)] p1 ∧ dkN [(0, 7)] p2 ∧ dkN [(13, 2147483647)] p4 ∧ dkN [(1, 6)] (I1 25 11) ∧ dkN [(1, 5)] (I1 25 4) ∧ (0 : Int) + 0 ≤ p0.toInt ∧ p0.toInt + 1 ≤ (I0 25 4).toInt ∧ (0 : Int) + 0 ≤ p1.toInt ∧ p1.toInt + 1 ≤ (I0 25 11).toInt ∧ (0 : Int) + 0 ≤ p2.toInt ∧ p2.toInt + 0 ≤ (7 : Int) ∧ (1 : Int) + 0 ≤ p4.toInt ∧ (12 : Int) + 1 ≤ p4.toInt ∧ r = (-1000001) ∧ I1 0 3 = I0 0 3 ∧ True) ∨ (dkN [(-1000001, -1000001)] r ∧ dkN [(0, 4)] p0 ∧ dkN [(0, 5)] p1 ∧ dkN [(0, 7)] p2 ∧ dkN [(1, 12)] p4 ∧ dkN [(-2147483648, -1)] p5 ∧ dkN [(1, 6)] (I1 25 11) ∧ dkN [(1, 5)] (I1 25 4) ∧ (0 : Int) + 0 ≤ p0.toInt ∧ p0.toInt + 1 ≤ (I0 25 4).toInt ∧ (0 : Int) + 0 ≤ p1.toInt ∧ p1.toInt + 1 ≤ (I0 25 11).toInt ∧ (0 : Int) + 0 ≤ p2.toInt ∧ p2.toInt + 0 ≤ (7 : Int) ∧ (1 : Int) + 0 ≤ p4.toInt ∧ p4.toInt + 0 ≤ (12 : Int) ∧ p5.toInt + 1 ≤ (0 : Int) ∧ r = (-1000001) ∧ I1 0 3 = I0 0 3 ∧ True) ∨ (dkN [(-1000001, -1000001)] r ∧ dkN [(0, 4)] p0 ∧ dkN [(0, 5)] p1 ∧ dkN [(0, 7)] p2 ∧ dkN [(1, 12)] p4 ∧ dkN [(2, 2147483647)] p5 ∧ dkN [(1, 6)] (I1 25 11) ∧ dkN [(1, 5)] (I1 25 4) ∧ (0 : Int) + 0 ≤ p0.toInt ∧ p0.toInt + 1 ≤ (I0 25 4).toInt ∧ (0 : Int) + 0 ≤ p1.toInt ∧ p1.toInt + 1 ≤ (I0 25 11).toInt ∧ (0 : Int) + 0 ≤ p2.toInt ∧ p2.toInt + 0 ≤ (7 : Int) ∧ (1 : Int) + 0 ≤ p4.toInt ∧ p4.toInt + 0 ≤ (12 : Int) ∧ (0 : Int) + 0 ≤ p5.toInt ∧ (1 : Int) + 1 ≤ p5.toInt ∧ r = (-1000001) ∧ I1 0 3 = I0 0 3 ∧ True) ∨ (dkN [(-1000012, -1000012)] r ∧ dkN [(0, 4)] p0 ∧ dkN [(0, 5)] p1 ∧ dkN [(0, 7)] p2 ∧ dkN [(-2147483648, -1)] p3 ∧ dkN [(1, 12)] p4 ∧ dkN [(0, 1)] p5 ∧ dkN [(2, 2)] (I1 0 3) ∧ dkN [(1, 6)] (I1 25 11) ∧ dkN [(1, 5)] (I1 25 4) ∧ (0 : Int) + 0 ≤ p0.toInt ∧ p0.toInt + 1 ≤ (I0 25 4).toInt ∧ (0 : Int) + 0 ≤ p1.toInt ∧ p1.toInt + 1 ≤ (I0 25 11).toInt ∧ (0 : Int) + 0 ≤ p2.toInt ∧ p2.toInt + 0 ≤ (7 : Int) ∧ (1 : Int) + 0 ≤ p4.toInt ∧ p4.toInt + 0 ≤ (12 : Int) ∧ (0 : Int) + 0 ≤ p5.toInt ∧ p5.toInt + 0 ≤ (1 : Int) ∧ (I0 11 (Int32.toNatClampNeg p2)).toInt ≠ (-1 : Int) ∧ p3.toInt + 1 ≤ (0 : Int) ∧ ((-1000010 : Int32) - (2 : Int32)).toInt = (-1000010 : Int) - (2 : Int) ∧ r = (-1000010 : Int32) - (2 : Int32) ∧ I1 0 3 = 2 ∧ True) ∨ (dkN [(-1000012, -1000012)] r ∧ dkN [(0, 4)] p0 ∧ dkN [(0, 5)] p1 ∧ dkN [(0, 7)] p2 ∧ dkN [(0, 2147483647)] p3 ∧ dkN [(1, 12)] p4 ∧ dkN [(0, 1)] p5 ∧ dkN [(2, 2)] (I1 0 3) ∧ dkN [(1, 6)] (I1 25 11) ∧ dkN [(1, 5)] (I1 25 4) ∧ (0 : Int) + 0 ≤ p0.toInt ∧ p0.toInt + 1 ≤ (I0 25 4).toInt ∧ (0 : Int) + 0 ≤ p1.toInt ∧ p1.toInt + 1 ≤ (I0 25 11).toInt ∧ (0 : Int) + 0 ≤ p2.toInt ∧ p2.toInt + 0 ≤ (7 : Int) ∧ (1 : Int) + 0 ≤ p4.toInt ∧ p4.toInt + 0 ≤ (12 : Int) ∧ (0 : Int) + 0 ≤ p5.toInt ∧ p5.toInt + 0 ≤ (1 : Int) ∧ (I0 11 (Int32.toNatClampNeg p2)).toInt ≠ (-1 : Int) ∧ (0 : Int) + 0 ≤ p3.toInt ∧ (0 : Int) + 0 ≤ p4.toInt ∧ ((I0 11 (Int32.toNatClampNeg p2)) - p4).toInt = (I0 11 (Int32.toNatClampNeg p2)).toInt - p4.toInt ∧ ((I0 11 (Int32.toNatClampNeg p2)) - p4).toInt + 1 ≤ p3.toInt ∧ ((-1000010 : Int32) - (2 : Int32)).toInt = (-1000010 : Int) - (2 : Int) ∧ r = (-1000010 : Int32) - (2 : Int32) ∧ I1 0 3 = 2 ∧ True) ∨ (True ∧ dkN [(0, 4)] p0 ∧ dkN [(0, 5)] p1 ∧ dkN [(0, 7)] p2 ∧ dkN [(0, 39)] p3 ∧ dkN [(1, 12)] p4 ∧ dkN [(1, 1)] p5 ∧ dkN [(0, 0)] (I1 0 3) ∧ dkN [(1, 6)] (I1 25 11) ∧ dkN [(1, 5)] (I1 25 4) ∧ (0 : Int) + 0 ≤ p0.toInt ∧ p0.toInt + 1 ≤ (I0 25 4).toInt ∧ (0 : Int) + 0 ≤ p1.toInt ∧ p1.toInt + 1 ≤ (I0 25 11).toInt ∧ (0 : Int) + 0 ≤ p2.toInt ∧ p2.toInt + 0 ≤ (7 : Int) ∧ (1 : Int) + 0 ≤ p4.toInt ∧ p4.toInt + 0 ≤ (12 : Int) ∧ (0 : Int) + 0 ≤ p5.toInt ∧ p5.toInt + 0 ≤ (1 : Int) ∧ (I0 11 (Int32.toNatClampNeg p2)).toInt ≠ (-1 : Int) ∧ (0 : Int) + 0 ≤ p3.toInt ∧ (0 : Int) + 0 ≤ p4.toInt ∧ ((I0 11 (Int32.toNatClampNeg p2)) - p4).toInt = (I0 11 (Int32.toNatClampNeg p2)).toInt - p4.toInt ∧ p3.toInt + 0 ≤ ((I0 11 (Int32.toNatClampNeg p2)) - p4).toInt ∧ p5.toInt ≠ (0 : Int) ∧ I1 0 3 = 0 ∧ True) ∨ (True ∧ dkN [(0, 4)] p0 ∧ dkN [(0, 5)] p1 ∧ dkN [(0, 7)] p2 ∧ dkN [(0, 39)] p3 ∧ dkN [(1, 12)] p4 ∧ dkN [(0, 0)] p5 ∧ dkN [(0, 0)] (I1 0 3) ∧ dkN [(1, 6)] (I1 25 11) ∧ dkN [(1, 5)] (I1 25 4) ∧ (0 : Int) + 0 ≤ p0.toInt ∧ p0.toInt + 1 ≤ (I0 25 4).toInt ∧ (0 : Int) + 0 ≤ p1.toInt ∧ p1.toInt + 1 ≤ (I0 25 11).toInt ∧ (0 : Int) + 0 ≤ p2.toInt ∧ p2.toInt + 0 ≤ (7 : Int) ∧ (1 : Int) + 0 ≤ p4.toInt ∧ p4.toInt + 0 ≤ (12 : Int) ∧ (0 : Int) + 0 ≤ p5.toInt ∧ p5.toInt + 0 ≤ (1 : Int) ∧ (I0 11 (Int32.toNatClampNeg p2)).toInt ≠ (-1 : Int) ∧ (0 : Int) + 0 ≤ p3.toInt ∧ (0 : Int) + 0 ≤ p4.toInt ∧ ((I0 11 (Int32.toNatClampNeg p2)) - p4).toInt = (I0 11 (Int32.toNatClampNeg p2)).toInt - p4.toInt ∧ p3.toInt + 0 ≤ ((I0 11 (Int32.toNatClampNeg p2)) - p4).toInt ∧ p5.toInt = (0 : Int) ∧ I1 0 3 = 0 ∧ True) ∨ (dkN [(-1000011, -1000011)] r ∧ dkN [(0, 4)] p0 ∧ dkN [(0, 5)] p1 ∧ dkN [(0, 7)] p2 ∧ dkN [(1, 12)] p4 ∧ dkN [(0, 1)] p5 ∧ dkN [(1, 1)] (I1 0 3) ∧ dkN [(1, 6)] (I1 25 11) ∧ dkN [(1, 5)] (I1 25 4) ∧ (0 : Int) + 0 ≤ p0.toInt ∧ p0.toInt + 1 ≤ (I0 25 4).toInt ∧ (0 : Int) + 0 ≤ p1.toInt ∧ p1.toInt + 1 ≤ (I0 25 11).toInt ∧ (0 : Int) + 0 ≤ p2.toInt ∧ p2.toInt + 0 ≤ (7 : Int) ∧ (1 : Int) + 0 ≤ p4.toInt ∧ p4.toInt + 0 ≤ (12 : Int) ∧ (0 : Int) + 0 ≤ p5.toInt ∧ p5.toInt + 0 ≤ (1 : Int) ∧ (I0 11 (Int32.toNatClampNeg p2)).toInt = (-1 : Int) ∧ ((-1000010 : Int32) - (1 : Int32)).toInt = (-1000010 : Int) - (1 : Int) ∧ r = (-1000010 : Int32) - (1 : Int32) ∧ I1 0 3 = 1 ∧ True)))) 0 0 (dkA z) := by
  refine Met.ofW (cc := cX5_suits) (maxL := 8) (ret := (some .int)) (by decide) rfl ?_
  intro p e s m args below meth c s₁ B hml hv
  obtain ⟨ha, hW, hK, hT⟩ := hv
  have hx := B.exec
  have hb := B.bytes
  have hr := B.returns
  have hts := atoms_spec (ws := wsX5_suits) B.pre
  have hown : s.vm.findClass RX5 = some m.cls := findClass_of_methodNamed B.named
  have hlocks := B.notSynchronized
  have hS : va_S (dkA z) s.heap s.heap [] := va_S.rf
  have hF : dkF [(0, 0, 3, 3), (326, 326, 0, 4), (326, 326, 11, 11), (326, 326, 15, 17), (327, 327, 0, 4), (328, 328, 0, 4), (329, 329, 0, 4), (330, 330, 0, 4), (331, 331, 0, 4), (332, 332, 0, 4), (333, 333, 0, 5), (334, 334, 0, 5), (335, 335, 0, 5), (336, 336, 0, 8)] I0 I0 := dkF_rf _ _
  have hl := lv_entry ([.ref (z + 0), .int p0, .int p1, .int p2, .int p3, .int p4, .int p5]) (n := 8) (Nat.le_of_ble_eq_true rfl)
  have hgo : entryFrame m args 8 = entryFrame m ([.ref (z + 0), .int p0, .int p1, .int p2, .int p3, .int p4, .int p5] : List Value).toArray 8 := by rw [ha]
  rw [hgo, lg_entry_eq]
  generalize (lg_sl ([.ref (z + 0), .int p0, .int p1, .int p2, .int p3, .int p4, .int p5]) ++ List.replicate (8 - (lg_sl ([.ref (z + 0), .int p0, .int p1, .int p2, .int p3, .int p4, .int p5])).length) Slot.unset).toArray = ls at hl ⊢
  have hl : lv_has ls 8 [(0, .ref (z + 0)), (1, .int p0), (2, .int p1), (3, .int p2), (4, .int p3), (5, .int p4), (6, .int p5)] := hl
  refine lv_aload_n hx hb dX5_suits_0 rfl (lv_at hl 0 rfl) ?_
  refine lv_iload_n hx hb dX5_suits_1 rfl (lv_at hl 1 rfl) ?_
  refine dk_Vi (As := [.int p0]) (rest := []) ⟨hx, hb, hml, hown, hts⟩ (fx_X5_isPerson_1 l g z I0 p0 hO) (cwV 1 hts gX5_suits_X5_isPerson rfl rfl rfl (by decide +kernel) ⟨Nat.le_of_ble_eq_true rfl, Nat.le_of_ble_eq_true rfl⟩) (dk_at0 hW) rfl hK hT hW hS rfl hl.1 rfl (Nat.le_of_ble_eq_true rfl) dX5_suits_2 ⟨Nat.zero_le _, Nat.zero_le _⟩ (fun v1 I1 H1 L1 hp1 hW hS => ?_)
  obtain ⟨hF1, hO, hc1⟩ := hp1
  have hF := dkF_call hF hF1 rfl
  have eI1 : I0 = I1 := (dkF_nil hF1).symm
  subst eI1
  rcases hc1 with ⟨dv1, a1_0, x1_0, xr1, -⟩ | hc1
  ·
    have q2 : p0.toInt + 1 ≤ (0 : Int) := x1_0
    have xv1 : v1 = 0 := by have h := xr1; exact h
    have d3 : dkN [(-2147483648, -1)] p0 := dkN_eq1 (dkN_top p0) a1_0 rfl rfl
    refine lv_if_eq (tgt := 45) hx hb dX5_suits_5 (by decide) (fun c4 => ?_) (fun c4 => ?_)
    ·
      refine lv_ldc (v := (-1000001)) hx hb hown (hts (.constant RX5 70 (-1000001)) (List.mem_of_getElem? (i := 1) rfl)) dX5_suits_45 ?_
      exact W.iret (v := (-1000001)) hx hb hr (fun t ht hW9 => ⟨⟨(-1000001), I0, rfl, ⟨hF, hO, Or.inl ⟨dkN_sub (dkN_lit (x := (-1000001)) (-1000001) rfl) rfl, dkN_sub d3 rfl, q2, rfl, rfl, trivial⟩⟩, dkW_eq ht hW⟩, hS.F ht⟩) hS.2.2 dX5_suits_47
    ·
      exact absurd ((xv1).trans (rfl).symm) c4
  rcases hc1 with ⟨dv1, a1_0, x1_0, x1_1, xr1, -⟩ | hc1
  ·
    have q5 : (0 : Int) + 0 ≤ p0.toInt := x1_0
    have q6 : (I0 25 4).toInt + 0 ≤ p0.toInt := x1_1
    have xv1 : v1 = 0 := by have h := xr1; exact h
    have d7 : dkN [(0, 2147483647)] p0 := dkN_eq1 (dkN_top p0) a1_0 rfl rfl
    refine lv_if_eq (tgt := 45) hx hb dX5_suits_5 (by decide) (fun c8 => ?_) (fun c8 => ?_)
    ·
      refine lv_ldc (v := (-1000001)) hx hb hown (hts (.constant RX5 70 (-1000001)) (List.mem_of_getElem? (i := 1) rfl)) dX5_suits_45 ?_
      exact W.iret (v := (-1000001)) hx hb hr (fun t ht hW9 => ⟨⟨(-1000001), I0, rfl, ⟨hF, hO, Or.inr (Or.inl ⟨dkN_sub (dkN_lit (x := (-1000001)) (-1000001) rfl) rfl, dkN_sub d7 rfl, q5, q6, rfl, rfl, trivial⟩)⟩, dkW_eq ht hW⟩, hS.F ht⟩) hS.2.2 dX5_suits_47
    ·
      exact absurd ((xv1).trans (rfl).symm) c8
  ·
    obtain ⟨dv1, a1_0, f1_25_4, x1_0, x1_1, xr1, -⟩ := hc1
    have q9 : (0 : Int) + 0 ≤ p0.toInt := x1_0
    have q10 : p0.toInt + 1 ≤ (I0 25 4).toInt := x1_1
    have xv1 : v1 = 1 := by have h := xr1; exact h
    have d11 : dkN [(0, 4)] p0 := dkN_eq1 (dkN_top p0) a1_0 rfl rfl
    refine lv_if_eq (tgt := 45) hx hb dX5_suits_5 (by decide) (fun c12 => ?_) (fun c12 => ?_)
    ·
      exact (dkN_nil (show dkN [] v1 from dkN_eq1 dv1 (dkN_lit (x := 0) (0) rfl) (congrArg Int32.toInt c12) rfl)).elim
    ·
      refine lv_aload_n hx hb dX5_suits_8 rfl (lv_at hl 0 rfl) ?_
      refine lv_iload_n hx hb dX5_suits_9 rfl (lv_at hl 2 rfl) ?_
      refine dk_Vi (As := [.int p1]) (rest := []) ⟨hx, hb, hml, hown, hts⟩ (fx_X5_isDog_1 l g z I0 p1 hO) (cwV 1 hts gX5_suits_X5_isDog rfl rfl rfl (by decide +kernel) ⟨Nat.le_of_ble_eq_true rfl, Nat.le_of_ble_eq_true rfl⟩) (dk_at0 hW) rfl hK hT hW hS rfl hl.1 rfl (Nat.le_of_ble_eq_true rfl) dX5_suits_10 ⟨Nat.zero_le _, Nat.zero_le _⟩ (fun v13 I13 H13 L13 hp13 hW hS => ?_)
      obtain ⟨hF13, hO, hc13⟩ := hp13
      have hF := dkF_call hF hF13 rfl
      have eI13 : I0 = I13 := (dkF_nil hF13).symm
      subst eI13
      rcases hc13 with ⟨dv13, a13_0, x13_0, xr13, -⟩ | hc13
      ·
        have q14 : p1.toInt + 1 ≤ (0 : Int) := x13_0
        have xv13 : v13 = 0 := by have h := xr13; exact h
        have d15 : dkN [(-2147483648, -1)] p1 := dkN_eq1 (dkN_top p1) a13_0 rfl rfl
        refine lv_if_eq (tgt := 45) hx hb dX5_suits_13 (by decide) (fun c16 => ?_) (fun c16 => ?_)
        ·
          refine lv_ldc (v := (-1000001)) hx hb hown (hts (.constant RX5 70 (-1000001)) (List.mem_of_getElem? (i := 1) rfl)) dX5_suits_45 ?_
          exact W.iret (v := (-1000001)) hx hb hr (fun t ht hW9 => ⟨⟨(-1000001), I0, rfl, ⟨hF, hO, Or.inr (Or.inr (Or.inl ⟨dkN_sub (dkN_lit (x := (-1000001)) (-1000001) rfl) rfl, dkN_sub d11 rfl, dkN_sub d15 rfl, (show dkN [(1, 5)] (I0 25 4) from dkN_sub (by rw [hF13 25 4 rfl]; exact f1_25_4) rfl), q9, q10, q14, rfl, rfl, trivial⟩))⟩, dkW_eq ht hW⟩, hS.F ht⟩) hS.2.2 dX5_suits_47
        ·
          exact absurd ((xv13).trans (rfl).symm) c16
      rcases hc13 with ⟨dv13, a13_0, x13_0, x13_1, xr13, -⟩ | hc13
      ·
        have q17 : (0 : Int) + 0 ≤ p1.toInt := x13_0
        have q18 : (I0 25 11).toInt + 0 ≤ p1.toInt := x13_1
        have xv13 : v13 = 0 := by have h := xr13; exact h
        have d19 : dkN [(0, 2147483647)] p1 := dkN_eq1 (dkN_top p1) a13_0 rfl rfl
        refine lv_if_eq (tgt := 45) hx hb dX5_suits_13 (by decide) (fun c20 => ?_) (fun c20 => ?_)
        ·
          refine lv_ldc (v := (-1000001)) hx hb hown (hts (.constant RX5 70 (-1000001)) (List.mem_of_getElem? (i := 1) rfl)) dX5_suits_45 ?_
          exact W.iret (v := (-1000001)) hx hb hr (fun t ht hW9 => ⟨⟨(-1000001), I0, rfl, ⟨hF, hO, Or.inr (Or.inr (Or.inr (Or.inl ⟨dkN_sub (dkN_lit (x := (-1000001)) (-1000001) rfl) rfl, dkN_sub d11 rfl, dkN_sub d19 rfl, (show dkN [(1, 5)] (I0 25 4) from dkN_sub (by rw [hF13 25 4 rfl]; exact f1_25_4) rfl), q9, q10, q17, q18, rfl, rfl, trivial⟩)))⟩, dkW_eq ht hW⟩, hS.F ht⟩) hS.2.2 dX5_suits_47
        ·
          exact absurd ((xv13).trans (rfl).symm) c20
      ·
        obtain ⟨dv13, a13_0, f13_25_11, x13_0, x13_1, xr13, -⟩ := hc13
        have q21 : (0 : Int) + 0 ≤ p1.toInt := x13_0
        have q22 : p1.toInt + 1 ≤ (I0 25 11).toInt := x13_1
        have xv13 : v13 = 1 := by have h := xr13; exact h
        have d23 : dkN [(0, 5)] p1 := dkN_eq1 (dkN_top p1) a13_0 rfl rfl
        refine lv_if_eq (tgt := 45) hx hb dX5_suits_13 (by decide) (fun c24 => ?_) (fun c24 => ?_)
        ·
          exact (dkN_nil (show dkN [] v13 from dkN_eq1 dv13 (dkN_lit (x := 0) (0) rfl) (congrArg Int32.toInt c24) rfl)).elim
        ·
          refine lv_iload_n hx hb dX5_suits_16 rfl (lv_at hl 3 rfl) ?_
          refine dk_Si (As := [.int p2]) (rest := []) ⟨hx, hb, hml, hown, hts⟩ (fx_X5_isRow_1 l g z I0 p2 hO) (va_cwS 1 hts gX5_suits_X5_isRow rfl rfl rfl (by decide +kernel) ⟨Nat.le_of_ble_eq_true rfl, Nat.le_of_ble_eq_true rfl⟩) hK hT hW hS rfl hl.1 rfl (Nat.le_of_ble_eq_true rfl) dX5_suits_17 ⟨Nat.zero_le _, Nat.zero_le _⟩ (fun v25 I25 H25 L25 hp25 hW hS => ?_)
          obtain ⟨hF25, hO, hc25⟩ := hp25
          have hF := dkF_call hF hF25 rfl
          have eI25 : I0 = I25 := (dkF_nil hF25).symm
          subst eI25
          rcases hc25 with ⟨dv25, a25_0, x25_0, xr25, -⟩ | hc25
          ·
            have q26 : p2.toInt + 1 ≤ (0 : Int) := x25_0
            have xv25 : v25 = 0 := by have h := xr25; exact h
            have d27 : dkN [(-2147483648, -1)] p2 := dkN_eq1 (dkN_top p2) a25_0 rfl rfl
            refine lv_if_eq (tgt := 45) hx hb dX5_suits_20 (by decide) (fun c28 => ?_) (fun c28 => ?_)
            ·
              refine lv_ldc (v := (-1000001)) hx hb hown (hts (.constant RX5 70 (-1000001)) (List.mem_of_getElem? (i := 1) rfl)) dX5_suits_45 ?_
              exact W.iret (v := (-1000001)) hx hb hr (fun t ht hW9 => ⟨⟨(-1000001), I0, rfl, ⟨hF, hO, Or.inr (Or.inr (Or.inr (Or.inr (Or.inl ⟨dkN_sub (dkN_lit (x := (-1000001)) (-1000001) rfl) rfl, dkN_sub d11 rfl, dkN_sub d23 rfl, dkN_sub d27 rfl, (show dkN [(1, 6)] (I0 25 11) from dkN_sub (by rw [hF25 25 11 rfl]; exact f13_25_11) rfl), (show dkN [(1, 5)] (I0 25 4) from dkN_sub (by rw [hF25 25 4 rfl]; exact (by rw [hF13 25 4 rfl]; exact f1_25_4)) rfl), q9, q10, q21, q22, q26, rfl, rfl, trivial⟩))))⟩, dkW_eq ht hW⟩, hS.F ht⟩) hS.2.2 dX5_suits_47
            ·
              exact absurd ((xv25).trans (rfl).symm) c28
          rcases hc25 with ⟨dv25, a25_0, x25_0, x25_1, xr25, -⟩ | hc25
          ·
            have q29 : (0 : Int) + 0 ≤ p2.toInt := x25_0
            have q30 : (7 : Int) + 1 ≤ p2.toInt := x25_1
            have xv25 : v25 = 0 := by have h := xr25; exact h
            have d31 : dkN [(8, 2147483647)] p2 := dkN_eq1 (dkN_top p2) a25_0 rfl rfl
            refine lv_if_eq (tgt := 45) hx hb dX5_suits_20 (by decide) (fun c32 => ?_) (fun c32 => ?_)
            ·
              refine lv_ldc (v := (-1000001)) hx hb hown (hts (.constant RX5 70 (-1000001)) (List.mem_of_getElem? (i := 1) rfl)) dX5_suits_45 ?_
              exact W.iret (v := (-1000001)) hx hb hr (fun t ht hW9 => ⟨⟨(-1000001), I0, rfl, ⟨hF, hO, Or.inr (Or.inr (Or.inr (Or.inr (Or.inr (Or.inl ⟨dkN_sub (dkN_lit (x := (-1000001)) (-1000001) rfl) rfl, dkN_sub d11 rfl, dkN_sub d23 rfl, dkN_sub d31 rfl, (show dkN [(1, 6)] (I0 25 11) from dkN_sub (by rw [hF25 25 11 rfl]; exact f13_25_11) rfl), (show dkN [(1, 5)] (I0 25 4) from dkN_sub (by rw [hF25 25 4 rfl]; exact (by rw [hF13 25 4 rfl]; exact f1_25_4)) rfl), q9, q10, q21, q22, q29, q30, rfl, rfl, trivial⟩)))))⟩, dkW_eq ht hW⟩, hS.F ht⟩) hS.2.2 dX5_suits_47
            ·
              exact absurd ((xv25).trans (rfl).symm) c32
          ·
            obtain ⟨dv25, a25_0, x25_0, x25_1, xr25, -⟩ := hc25
            have q33 : (0 : Int) + 0 ≤ p2.toInt := x25_0
            have q34 : p2.toInt + 0 ≤ (7 : Int) := x25_1
            have xv25 : v25 = 1 := by have h := xr25; exact h
            have d35 : dkN [(0, 7)] p2 := dkN_eq1 (dkN_top p2) a25_0 rfl rfl
            refine lv_if_eq (tgt := 45) hx hb dX5_suits_20 (by decide) (fun c36 => ?_) (fun c36 => ?_)
            ·
              exact (dkN_nil (show dkN [] v25 from dkN_eq1 dv25 (dkN_lit (x := 0) (0) rfl) (congrArg Int32.toInt c36) rfl)).elim
            ·
              refine lv_iload hx hb dX5_suits_23 (lv_at hl 5 rfl) ?_
              refine lv_iconst (v := 1) hx hb dX5_suits_25 (by decide) ?_
              refine lv_icmp_lt (tgt := 45) hx hb dX5_suits_26 (by decide) (fun c37 => ?_) (fun c37 => ?_)
              ·
                have q38 : p4.toInt + 1 ≤ (1 : Int) := (dkc_lt c37)
                have d39 : dkN [(-2147483648, 0)] p4 := dkN_le1 1 (dkN_top p4) (dkN_lit (x := 1) (1) rfl) (dkc_lt c37) rfl
                refine lv_ldc (v := (-1000001)) hx hb hown (hts (.constant RX5 70 (-1000001)) (List.mem_of_getElem? (i := 1) rfl)) dX5_suits_45 ?_
                exact W.iret (v := (-1000001)) hx hb hr (fun t ht hW9 => ⟨⟨(-1000001), I0, rfl, ⟨hF, hO, Or.inr (Or.inr (Or.inr (Or.inr (Or.inr (Or.inr (Or.inl ⟨dkN_sub (dkN_lit (x := (-1000001)) (-1000001) rfl) rfl, dkN_sub d11 rfl, dkN_sub d23 rfl, dkN_sub d35 rfl, dkN_sub d39 rfl, (show dkN [(1, 6)] (I0 25 11) from dkN_sub (by rw [hF25 25 11 rfl]; exact f13_25_11) rfl), (show dkN [(1, 5)] (I0 25 4) from dkN_sub (by rw [hF25 25 4 rfl]; exact (by rw [hF13 25 4 rfl]; exact f1_25_4)) rfl), q9, q10, q21, q22, q33, q34, q38, rfl, rfl, trivial⟩))))))⟩, dkW_eq ht hW⟩, hS.F ht⟩) hS.2.2 dX5_suits_47
              ·
                have q40 : (1 : Int) + 0 ≤ p4.toInt := (dkc_nlt c37)
                have d41 : dkN [(1, 2147483647)] p4 := dkN_le2 0 (dkN_lit (x := 1) (1) rfl) (dkN_top p4) (dkc_nlt c37) rfl
                refine lv_iload hx hb dX5_suits_29 (lv_at hl 5 rfl) ?_
                refine lv_bipush (v := 12) hx hb dX5_suits_31 (by decide) ?_
                refine lv_icmp_gt (tgt := 45) hx hb dX5_suits_33 (by decide) (fun c42 => ?_) (fun c42 => ?_)
                ·
                  have q43 : (12 : Int) + 1 ≤ p4.toInt := (dkc_lt c42)
                  have d44 : dkN [(13, 2147483647)] p4 := dkN_le2 1 (dkN_lit (x := 12) (12) rfl) d41 (dkc_lt c42) rfl
                  refine lv_ldc (v := (-1000001)) hx hb hown (hts (.constant RX5 70 (-1000001)) (List.mem_of_getElem? (i := 1) rfl)) dX5_suits_45 ?_
                  exact W.iret (v := (-1000001)) hx hb hr (fun t ht hW9 => ⟨⟨(-1000001), I0, rfl, ⟨hF, hO, Or.inr (Or.inr (Or.inr (Or.inr (Or.inr (Or.inr (Or.inr (Or.inl ⟨dkN_sub (dkN_lit (x := (-1000001)) (-1000001) rfl) rfl, dkN_sub d11 rfl, dkN_sub d23 rfl, dkN_sub d35 rfl, dkN_sub d44 rfl, (show dkN [(1, 6)] (I0 25 11) from dkN_sub (by rw [hF25 25 11 rfl]; exact f13_25_11) rfl), (show dkN [(1, 5)] (I0 25 4) from dkN_sub (by rw [hF25 25 4 rfl]; exact (by rw [hF13 25 4 rfl]; exact f1_25_4)) rfl), q9, q10, q21, q22, q33, q34, q40, q43, rfl, rfl, trivial⟩)))))))⟩, dkW_eq ht hW⟩, hS.F ht⟩) hS.2.2 dX5_suits_47
                ·
                  have q45 : p4.toInt + 0 ≤ (12 : Int) := (dkc_nlt c42)
                  have d46 : dkN [(1, 12)] p4 := dkN_le1 0 d41 (dkN_lit (x := 12) (12) rfl) (dkc_nlt c42) rfl
                  refine lv_iload hx hb dX5_suits_36 (lv_at hl 6 rfl) ?_
                  refine lv_iconst (v := 1) hx hb dX5_suits_38 (by decide) ?_
                  refine dk_Si (As := [.int p5, .int 1]) (rest := []) ⟨hx, hb, hml, hown, hts⟩ (fx_X5_isUpTo_15 l g z I0 p5 1 (dkN_lit (x := 1) (1) rfl) hO) (va_cwS 2 hts gX5_suits_X5_isUpTo rfl rfl rfl (by decide +kernel) ⟨Nat.le_of_ble_eq_true rfl, Nat.le_of_ble_eq_true rfl⟩) hK hT hW hS rfl hl.1 rfl (Nat.le_of_ble_eq_true rfl) dX5_suits_39 ⟨Nat.zero_le _, Nat.zero_le _⟩ (fun v47 I47 H47 L47 hp47 hW hS => ?_)
                  obtain ⟨hF47, hO, hc47⟩ := hp47
                  have hF := dkF_call hF hF47 rfl
                  have eI47 : I0 = I47 := (dkF_nil hF47).symm
                  subst eI47
                  rcases hc47 with ⟨dv47, a47_0, x47_0, xr47, -⟩ | hc47
                  ·
                    have q48 : p5.toInt + 1 ≤ (0 : Int) := x47_0
                    have xv47 : v47 = 0 := by have h := xr47; exact h
                    have d49 : dkN [(-2147483648, -1)] p5 := dkN_eq1 (dkN_top p5) a47_0 rfl rfl
                    refine lv_if_ne (tgt := 48) hx hb dX5_suits_42 (by decide) (fun c50 => ?_) (fun c50 => ?_)
                    ·
                      exact absurd ((xv47).trans (rfl).symm) c50
                    ·
                      refine lv_ldc (v := (-1000001)) hx hb hown (hts (.constant RX5 70 (-1000001)) (List.mem_of_getElem? (i := 1) rfl)) dX5_suits_45 ?_
                      exact W.iret (v := (-1000001)) hx hb hr (fun t ht hW9 => ⟨⟨(-1000001), I0, rfl, ⟨hF, hO, Or.inr (Or.inr (Or.inr (Or.inr (Or.inr (Or.inr (Or.inr (Or.inr (Or.inl ⟨dkN_sub (dkN_lit (x := (-1000001)) (-1000001) rfl) rfl, dkN_sub d11 rfl, dkN_sub d23 rfl, dkN_sub d35 rfl, dkN_sub d46 rfl, dkN_sub d49 rfl, (show dkN [(1, 6)] (I0 25 11) from dkN_sub (by rw [hF47 25 11 rfl]; exact (by rw [hF25 25 11 rfl]; exact f13_25_11)) rfl), (show dkN [(1, 5)] (I0 25 4) from dkN_sub (by rw [hF47 25 4 rfl]; exact (by rw [hF25 25 4 rfl]; exact (by rw [hF13 25 4 rfl]; exact f1_25_4))) rfl), q9, q10, q21, q22, q33, q34, q40, q45, q48, rfl, rfl, trivial⟩))))))))⟩, dkW_eq ht hW⟩, hS.F ht⟩) hS.2.2 dX5_suits_47
                  rcases hc47 with ⟨dv47, a47_0, x47_0, x47_1, xr47, -⟩ | hc47
                  ·
                    have q51 : (0 : Int) + 0 ≤ p5.toInt := x47_0
                    have q52 : (1 : Int) + 1 ≤ p5.toInt := x47_1
                    have xv47 : v47 = 0 := by have h := xr47; exact h
                    have d53 : dkN [(2, 2147483647)] p5 := dkN_eq1 (dkN_top p5) a47_0 rfl rfl
                    refine lv_if_ne (tgt := 48) hx hb dX5_suits_42 (by decide) (fun c54 => ?_) (fun c54 => ?_)
                    ·
                      exact absurd ((xv47).trans (rfl).symm) c54
                    ·
                      refine lv_ldc (v := (-1000001)) hx hb hown (hts (.constant RX5 70 (-1000001)) (List.mem_of_getElem? (i := 1) rfl)) dX5_suits_45 ?_
                      exact W.iret (v := (-1000001)) hx hb hr (fun t ht hW9 => ⟨⟨(-1000001), I0, rfl, ⟨hF, hO, Or.inr (Or.inr (Or.inr (Or.inr (Or.inr (Or.inr (Or.inr (Or.inr (Or.inr (Or.inl ⟨dkN_sub (dkN_lit (x := (-1000001)) (-1000001) rfl) rfl, dkN_sub d11 rfl, dkN_sub d23 rfl, dkN_sub d35 rfl, dkN_sub d46 rfl, dkN_sub d53 rfl, (show dkN [(1, 6)] (I0 25 11) from dkN_sub (by rw [hF47 25 11 rfl]; exact (by rw [hF25 25 11 rfl]; exact f13_25_11)) rfl), (show dkN [(1, 5)] (I0 25 4) from dkN_sub (by rw [hF47 25 4 rfl]; exact (by rw [hF25 25 4 rfl]; exact (by rw [hF13 25 4 rfl]; exact f1_25_4))) rfl), q9, q10, q21, q22, q33, q34, q40, q45, q51, q52, rfl, rfl, trivial⟩)))))))))⟩, dkW_eq ht hW⟩, hS.F ht⟩) hS.2.2 dX5_suits_47
                  ·
                    obtain ⟨dv47, a47_0, x47_0, x47_1, xr47, -⟩ := hc47
                    have q55 : (0 : Int) + 0 ≤ p5.toInt := x47_0
                    have q56 : p5.toInt + 0 ≤ (1 : Int) := x47_1
                    have xv47 : v47 = 1 := by have h := xr47; exact h
                    have d57 : dkN [(0, 1)] p5 := dkN_eq1 (dkN_top p5) a47_0 rfl rfl
                    refine lv_if_ne (tgt := 48) hx hb dX5_suits_42 (by decide) (fun c58 => ?_) (fun c58 => ?_)
                    ·
                      refine lv_aload_n hx hb dX5_suits_48 rfl (lv_at hl 0 rfl) ?_
                      refine lv_iload_n hx hb dX5_suits_49 rfl (lv_at hl 3 rfl) ?_
                      refine lv_iload hx hb dX5_suits_50 (lv_at hl 4 rfl) ?_
                      refine lv_iload hx hb dX5_suits_52 (lv_at hl 5 rfl) ?_
                      refine dk_Vi (As := [.int p2, .int p3, .int p4]) (rest := []) ⟨hx, hb, hml, hown, hts⟩ (fx_X5_troubleWith_1 l g z I0 p2 p3 p4 d35 d46 hO) (cwV 3 hts gX5_suits_X5_troubleWith rfl rfl rfl (by decide +kernel) ⟨Nat.le_of_ble_eq_true rfl, Nat.le_of_ble_eq_true rfl⟩) (dk_at0 hW) rfl hK hT hW hS rfl hl.1 rfl (Nat.le_of_ble_eq_true rfl) dX5_suits_54 ⟨Nat.zero_le _, Nat.zero_le _⟩ (fun v59 I59 H59 L59 hp59 hW hS => ?_)
                      obtain ⟨hF59, hO, hc59⟩ := hp59
                      have hF := dkF_call hF hF59 rfl
                      have eI59 : I0 = I59 := (dkF_nil hF59).symm
                      subst eI59
                      rcases hc59 with ⟨dv59, a59_1, x59_0, x59_1, xr59, -⟩ | hc59
                      ·
                        have q60 : (I0 11 (Int32.toNatClampNeg p2)).toInt ≠ (-1 : Int) := x59_0
                        have q61 : p3.toInt + 1 ≤ (0 : Int) := x59_1
                        have xv59 : v59 = 2 := by have h := xr59; exact h
                        have d62 : dkN [(-2147483648, -1)] p3 := dkN_eq1 (dkN_top p3) a59_1 rfl rfl
                        refine lv_istore (lv' := [(7, .int v59), (0, .ref (z + 0)), (1, .int p0), (2, .int p1), (3, .int p2), (4, .int p3), (5, .int p4), (6, .int p5)]) hx hb dX5_suits_57 hl (by decide) rfl (fun ls hl => ?_)
                        refine lv_iload hx hb dX5_suits_59 (lv_at hl 0 rfl) ?_
                        refine lv_if_eq (tgt := 71) hx hb dX5_suits_61 (by decide) (fun c63 => ?_) (fun c63 => ?_)
                        ·
                          exact (dkN_nil (show dkN [] v59 from dkN_eq1 dv59 (dkN_lit (x := 0) (0) rfl) (congrArg Int32.toInt c63) rfl)).elim
                        ·
                          refine lv_aload_n hx hb dX5_suits_64 rfl (lv_at hl 1 rfl) ?_
                          refine lv_iload hx hb dX5_suits_65 (lv_at hl 0 rfl) ?_
                          refine dk_Vi (As := [.int v59]) (rest := []) ⟨hx, hb, hml, hown, hts⟩ (fx_X5_found_7 l g z I0 v59 dv59 hO) (cwV 1 hts gX5_suits_X5_found rfl rfl rfl (by decide +kernel) ⟨Nat.le_of_ble_eq_true rfl, Nat.le_of_ble_eq_true rfl⟩) (dk_at0 hW) rfl hK hT hW hS rfl hl.1 rfl (Nat.le_of_ble_eq_true rfl) dX5_suits_67 ⟨Nat.zero_le _, Nat.zero_le _⟩ (fun v64 I64 H64 L64 hp64 hW hS => ?_)
                          obtain ⟨hF64, hO, hc64⟩ := hp64
                          have hF := dkF_call hF hF64 rfl
                          obtain ⟨dv64, f64_0_3, x64_0, xr64, xh64_0, -⟩ := hc64
                          have q65 : ((-1000010 : Int32) - (2 : Int32)).toInt = (-1000010 : Int) - (2 : Int) := by have h := x64_0; rw [xv59] at h; exact h
                          have y66 : I64 0 3 = 2 := by have h := xh64_0; rw [xv59] at h; exact h
                          have xv64 : v64 = (-1000010 : Int32) - (2 : Int32) := by have h := xr64; rw [xv59] at h; exact h
                          exact W.iret (v := v64) hx hb hr (fun t ht hW9 => ⟨⟨v64, I64, rfl, ⟨hF, hO, Or.inr (Or.inr (Or.inr (Or.inr (Or.inr (Or.inr (Or.inr (Or.inr (Or.inr (Or.inr (Or.inl ⟨dkN_sub dv64 rfl, dkN_sub d11 rfl, dkN_sub d23 rfl, dkN_sub d35 rfl, dkN_sub d62 rfl, dkN_sub d46 rfl, dkN_sub d57 rfl, (show dkN [(2, 2)] (I64 0 3) from dkN_sub f64_0_3 rfl), (show dkN [(1, 6)] (I64 25 11) from dkN_sub (by rw [hF64 25 11 rfl]; exact (by rw [hF59 25 11 rfl]; exact (by rw [hF47 25 11 rfl]; exact (by rw [hF25 25 11 rfl]; exact f13_25_11)))) rfl), (show dkN [(1, 5)] (I64 25 4) from dkN_sub (by rw [hF64 25 4 rfl]; exact (by rw [hF59 25 4 rfl]; exact (by rw [hF47 25 4 rfl]; exact (by rw [hF25 25 4 rfl]; exact (by rw [hF13 25 4 rfl]; exact f1_25_4))))) rfl), q9, q10, q21, q22, q33, q34, q40, q45, q55, q56, q60, q61, q65, xv64, y66, trivial⟩))))))))))⟩, dkW_eq ht hW⟩, hS.F ht⟩) hS.2.2 dX5_suits_70
                      rcases hc59 with ⟨dv59, a59_1, x59_0, x59_1, x59_2, x59_3, x59_4, xr59, -⟩ | hc59
                      ·
                        have q67 : (I0 11 (Int32.toNatClampNeg p2)).toInt ≠ (-1 : Int) := x59_0
                        have q68 : (0 : Int) + 0 ≤ p3.toInt := x59_1
                        have q69 : (0 : Int) + 0 ≤ p4.toInt := x59_2
                        have q70 : ((I0 11 (Int32.toNatClampNeg p2)) - p4).toInt = (I0 11 (Int32.toNatClampNeg p2)).toInt - p4.toInt := x59_3
                        have q71 : ((I0 11 (Int32.toNatClampNeg p2)) - p4).toInt + 1 ≤ p3.toInt := x59_4
                        have xv59 : v59 = 2 := by have h := xr59; exact h
                        have d72 : dkN [(0, 2147483647)] p3 := dkN_eq1 (dkN_top p3) a59_1 rfl rfl
                        refine lv_istore (lv' := [(7, .int v59), (0, .ref (z + 0)), (1, .int p0), (2, .int p1), (3, .int p2), (4, .int p3), (5, .int p4), (6, .int p5)]) hx hb dX5_suits_57 hl (by decide) rfl (fun ls hl => ?_)
                        refine lv_iload hx hb dX5_suits_59 (lv_at hl 0 rfl) ?_
                        refine lv_if_eq (tgt := 71) hx hb dX5_suits_61 (by decide) (fun c73 => ?_) (fun c73 => ?_)
                        ·
                          exact (dkN_nil (show dkN [] v59 from dkN_eq1 dv59 (dkN_lit (x := 0) (0) rfl) (congrArg Int32.toInt c73) rfl)).elim
                        ·
                          refine lv_aload_n hx hb dX5_suits_64 rfl (lv_at hl 1 rfl) ?_
                          refine lv_iload hx hb dX5_suits_65 (lv_at hl 0 rfl) ?_
                          refine dk_Vi (As := [.int v59]) (rest := []) ⟨hx, hb, hml, hown, hts⟩ (fx_X5_found_7 l g z I0 v59 dv59 hO) (cwV 1 hts gX5_suits_X5_found rfl rfl rfl (by decide +kernel) ⟨Nat.le_of_ble_eq_true rfl, Nat.le_of_ble_eq_true rfl⟩) (dk_at0 hW) rfl hK hT hW hS rfl hl.1 rfl (Nat.le_of_ble_eq_true rfl) dX5_suits_67 ⟨Nat.zero_le _, Nat.zero_le _⟩ (fun v74 I74 H74 L74 hp74 hW hS => ?_)
                          obtain ⟨hF74, hO, hc74⟩ := hp74
                          have hF := dkF_call hF hF74 rfl
                          obtain ⟨dv74, f74_0_3, x74_0, xr74, xh74_0, -⟩ := hc74
                          have q75 : ((-1000010 : Int32) - (2 : Int32)).toInt = (-1000010 : Int) - (2 : Int) := by have h := x74_0; rw [xv59] at h; exact h
                          have y76 : I74 0 3 = 2 := by have h := xh74_0; rw [xv59] at h; exact h
                          have xv74 : v74 = (-1000010 : Int32) - (2 : Int32) := by have h := xr74; rw [xv59] at h; exact h
                          exact W.iret (v := v74) hx hb hr (fun t ht hW9 => ⟨⟨v74, I74, rfl, ⟨hF, hO, Or.inr (Or.inr (Or.inr (Or.inr (Or.inr (Or.inr (Or.inr (Or.inr (Or.inr (Or.inr (Or.inr (Or.inl ⟨dkN_sub dv74 rfl, dkN_sub d11 rfl, dkN_sub d23 rfl, dkN_sub d35 rfl, dkN_sub d72 rfl, dkN_sub d46 rfl, dkN_sub d57 rfl, (show dkN [(2, 2)] (I74 0 3) from dkN_sub f74_0_3 rfl), (show dkN [(1, 6)] (I74 25 11) from dkN_sub (by rw [hF74 25 11 rfl]; exact (by rw [hF59 25 11 rfl]; exact (by rw [hF47 25 11 rfl]; exact (by rw [hF25 25 11 rfl]; exact f13_25_11)))) rfl), (show dkN [(1, 5)] (I74 25 4) from dkN_sub (by rw [hF74 25 4 rfl]; exact (by rw [hF59 25 4 rfl]; exact (by rw [hF47 25 4 rfl]; exact (by rw [hF25 25 4 rfl]; exact (by rw [hF13 25 4 rfl]; exact f1_25_4))))) rfl), q9, q10, q21, q22, q33, q34, q40, q45, q55, q56, q67, q68, q69, q70, q71, q75, xv74, y76, trivial⟩)))))))))))⟩, dkW_eq ht hW⟩, hS.F ht⟩) hS.2.2 dX5_suits_70
                      rcases hc59 with ⟨dv59, a59_1, x59_0, x59_1, x59_2, x59_3, x59_4, xr59, -⟩ | hc59
                      ·
                        have q77 : (I0 11 (Int32.toNatClampNeg p2)).toInt ≠ (-1 : Int) := x59_0
                        have q78 : (0 : Int) + 0 ≤ p3.toInt := x59_1
                        have q79 : (0 : Int) + 0 ≤ p4.toInt := x59_2
                        have q80 : ((I0 11 (Int32.toNatClampNeg p2)) - p4).toInt = (I0 11 (Int32.toNatClampNeg p2)).toInt - p4.toInt := x59_3
                        have q81 : p3.toInt + 0 ≤ ((I0 11 (Int32.toNatClampNeg p2)) - p4).toInt := x59_4
                        have xv59 : v59 = 0 := by have h := xr59; exact h
                        have d82 : dkN [(0, 39)] p3 := dkN_eq1 (dkN_top p3) a59_1 rfl rfl
                        refine lv_istore (lv' := [(7, .int v59), (0, .ref (z + 0)), (1, .int p0), (2, .int p1), (3, .int p2), (4, .int p3), (5, .int p4), (6, .int p5)]) hx hb dX5_suits_57 hl (by decide) rfl (fun ls hl => ?_)
                        refine lv_iload hx hb dX5_suits_59 (lv_at hl 0 rfl) ?_
                        refine lv_if_eq (tgt := 71) hx hb dX5_suits_61 (by decide) (fun c83 => ?_) (fun c83 => ?_)
                        ·
                          refine lv_aload_n hx hb dX5_suits_71 rfl (lv_at hl 1 rfl) ?_
                          refine lv_aload_n hx hb dX5_suits_72 rfl (lv_at hl 1 rfl) ?_
                          refine dk_get (k := 0) hx hb hts iX5_suits_5 hown hK (dk_at0 hW) rfl 8 (by decide) (hts (.fieldLink RX5 51 "DogKings" "seer" "LDogKings$Seer;") (List.mem_of_getElem? (i := 2) rfl)) rfl dX5_suits_73 ?_
                          refine lv_iload hx hb dX5_suits_76 (lv_at hl 7 rfl) ?_
                          refine lv_if_ne (tgt := 85) hx hb dX5_suits_78 (by decide) (fun c84 => ?_) (fun c84 => ?_)
                          ·
                            have q85 : p5.toInt ≠ (0 : Int) := (dk_ne c84)
                            have d86 : dkN [(1, 1)] p5 := dkN_ne1 (0) d57 (dkN_lit (x := 0) (0) rfl) (dk_ne c84) rfl
                            refine lv_iconst (v := 3) hx hb dX5_suits_85 (by decide) ?_
                            refine lv_iload_n hx hb dX5_suits_86 rfl (lv_at hl 2 rfl) ?_
                            refine lv_iload_n hx hb dX5_suits_87 rfl (lv_at hl 3 rfl) ?_
                            refine lv_aload_n hx hb dX5_suits_88 rfl (lv_at hl 1 rfl) ?_
                            refine dk_get (k := 0) hx hb hts iX5_suits_5 hown hK (dk_at0 hW) rfl 0 (by decide) (hts (.fieldLink RX5 11 "DogKings" "items" "[[I") (List.mem_of_getElem? (i := 3) rfl)) rfl dX5_suits_89 ?_
                            refine lv_iload_n hx hb dX5_suits_92 rfl (lv_at hl 4 rfl) ?_
                            obtain ⟨rf87, hrf87, erf87⟩ := dk_rowAt (z := z) (dkN_in (n := 8) d35 rfl)
                            refine dk_rld (r := z + rf87) hx hb hK (dk_at1 hW) (dkN_in (n := 8) d35 rfl) erf87 dX5_suits_93 ?_
                            refine lv_iload hx hb dX5_suits_94 (lv_at hl 5 rfl) ?_
                            refine lv_iload hx hb dX5_suits_96 (lv_at hl 6 rfl) ?_
                            refine dk_Vi (As := [.int 3, .int p0, .int p1, .ref (z + rf87), .int p3, .int p4]) (rest := [.ref (z + 0)]) ⟨hx, hb, hml, hown, hts⟩ (c_X3_guesses_4 l g z I0 rf87 hrf87 3 p0 p1 p3 p4 (dkN_lit (x := 3) (3) rfl) d11 d23 d82 d46 hO) (cwV 6 hts gX5_suits_X3_guesses rfl rfl rfl (by decide +kernel) ⟨Nat.le_of_ble_eq_true rfl, Nat.le_of_ble_eq_true rfl⟩) (dk_at325 hW) rfl hK hT hW hS rfl hl.1 rfl (Nat.le_of_ble_eq_true rfl) dX5_suits_98 ⟨Nat.zero_le _, Nat.zero_le _⟩ (fun v88 I88 H88 L88 hp88 hW hS => ?_)
                            obtain ⟨hF88, hO, hc88⟩ := hp88
                            have hF := dkF_call hF hF88 rfl
                            obtain ⟨_, -⟩ := hc88
                            refine dk_Vi (As := [.int v88]) (rest := []) ⟨hx, hb, hml, hown, hts⟩ (fx_X5_nothingFound_1 l g z I88 v88 hO) (cwV 1 hts gX5_suits_X5_nothingFound rfl rfl rfl (by decide +kernel) ⟨Nat.le_of_ble_eq_true rfl, Nat.le_of_ble_eq_true rfl⟩) (dk_at0 hW) rfl hK hT hW hS rfl hl.1 rfl (Nat.le_of_ble_eq_true rfl) dX5_suits_101 ⟨Nat.zero_le _, Nat.zero_le _⟩ (fun v89 I89 H89 L89 hp89 hW hS => ?_)
                            obtain ⟨hF89, hO, hc89⟩ := hp89
                            have hF := dkF_call hF hF89 rfl
                            obtain ⟨_, f89_0_3, xr89, xh89_0, -⟩ := hc89
                            have y90 : I89 0 3 = 0 := by have h := xh89_0; exact h
                            exact W.iret (v := v89) hx hb hr (fun t ht hW9 => ⟨⟨v89, I89, rfl, ⟨hF, hO, Or.inr (Or.inr (Or.inr (Or.inr (Or.inr (Or.inr (Or.inr (Or.inr (Or.inr (Or.inr (Or.inr (Or.inr (Or.inl ⟨trivial, dkN_sub d11 rfl, dkN_sub d23 rfl, dkN_sub d35 rfl, dkN_sub d82 rfl, dkN_sub d46 rfl, dkN_sub d86 rfl, (show dkN [(0, 0)] (I89 0 3) from dkN_sub f89_0_3 rfl), (show dkN [(1, 6)] (I89 25 11) from dkN_sub (by rw [hF89 25 11 rfl]; exact (by rw [hF88 25 11 rfl]; exact (by rw [hF59 25 11 rfl]; exact (by rw [hF47 25 11 rfl]; exact (by rw [hF25 25 11 rfl]; exact f13_25_11))))) rfl), (show dkN [(1, 5)] (I89 25 4) from dkN_sub (by rw [hF89 25 4 rfl]; exact (by rw [hF88 25 4 rfl]; exact (by rw [hF59 25 4 rfl]; exact (by rw [hF47 25 4 rfl]; exact (by rw [hF25 25 4 rfl]; exact (by rw [hF13 25 4 rfl]; exact f1_25_4)))))) rfl), q9, q10, q21, q22, q33, q34, q40, q45, q55, q56, q77, q78, q79, q80, q81, q85, y90, trivial⟩))))))))))))⟩, dkW_eq ht hW⟩, hS.F ht⟩) hS.2.2 dX5_suits_104
                          ·
                            have q91 : p5.toInt = (0 : Int) := (congrArg Int32.toInt c84)
                            have d92 : dkN [(0, 0)] p5 := dkN_eq1 d57 (dkN_lit (x := 0) (0) rfl) (congrArg Int32.toInt c84) rfl
                            refine lv_iconst (v := 2) hx hb dX5_suits_81 (by decide) ?_
                            refine lv_goto (tgt := 86) hx hb dX5_suits_82 (by decide) ?_
                            refine lv_iload_n hx hb dX5_suits_86 rfl (lv_at hl 2 rfl) ?_
                            refine lv_iload_n hx hb dX5_suits_87 rfl (lv_at hl 3 rfl) ?_
                            refine lv_aload_n hx hb dX5_suits_88 rfl (lv_at hl 1 rfl) ?_
                            refine dk_get (k := 0) hx hb hts iX5_suits_5 hown hK (dk_at0 hW) rfl 0 (by decide) (hts (.fieldLink RX5 11 "DogKings" "items" "[[I") (List.mem_of_getElem? (i := 3) rfl)) rfl dX5_suits_89 ?_
                            refine lv_iload_n hx hb dX5_suits_92 rfl (lv_at hl 4 rfl) ?_
                            obtain ⟨rf93, hrf93, erf93⟩ := dk_rowAt (z := z) (dkN_in (n := 8) d35 rfl)
                            refine dk_rld (r := z + rf93) hx hb hK (dk_at1 hW) (dkN_in (n := 8) d35 rfl) erf93 dX5_suits_93 ?_
                            refine lv_iload hx hb dX5_suits_94 (lv_at hl 5 rfl) ?_
                            refine lv_iload hx hb dX5_suits_96 (lv_at hl 6 rfl) ?_
                            refine dk_Vi (As := [.int 2, .int p0, .int p1, .ref (z + rf93), .int p3, .int p4]) (rest := [.ref (z + 0)]) ⟨hx, hb, hml, hown, hts⟩ (c_X3_guesses_5 l g z I0 rf93 hrf93 2 p0 p1 p3 p4 (dkN_lit (x := 2) (2) rfl) d11 d23 d82 d46 hO) (cwV 6 hts gX5_suits_X3_guesses rfl rfl rfl (by decide +kernel) ⟨Nat.le_of_ble_eq_true rfl, Nat.le_of_ble_eq_true rfl⟩) (dk_at325 hW) rfl hK hT hW hS rfl hl.1 rfl (Nat.le_of_ble_eq_true rfl) dX5_suits_98 ⟨Nat.zero_le _, Nat.zero_le _⟩ (fun v94 I94 H94 L94 hp94 hW hS => ?_)
                            obtain ⟨hF94, hO, hc94⟩ := hp94
                            have hF := dkF_call hF hF94 rfl
                            obtain ⟨_, -⟩ := hc94
                            refine dk_Vi (As := [.int v94]) (rest := []) ⟨hx, hb, hml, hown, hts⟩ (fx_X5_nothingFound_1 l g z I94 v94 hO) (cwV 1 hts gX5_suits_X5_nothingFound rfl rfl rfl (by decide +kernel) ⟨Nat.le_of_ble_eq_true rfl, Nat.le_of_ble_eq_true rfl⟩) (dk_at0 hW) rfl hK hT hW hS rfl hl.1 rfl (Nat.le_of_ble_eq_true rfl) dX5_suits_101 ⟨Nat.zero_le _, Nat.zero_le _⟩ (fun v95 I95 H95 L95 hp95 hW hS => ?_)
                            obtain ⟨hF95, hO, hc95⟩ := hp95
                            have hF := dkF_call hF hF95 rfl
                            obtain ⟨_, f95_0_3, xr95, xh95_0, -⟩ := hc95
                            have y96 : I95 0 3 = 0 := by have h := xh95_0; exact h
                            exact W.iret (v := v95) hx hb hr (fun t ht hW9 => ⟨⟨v95, I95, rfl, ⟨hF, hO, Or.inr (Or.inr (Or.inr (Or.inr (Or.inr (Or.inr (Or.inr (Or.inr (Or.inr (Or.inr (Or.inr (Or.inr (Or.inr (Or.inl ⟨trivial, dkN_sub d11 rfl, dkN_sub d23 rfl, dkN_sub d35 rfl, dkN_sub d82 rfl, dkN_sub d46 rfl, dkN_sub d92 rfl, (show dkN [(0, 0)] (I95 0 3) from dkN_sub f95_0_3 rfl), (show dkN [(1, 6)] (I95 25 11) from dkN_sub (by rw [hF95 25 11 rfl]; exact (by rw [hF94 25 11 rfl]; exact (by rw [hF59 25 11 rfl]; exact (by rw [hF47 25 11 rfl]; exact (by rw [hF25 25 11 rfl]; exact f13_25_11))))) rfl), (show dkN [(1, 5)] (I95 25 4) from dkN_sub (by rw [hF95 25 4 rfl]; exact (by rw [hF94 25 4 rfl]; exact (by rw [hF59 25 4 rfl]; exact (by rw [hF47 25 4 rfl]; exact (by rw [hF25 25 4 rfl]; exact (by rw [hF13 25 4 rfl]; exact f1_25_4)))))) rfl), q9, q10, q21, q22, q33, q34, q40, q45, q55, q56, q77, q78, q79, q80, q81, q91, y96, trivial⟩)))))))))))))⟩, dkW_eq ht hW⟩, hS.F ht⟩) hS.2.2 dX5_suits_104
                        ·
                          exact absurd ((xv59).trans (rfl).symm) c83
                      ·
                        obtain ⟨dv59, x59_0, xr59, -⟩ := hc59
                        have q97 : (I0 11 (Int32.toNatClampNeg p2)).toInt = (-1 : Int) := x59_0
                        have xv59 : v59 = 1 := by have h := xr59; exact h
                        refine lv_istore (lv' := [(7, .int v59), (0, .ref (z + 0)), (1, .int p0), (2, .int p1), (3, .int p2), (4, .int p3), (5, .int p4), (6, .int p5)]) hx hb dX5_suits_57 hl (by decide) rfl (fun ls hl => ?_)
                        refine lv_iload hx hb dX5_suits_59 (lv_at hl 0 rfl) ?_
                        refine lv_if_eq (tgt := 71) hx hb dX5_suits_61 (by decide) (fun c98 => ?_) (fun c98 => ?_)
                        ·
                          exact (dkN_nil (show dkN [] v59 from dkN_eq1 dv59 (dkN_lit (x := 0) (0) rfl) (congrArg Int32.toInt c98) rfl)).elim
                        ·
                          refine lv_aload_n hx hb dX5_suits_64 rfl (lv_at hl 1 rfl) ?_
                          refine lv_iload hx hb dX5_suits_65 (lv_at hl 0 rfl) ?_
                          refine dk_Vi (As := [.int v59]) (rest := []) ⟨hx, hb, hml, hown, hts⟩ (fx_X5_found_6 l g z I0 v59 dv59 hO) (cwV 1 hts gX5_suits_X5_found rfl rfl rfl (by decide +kernel) ⟨Nat.le_of_ble_eq_true rfl, Nat.le_of_ble_eq_true rfl⟩) (dk_at0 hW) rfl hK hT hW hS rfl hl.1 rfl (Nat.le_of_ble_eq_true rfl) dX5_suits_67 ⟨Nat.zero_le _, Nat.zero_le _⟩ (fun v99 I99 H99 L99 hp99 hW hS => ?_)
                          obtain ⟨hF99, hO, hc99⟩ := hp99
                          have hF := dkF_call hF hF99 rfl
                          obtain ⟨dv99, f99_0_3, x99_0, xr99, xh99_0, -⟩ := hc99
                          have q100 : ((-1000010 : Int32) - (1 : Int32)).toInt = (-1000010 : Int) - (1 : Int) := by have h := x99_0; rw [xv59] at h; exact h
                          have y101 : I99 0 3 = 1 := by have h := xh99_0; rw [xv59] at h; exact h
                          have xv99 : v99 = (-1000010 : Int32) - (1 : Int32) := by have h := xr99; rw [xv59] at h; exact h
                          exact W.iret (v := v99) hx hb hr (fun t ht hW9 => ⟨⟨v99, I99, rfl, ⟨hF, hO, Or.inr (Or.inr (Or.inr (Or.inr (Or.inr (Or.inr (Or.inr (Or.inr (Or.inr (Or.inr (Or.inr (Or.inr (Or.inr (Or.inr (⟨dkN_sub dv99 rfl, dkN_sub d11 rfl, dkN_sub d23 rfl, dkN_sub d35 rfl, dkN_sub d46 rfl, dkN_sub d57 rfl, (show dkN [(1, 1)] (I99 0 3) from dkN_sub f99_0_3 rfl), (show dkN [(1, 6)] (I99 25 11) from dkN_sub (by rw [hF99 25 11 rfl]; exact (by rw [hF59 25 11 rfl]; exact (by rw [hF47 25 11 rfl]; exact (by rw [hF25 25 11 rfl]; exact f13_25_11)))) rfl), (show dkN [(1, 5)] (I99 25 4) from dkN_sub (by rw [hF99 25 4 rfl]; exact (by rw [hF59 25 4 rfl]; exact (by rw [hF47 25 4 rfl]; exact (by rw [hF25 25 4 rfl]; exact (by rw [hF13 25 4 rfl]; exact f1_25_4))))) rfl), q9, q10, q21, q22, q33, q34, q40, q45, q55, q56, q97, q100, xv99, y101, trivial⟩))))))))))))))⟩, dkW_eq ht hW⟩, hS.F ht⟩) hS.2.2 dX5_suits_70
                    ·
                      exact (dkN_nil (show dkN [] v47 from dkN_eq1 dv47 (dkN_lit (x := 0) (0) rfl) (congrArg Int32.toInt c58) rfl)).elim
set_option maxHeartbeats 4000000 in
set_option maxRecDepth 100000 in
theorem fx_X6_in_42 (l : Launch) (g : dkG) (z : Nat) (I0 : dkI) (p0 : Int32) (p1 : Int32) (p2 : Int32) (dp1 : dkN [(0, 0)] p1) (dp2 : dkN [(-1, 4)] p2)  (hO : dkOk I0) : Met l yX6_in wsX6_in (dkR 0) (dkPc g z [.int p0, .int p1, .int p2] I0) (dkQi g z (fun r I1 => dkF [] I0 I1 ∧ dkOk I1 ∧ ((dkN [(0, 0)] r ∧ dkN [(-2147483648, -1)] p0 ∧ p0.toInt + 1 ≤ p1.toInt ∧ r = 0 ∧ True) ∨ (dkN [(0, 0)] r ∧ dkN [(0, 2147483647)] p0 ∧ p1.toInt + 0 ≤ p0.toInt ∧ p2.toInt + 1 ≤ p0.toInt ∧ r = 0 ∧ True) ∨ (dkN [(1, 1)] r ∧ dkN [(0, 4)] p0 ∧ dkN [(0, 4)] p2 ∧ p1.toInt + 0 ≤ p0.toInt ∧ p0.toInt + 0 ≤ p2.toInt ∧ r = 1 ∧ True)))) 0 0 (dkA z) := by
  refine Met.ofW (cc := cX6_in) (maxL := 3) (ret := (some .boolean)) (by decide) rfl ?_
  intro p e s m args below meth c s₁ B hml hv
  obtain ⟨ha, hW, hK, hT⟩ := hv
  have hx := B.exec
  have hb := B.bytes
  have hr := B.returns
  have hts := atoms_spec (ws := wsX6_in) B.pre
  have hown : s.vm.findClass RX6 = some m.cls := findClass_of_methodNamed B.named
  have hlocks := B.notSynchronized
  have hS : va_S (dkA z) s.heap s.heap [] := va_S.rf
  have hF : dkF [] I0 I0 := dkF_rf _ _
  have hl := lv_entry ([.int p0, .int p1, .int p2]) (n := 3) (Nat.le_of_ble_eq_true rfl)
  have hgo : entryFrame m args 3 = entryFrame m ([.int p0, .int p1, .int p2] : List Value).toArray 3 := by rw [ha]
  rw [hgo, lg_entry_eq]
  generalize (lg_sl ([.int p0, .int p1, .int p2]) ++ List.replicate (3 - (lg_sl ([.int p0, .int p1, .int p2])).length) Slot.unset).toArray = ls at hl ⊢
  have hl : lv_has ls 3 [(0, .int p0), (1, .int p1), (2, .int p2)] := hl
  refine lv_iload_n hx hb dX6_in_0 rfl (lv_at hl 0 rfl) ?_
  refine lv_iload_n hx hb dX6_in_1 rfl (lv_at hl 1 rfl) ?_
  refine lv_icmp_lt (tgt := 14) hx hb dX6_in_2 (by decide) (fun c1 => ?_) (fun c1 => ?_)
  ·
    have q2 : p0.toInt + 1 ≤ p1.toInt := (dkc_lt c1)
    have d3 : dkN [(-2147483648, -1)] p0 := dkN_le1 1 (dkN_top p0) dp1 (dkc_lt c1) rfl
    refine lv_iconst (v := 0) hx hb dX6_in_14 (by decide) ?_
    exact W.zret (v := 0) (ty := .boolean) hx hb hr rfl (fun t ht hW9 => ⟨⟨0, I0, rfl, ⟨hF, hO, Or.inl ⟨dkN_sub (dkN_lit (x := 0) (0) rfl) rfl, dkN_sub d3 rfl, q2, rfl, trivial⟩⟩, dkW_eq ht hW⟩, hS.F ht⟩) hS.2.2 dX6_in_15
  ·
    have q4 : p1.toInt + 0 ≤ p0.toInt := (dkc_nlt c1)
    have d5 : dkN [(0, 2147483647)] p0 := dkN_le2 0 dp1 (dkN_top p0) (dkc_nlt c1) rfl
    refine lv_iload_n hx hb dX6_in_5 rfl (lv_at hl 0 rfl) ?_
    refine lv_iload_n hx hb dX6_in_6 rfl (lv_at hl 2 rfl) ?_
    refine lv_icmp_gt (tgt := 14) hx hb dX6_in_7 (by decide) (fun c6 => ?_) (fun c6 => ?_)
    ·
      have q7 : p2.toInt + 1 ≤ p0.toInt := (dkc_lt c6)
      refine lv_iconst (v := 0) hx hb dX6_in_14 (by decide) ?_
      exact W.zret (v := 0) (ty := .boolean) hx hb hr rfl (fun t ht hW9 => ⟨⟨0, I0, rfl, ⟨hF, hO, Or.inr (Or.inl ⟨dkN_sub (dkN_lit (x := 0) (0) rfl) rfl, dkN_sub d5 rfl, q4, q7, rfl, trivial⟩)⟩, dkW_eq ht hW⟩, hS.F ht⟩) hS.2.2 dX6_in_15
    ·
      have q8 : p0.toInt + 0 ≤ p2.toInt := (dkc_nlt c6)
      have d9 : dkN [(0, 4)] p2 := dkN_le2 0 d5 dp2 (dkc_nlt c6) rfl
      have d10 : dkN [(0, 4)] p0 := dkN_le1 0 d5 dp2 (dkc_nlt c6) rfl
      refine lv_iconst (v := 1) hx hb dX6_in_10 (by decide) ?_
      refine lv_goto (tgt := 15) hx hb dX6_in_11 (by decide) ?_
      exact W.zret (v := 1) (ty := .boolean) hx hb hr rfl (fun t ht hW9 => ⟨⟨1, I0, rfl, ⟨hF, hO, Or.inr (Or.inr (⟨dkN_sub (dkN_lit (x := 1) (1) rfl) rfl, dkN_sub d10 rfl, dkN_sub d9 rfl, q4, q8, rfl, trivial⟩))⟩, dkW_eq ht hW⟩, hS.F ht⟩) hS.2.2 dX6_in_15
set_option maxHeartbeats 4000000 in
set_option maxRecDepth 100000 in
theorem fx_X6_isPerson_1 (l : Launch) (g : dkG) (z : Nat) (I0 : dkI) (p0 : Int32)  (hO : dkOk I0) : Met l yX6_isPerson wsX6_isPerson (dkR 1) (dkPc g z [.ref (z + 340), .int p0] I0) (dkQi g z (fun r I1 => dkF [] I0 I1 ∧ dkOk I1 ∧ ((dkN [(0, 0)] r ∧ dkN [(-2147483648, -1)] p0 ∧ ((I0 346 4) - (1 : Int32)).toInt = (I0 346 4).toInt - (1 : Int) ∧ p0.toInt + 1 ≤ (0 : Int) ∧ r = 0 ∧ True) ∨ (dkN [(0, 0)] r ∧ dkN [(0, 2147483647)] p0 ∧ ((I0 346 4) - (1 : Int32)).toInt = (I0 346 4).toInt - (1 : Int) ∧ (0 : Int) + 0 ≤ p0.toInt ∧ ((I0 346 4) - (1 : Int32)).toInt + 1 ≤ p0.toInt ∧ r = 0 ∧ True) ∨ (dkN [(1, 1)] r ∧ dkN [(0, 4)] p0 ∧ ((I0 346 4) - (1 : Int32)).toInt = (I0 346 4).toInt - (1 : Int) ∧ (0 : Int) + 0 ≤ p0.toInt ∧ p0.toInt + 0 ≤ ((I0 346 4) - (1 : Int32)).toInt ∧ r = 1 ∧ True)))) 0 0 (dkA z) := by
  refine Met.ofW (cc := cX6_isPerson) (maxL := 2) (ret := (some .boolean)) (by decide) rfl ?_
  intro p e s m args below meth c s₁ B hml hv
  obtain ⟨ha, hW, hK, hT⟩ := hv
  have hx := B.exec
  have hb := B.bytes
  have hr := B.returns
  have hts := atoms_spec (ws := wsX6_isPerson) B.pre
  have hown : s.vm.findClass RX6 = some m.cls := findClass_of_methodNamed B.named
  have hlocks := B.notSynchronized
  have hS : va_S (dkA z) s.heap s.heap [] := va_S.rf
  have hF : dkF [] I0 I0 := dkF_rf _ _
  have hl := lv_entry ([.ref (z + 340), .int p0]) (n := 2) (Nat.le_of_ble_eq_true rfl)
  have hgo : entryFrame m args 2 = entryFrame m ([.ref (z + 340), .int p0] : List Value).toArray 2 := by rw [ha]
  rw [hgo, lg_entry_eq]
  generalize (lg_sl ([.ref (z + 340), .int p0]) ++ List.replicate (2 - (lg_sl ([.ref (z + 340), .int p0])).length) Slot.unset).toArray = ls at hl ⊢
  have hl : lv_has ls 2 [(0, .ref (z + 340)), (1, .int p0)] := hl
  refine lv_iload_n hx hb dX6_isPerson_0 rfl (lv_at hl 1 rfl) ?_
  refine lv_iconst (v := 0) hx hb dX6_isPerson_1 (by decide) ?_
  refine lv_aload_n hx hb dX6_isPerson_2 rfl (lv_at hl 0 rfl) ?_
  refine dk_get (k := 340) hx hb hts iX6_isPerson_6 hown hK (dk_at340 hW) rfl 13 (by decide) (hts (.fieldLink RX6 25 "DogKingsModel" "now" "[I") (List.mem_of_getElem? (i := 1) rfl)) rfl dX6_isPerson_3 ?_
  refine lv_iconst (v := 4) hx hb dX6_isPerson_6 (by decide) ?_
  refine dk_ild (k := 346) hx hb hK (dk_at346 hW) (dkN_in (n := 54) (dkN_lit (x := 4) (4) rfl) rfl) dX6_isPerson_7 ?_
  refine lv_topi (fun v1 ev1 => ?_)
  have ev1 : v1 = I0 346 4 := ev1
  have dv1 : dkN [(0, 5)] v1 := by rw [ev1]; exact (show dkN [(0, 5)] (I0 346 4) from (hO 346 4))
  have xv1 : v1 = I0 346 4 := ev1.trans rfl
  refine lv_iconst (v := 1) hx hb dX6_isPerson_8 (by decide) ?_
  refine lv_isub hx hb dX6_isPerson_9 ?_
  refine lv_topi (fun v2 ev2 => ?_)
  have dv2 : dkN [(-1, 4)] v2 := by rw [ev2]; exact dkN_subt dv1 (dkN_lit (x := 1) (1) rfl) rfl
  have xv2 : v2 = (I0 346 4) - (1 : Int32) := by rw [ev2, xv1]
  have q3 : ((I0 346 4) - (1 : Int32)).toInt = (I0 346 4).toInt - (1 : Int) := by first | (rw [← xv2, ← xv1]; exact (by rw [ev2]; exact dk_subE dv1 (dkN_lit (x := 1) (1) rfl) rfl)) | (subst xv2 xv1; exact (by rw [ev2]; exact dk_subE dv1 (dkN_lit (x := 1) (1) rfl) rfl))
  refine dk_Si (As := [.int p0, .int 0, .int v2]) (rest := []) ⟨hx, hb, hml, hown, hts⟩ (fx_X6_in_42 l g z I0 p0 0 v2 (dkN_lit (x := 0) (0) rfl) dv2 hO) (va_cwS 3 hts gX6_isPerson_X6_in rfl rfl rfl (by decide +kernel) ⟨Nat.le_of_ble_eq_true rfl, Nat.le_of_ble_eq_true rfl⟩) hK hT hW hS rfl hl.1 rfl (Nat.le_of_ble_eq_true rfl) dX6_isPerson_10 ⟨Nat.zero_le _, Nat.zero_le _⟩ (fun v4 I4 H4 L4 hp4 hW hS => ?_)
  obtain ⟨hF4, hO, hc4⟩ := hp4
  have hF := dkF_call hF hF4 rfl
  have eI4 : I0 = I4 := (dkF_nil hF4).symm
  subst eI4
  rcases hc4 with ⟨dv4, a4_0, x4_0, xr4, -⟩ | hc4
  ·
    have q5 : p0.toInt + 1 ≤ (0 : Int) := x4_0
    have xv4 : v4 = 0 := by have h := xr4; exact h
    have d6 : dkN [(-2147483648, -1)] p0 := dkN_eq1 (dkN_top p0) a4_0 rfl rfl
    exact W.zret (v := v4) (ty := .boolean) hx hb hr (dkN_zr dv4 rfl) (fun t ht hW9 => ⟨⟨v4, I0, rfl, ⟨hF, hO, Or.inl ⟨dkN_sub dv4 rfl, dkN_sub d6 rfl, q3, q5, xv4, trivial⟩⟩, dkW_eq ht hW⟩, hS.F ht⟩) hS.2.2 dX6_isPerson_13
  rcases hc4 with ⟨dv4, a4_0, x4_0, x4_1, xr4, -⟩ | hc4
  ·
    have q7 : (0 : Int) + 0 ≤ p0.toInt := x4_0
    have q8 : ((I0 346 4) - (1 : Int32)).toInt + 1 ≤ p0.toInt := by have h := x4_1; rw [xv2] at h; exact h
    have xv4 : v4 = 0 := by have h := xr4; exact h
    have d9 : dkN [(0, 2147483647)] p0 := dkN_eq1 (dkN_top p0) a4_0 rfl rfl
    exact W.zret (v := v4) (ty := .boolean) hx hb hr (dkN_zr dv4 rfl) (fun t ht hW9 => ⟨⟨v4, I0, rfl, ⟨hF, hO, Or.inr (Or.inl ⟨dkN_sub dv4 rfl, dkN_sub d9 rfl, q3, q7, q8, xv4, trivial⟩)⟩, dkW_eq ht hW⟩, hS.F ht⟩) hS.2.2 dX6_isPerson_13
  ·
    obtain ⟨dv4, a4_0, a4_2, x4_0, x4_1, xr4, -⟩ := hc4
    have q10 : (0 : Int) + 0 ≤ p0.toInt := x4_0
    have q11 : p0.toInt + 0 ≤ ((I0 346 4) - (1 : Int32)).toInt := by have h := x4_1; rw [xv2] at h; exact h
    have xv4 : v4 = 1 := by have h := xr4; exact h
    have d12 : dkN [(0, 4)] p0 := dkN_eq1 (dkN_top p0) a4_0 rfl rfl
    have d13 : dkN [(0, 4)] v2 := dkN_eq1 dv2 a4_2 rfl rfl
    exact W.zret (v := v4) (ty := .boolean) hx hb hr (dkN_zr dv4 rfl) (fun t ht hW9 => ⟨⟨v4, I0, rfl, ⟨hF, hO, Or.inr (Or.inr (⟨dkN_sub dv4 rfl, dkN_sub d12 rfl, q3, q10, q11, xv4, trivial⟩))⟩, dkW_eq ht hW⟩, hS.F ht⟩) hS.2.2 dX6_isPerson_13
set_option maxHeartbeats 4000000 in
set_option maxRecDepth 100000 in
theorem fx_X6_suits_1 (l : Launch) (g : dkG) (z : Nat) (I0 : dkI) (p0 : Int32) (p1 : Int32) (p2 : Int32) (p3 : Int32) (p4 : Int32) (p5 : Int32)  (hO : dkOk I0) : Met l yX6_suits wsX6_suits (dkR 8) (dkPc g z [.ref (z + 340), .int p0, .int p1, .int p2, .int p3, .int p4, .int p5] I0) (dkQi g z (fun r I1 => dkF [(340, 340, 4, 4), (348, 348, 0, 53)] I0 I1 ∧ dkOk I1 ∧ ((dkN [(-1000001, -1000001)] r ∧ dkN [(-2147483648, -1)] p0 ∧ ((I0 346 4) - (1 : Int32)).toInt = (I0 346 4).toInt - (1 : Int) ∧ p0.toInt + 1 ≤ (0 : Int) ∧ r = (-1000001) ∧ I1 340 4 = I0 340 4 ∧ True) ∨ (dkN [(-1000001, -1000001)] r ∧ dkN [(0, 2147483647)] p0 ∧ ((I0 346 4) - (1 : Int32)).toInt = (I0 346 4).toInt - (1 : Int) ∧ (0 : Int) + 0 ≤ p0.toInt ∧ ((I0 346 4) - (1 : Int32)).toInt + 1 ≤ p0.toInt ∧ r = (-1000001) ∧ I1 340 4 = I0 340 4 ∧ True) ∨ (dkN [(-1000001, -1000001)] r ∧ dkN [(0, 4)] p0 ∧ dkN [(-2147483648, -1)] p1 ∧ ((I0 346 4) - (1 : Int32)).toInt = (I0 346 4).toInt - (1 : Int) ∧ (0 : Int) + 0 ≤ p0.toInt ∧ p0.toInt + 0 ≤ ((I0 346 4) - (1 : Int32)).toInt ∧ ((I0 346 5) - (1 : Int32)).toInt = (I0 346 5).toInt - (1 : Int) ∧ p1.toInt + 1 ≤ (0 : Int) ∧ r = (-1000001) ∧ I1 340 4 = I0 340 4 ∧ True) ∨ (dkN [(-1000001, -1000001)] r ∧ dkN [(0, 4)] p0 ∧ dkN [(0, 2147483647)] p1 ∧ ((I0 346 4) - (1 : Int32)).toInt = (I0 346 4).toInt - (1 : Int) ∧ (0 : Int) + 0 ≤ p0.toInt ∧ p0.toInt + 0 ≤ ((I0 346 4) - (1 : Int32)).toInt ∧ ((I0 346 5) - (1 : Int32)).toInt = (I0 346 5).toInt - (1 : Int) ∧ (0 : Int) + 0 ≤ p1.toInt ∧ ((I0 346 5) - (1 : Int32)).toInt + 1 ≤ p1.toInt ∧ r = (-1000001) ∧ I1 340 4 = I0 340 4 ∧ True) ∨ (dkN [(-1000001, -1000001)] r ∧ dkN [(0, 4)] p0 ∧ dkN [(0, 5)] p1 ∧ dkN [(-2147483648, -1)] p2 ∧ ((I0 346 4) - (1 : Int32)).toInt = (I0 346 4).toInt - (1 : Int) ∧ (0 : Int) + 0 ≤ p0.toInt ∧ p0.toInt + 0 ≤ ((I0 346 4) - (1 : Int32)).toInt ∧ ((I0 346 5) - (1 : Int32)).toInt = (I0 346 5).toInt - (1 : Int) ∧ (0 : Int) + 0 ≤ p1.toInt ∧ p1.toInt + 0 ≤ ((I0 346 5) - (1 : Int32)).toInt ∧ p2.toInt + 1 ≤ (0 : Int) ∧ r = (-1000001) ∧ I1 340 4 = I0 340 4 ∧ True) ∨ (dkN [(-1000001, -1000001)] r ∧ dkN [(0, 4)] p0 ∧ dkN [(0, 5)] p1 ∧ dkN [(8, 2147483647)] p2 ∧ ((I0 346 4) - (1 : Int32)).toInt = (I0 346 4).toInt - (1 : Int) ∧ (0 : Int) + 0 ≤ p0.toInt ∧ p0.toInt + 0 ≤ ((I0 346 4) - (1 : Int32)).toInt ∧ ((I0 346 5) - (1 : Int32)).toInt = (I0 346 5).toInt - (1 : Int) ∧ (0 : Int) + 0 ≤ p1.toInt ∧ p1.toInt + 0 ≤ ((I0 346 5) - (1 : Int32)).toInt ∧ (0 : Int) + 0 ≤ p2.toInt ∧ (7 : Int) + 1 ≤ p2.toInt ∧ r = (-1000001) ∧ I1 340 4 = I0 340 4 ∧ True) ∨ (dkN [(-1000001, -1000001)] r ∧ dkN [(0, 4)] p0 ∧ dkN [(0, 5)] p1 ∧ dkN [(0, 7)] p2 ∧ dkN [(-2147483648, 0)] p4 ∧ ((I0 346 4) - (1 : Int32)).toInt = (I0 346 4).toInt - (1 : Int) ∧ (0 : Int) + 0 ≤ p0.toInt ∧ p0.toInt + 0 ≤ ((I0 346 4) - (1 : Int32)).toInt ∧ ((I0 346 5) - (1 : Int32)).toInt = (I0 346 5).toInt - (1 : Int) ∧ (0 : Int) + 0 ≤ p1.toInt ∧ p1.toInt + 0 ≤ ((I0 346 5) - (1 : Int32)).toInt ∧ (0 : Int) + 0 ≤ p2.toInt ∧ p2.toInt + 0 ≤ (7 : Int) ∧ p4.toInt + 1 ≤ (1 : Int) ∧ r = (-1000001) ∧ I1 340 4 = I0 340 4 ∧ True) ∨ (dkN [(-1000001, -1000001)] r ∧ dkN [(0, 4)] p0 ∧ dkN [(0, 5)] p1 ∧ dkN [(0, 7)] p2 ∧ dkN [(13, 2147483647)] p4 ∧ ((I0 346 4) - (1 : Int32)).toInt = (I0 346 4).toInt - (1 : Int) ∧ (0 : Int) + 0 ≤ p0.toInt ∧ p0.toInt + 0 ≤ ((I0 346 4) - (1 : Int32)).toInt ∧ ((I0 346 5) - (1 : Int32)).toInt = (I0 346 5).toInt - (1 : Int) ∧ (0 : Int) + 0 ≤ p1.toInt ∧ p1.toInt + 0 ≤ ((I0 346 5) - (1 : Int32)).toInt ∧ (0 : Int) + 0 ≤ p2.toInt ∧ p2.toInt + 0 ≤ (7 : Int) ∧ (1 : Int) + 0 ≤ p4.toInt ∧ (12 : Int) + 1 ≤ p4.toInt ∧ r = (-1000001) ∧ I1 340 4 = I0 340 4 ∧ True) ∨ (dkN [(-1000001, -1000001)] r ∧ dkN [(0, 4)] p0 ∧ dkN [(0, 5)] p1 ∧ dkN [(0, 7)] p2 ∧ dkN [(1, 12)] p4 ∧ dkN [(-2147483648, -1)] p5 ∧ ((I0 346 4) - (1 : Int32)).toInt = (I0 346 4).toInt - (1 : Int) ∧ (0 : Int) + 0 ≤ p0.toInt ∧ p0.toInt + 0 ≤ ((I0 346 4) - (1 : Int32)).toInt ∧ ((I0 346 5) - (1 : Int32)).toInt = (I0 346 5).toInt - (1 : Int) ∧ (0 : Int) + 0 ≤ p1.toInt ∧ p1.toInt + 0 ≤ ((I0 346 5) - (1 : Int32)).toInt ∧ (0 : Int) + 0 ≤ p2.toInt ∧ p2.toInt + 0 ≤ (7 : Int) ∧ (1 : Int) + 0 ≤ p4.toInt ∧ p4.toInt + 0 ≤ (12 : Int) ∧ p5.toInt + 1 ≤ (0 : Int) ∧ r = (-1000001) ∧ I1 340 4 = I0 340 4 ∧ True) ∨ (dkN [(-1000001, -1000001)] r ∧ dkN [(0, 4)] p0 ∧ dkN [(0, 5)] p1 ∧ dkN [(0, 7)] p2 ∧ dkN [(1, 12)] p4 ∧ dkN [(2, 2147483647)] p5 ∧ ((I0 346 4) - (1 : Int32)).toInt = (I0 346 4).toInt - (1 : Int) ∧ (0 : Int) + 0 ≤ p0.toInt ∧ p0.toInt + 0 ≤ ((I0 346 4) - (1 : Int32)).toInt ∧ ((I0 346 5) - (1 : Int32)).toInt = (I0 346 5).toInt - (1 : Int) ∧ (0 : Int) + 0 ≤ p1.toInt ∧ p1.toInt + 0 ≤ ((I0 346 5) - (1 : Int32)).toInt ∧ (0 : Int) + 0 ≤ p2.toInt ∧ p2.toInt + 0 ≤ (7 : Int) ∧ (1 : Int) + 0 ≤ p4.toInt ∧ p4.toInt + 0 ≤ (12 : Int) ∧ (0 : Int) + 0 ≤ p5.toInt ∧ (1 : Int) + 1 ≤ p5.toInt ∧ r = (-1000001) ∧ I1 340 4 = I0 340 4 ∧ True) ∨ (dkN [(-1000012, -1000012)] r ∧ dkN [(0, 4)] p0 ∧ dkN [(0, 5)] p1 ∧ dkN [(0, 7)] p2 ∧ dkN [(-2147483648, -1)] p3 ∧ dkN [(1, 12)] p4 ∧ dkN [(0, 1)] p5 ∧ dkN [(2, 2)] (I1 340 4) ∧ ((I0 346 4) - (1 : Int32)).toInt = (I0 346 4).toInt - (1 : Int) ∧ (0 : Int) + 0 ≤ p0.toInt ∧ p0.toInt + 0 ≤ ((I0 346 4) - (1 : Int32)).toInt ∧ ((I0 346 5) - (1 : Int32)).toInt = (I0 346 5).toInt - (1 : Int) ∧ (0 : Int) + 0 ≤ p1.toInt ∧ p1.toInt + 0 ≤ ((I0 346 5) - (1 : Int32)).toInt ∧ (0 : Int) + 0 ≤ p2.toInt ∧ p2.toInt + 0 ≤ (7 : Int) ∧ (1 : Int) + 0 ≤ p4.toInt ∧ p4.toInt + 0 ≤ (12 : Int) ∧ (0 : Int) + 0 ≤ p5.toInt ∧ p5.toInt + 0 ≤ (1 : Int) ∧ (I0 341 (Int32.toNatClampNeg p2)).toInt ≠ (-1000000 : Int) ∧ p3.toInt + 1 ≤ (0 : Int) ∧ ((-1000010 : Int32) - (2 : Int32)).toInt = (-1000010 : Int) - (2 : Int) ∧ r = (-1000010 : Int32) - (2 : Int32) ∧ I1 340 4 = 2 ∧ True) ∨ (dkN [(-1000012, -1000012)] r ∧ dkN [(0, 4)] p0 ∧ dkN [(0, 5)] p1 ∧ dkN [(0, 7)] p2 ∧ dkN [(1, 2147483647)] p3 ∧ dkN [(1, 12)] p4 ∧ dkN [(0, 1)] p5 ∧ dkN [(2, 2)] (I1 340 4) ∧ ((I0 346 4) - (1 : Int32)).toInt = (I0 346 4).toInt - (1 : Int) ∧ (0 : Int) + 0 ≤ p0.toInt ∧ p0.toInt + 0 ≤ ((I0 346 4) - (1 : Int32)).toInt ∧ ((I0 346 5) - (1 : Int32)).toInt = (I0 346 5).toInt - (1 : Int) ∧ (0 : Int) + 0 ≤ p1.toInt ∧ p1.toInt + 0 ≤ ((I0 346 5) - (1 : Int32)).toInt ∧ (0 : Int) + 0 ≤ p2.toInt ∧ p2.toInt + 0 ≤ (7 : Int) ∧ (1 : Int) + 0 ≤ p4.toInt ∧ p4.toInt + 0 ≤ (12 : Int) ∧ (0 : Int) + 0 ≤ p5.toInt ∧ p5.toInt + 0 ≤ (1 : Int) ∧ (I0 341 (Int32.toNatClampNeg p2)).toInt ≠ (-1000000 : Int) ∧ (0 : Int) + 0 ≤ p3.toInt ∧ (0 : Int) + 0 ≤ p4.toInt ∧ (I0 342 (Int32.toNatClampNeg p2)).toInt + 1 ≤ p3.toInt ∧ ((-1000010 : Int32) - (2 : Int32)).toInt = (-1000010 : Int) - (2 : Int) ∧ r = (-1000010 : Int32) - (2 : Int32) ∧ I1 340 4 = 2 ∧ True) ∨ (dkN [(-1000012, -1000012)] r ∧ dkN [(0, 4)] p0 ∧ dkN [(0, 5)] p1 ∧ dkN [(0, 7)] p2 ∧ dkN [(0, 40)] p3 ∧ dkN [(1, 12)] p4 ∧ dkN [(0, 1)] p5 ∧ dkN [(2, 2)] (I1 340 4) ∧ ((I0 346 4) - (1 : Int32)).toInt = (I0 346 4).toInt - (1 : Int) ∧ (0 : Int) + 0 ≤ p0.toInt ∧ p0.toInt + 0 ≤ ((I0 346 4) - (1 : Int32)).toInt ∧ ((I0 346 5) - (1 : Int32)).toInt = (I0 346 5).toInt - (1 : Int) ∧ (0 : Int) + 0 ≤ p1.toInt ∧ p1.toInt + 0 ≤ ((I0 346 5) - (1 : Int32)).toInt ∧ (0 : Int) + 0 ≤ p2.toInt ∧ p2.toInt + 0 ≤ (7 : Int) ∧ (1 : Int) + 0 ≤ p4.toInt ∧ p4.toInt + 0 ≤ (12 : Int) ∧ (0 : Int) + 0 ≤ p5.toInt ∧ p5.toInt + 0 ≤ (1 : Int) ∧ (I0 341 (Int32.toNatClampNeg p2)).toInt ≠ (-1000000 : Int) ∧ (0 : Int) + 0 ≤ p3.toInt ∧ (0 : Int) + 0 ≤ p4.toInt ∧ p3.toInt + 0 ≤ (I0 342 (Int32.toNatClampNeg p2)).toInt ∧ ((I0 342 (Int32.toNatClampNeg p2)) - p3).toInt = (I0 342 (Int32.toNatClampNeg p2)).toInt - p3.toInt ∧ ((I0 342 (Int32.toNatClampNeg p2)) - p3).toInt + 1 ≤ p4.toInt ∧ ((-1000010 : Int32) - (2 : Int32)).toInt = (-1000010 : Int) - (2 : Int) ∧ r = (-1000010 : Int32) - (2 : Int32) ∧ I1 340 4 = 2 ∧ True) ∨ (True ∧ dkN [(0, 4)] p0 ∧ dkN [(0, 5)] p1 ∧ dkN [(0, 7)] p2 ∧ dkN [(0, 40)] p3 ∧ dkN [(1, 12)] p4 ∧ dkN [(1, 1)] p5 ∧ dkN [(0, 0)] (I1 340 4) ∧ ((I0 346 4) - (1 : Int32)).toInt = (I0 346 4).toInt - (1 : Int) ∧ (0 : Int) + 0 ≤ p0.toInt ∧ p0.toInt + 0 ≤ ((I0 346 4) - (1 : Int32)).toInt ∧ ((I0 346 5) - (1 : Int32)).toInt = (I0 346 5).toInt - (1 : Int) ∧ (0 : Int) + 0 ≤ p1.toInt ∧ p1.toInt + 0 ≤ ((I0 346 5) - (1 : Int32)).toInt ∧ (0 : Int) + 0 ≤ p2.toInt ∧ p2.toInt + 0 ≤ (7 : Int) ∧ (1 : Int) + 0 ≤ p4.toInt ∧ p4.toInt + 0 ≤ (12 : Int) ∧ (0 : Int) + 0 ≤ p5.toInt ∧ p5.toInt + 0 ≤ (1 : Int) ∧ (I0 341 (Int32.toNatClampNeg p2)).toInt ≠ (-1000000 : Int) ∧ (0 : Int) + 0 ≤ p3.toInt ∧ (0 : Int) + 0 ≤ p4.toInt ∧ p3.toInt + 0 ≤ (I0 342 (Int32.toNatClampNeg p2)).toInt ∧ ((I0 342 (Int32.toNatClampNeg p2)) - p3).toInt = (I0 342 (Int32.toNatClampNeg p2)).toInt - p3.toInt ∧ p4.toInt + 0 ≤ ((I0 342 (Int32.toNatClampNeg p2)) - p3).toInt ∧ ((40 : Int32) * p2).toInt = (40 : Int) * p2.toInt ∧ (((40 : Int32) * p2) + p3).toInt = ((40 : Int32) * p2).toInt + p3.toInt ∧ ((6 : Int32) * p0).toInt = (6 : Int) * p0.toInt ∧ ((6 : Int32) + ((6 : Int32) * p0)).toInt = (6 : Int) + ((6 : Int32) * p0).toInt ∧ p5.toInt ≠ (0 : Int) ∧ (((6 : Int32) + ((6 : Int32) * p0)) + (2 : Int32)).toInt = ((6 : Int32) + ((6 : Int32) * p0)).toInt + (2 : Int) ∧ I1 340 4 = 0 ∧ True) ∨ (True ∧ dkN [(0, 4)] p0 ∧ dkN [(0, 5)] p1 ∧ dkN [(0, 7)] p2 ∧ dkN [(0, 40)] p3 ∧ dkN [(1, 12)] p4 ∧ dkN [(0, 0)] p5 ∧ dkN [(0, 0)] (I1 340 4) ∧ ((I0 346 4) - (1 : Int32)).toInt = (I0 346 4).toInt - (1 : Int) ∧ (0 : Int) + 0 ≤ p0.toInt ∧ p0.toInt + 0 ≤ ((I0 346 4) - (1 : Int32)).toInt ∧ ((I0 346 5) - (1 : Int32)).toInt = (I0 346 5).toInt - (1 : Int) ∧ (0 : Int) + 0 ≤ p1.toInt ∧ p1.toInt + 0 ≤ ((I0 346 5) - (1 : Int32)).toInt ∧ (0 : Int) + 0 ≤ p2.toInt ∧ p2.toInt + 0 ≤ (7 : Int) ∧ (1 : Int) + 0 ≤ p4.toInt ∧ p4.toInt + 0 ≤ (12 : Int) ∧ (0 : Int) + 0 ≤ p5.toInt ∧ p5.toInt + 0 ≤ (1 : Int) ∧ (I0 341 (Int32.toNatClampNeg p2)).toInt ≠ (-1000000 : Int) ∧ (0 : Int) + 0 ≤ p3.toInt ∧ (0 : Int) + 0 ≤ p4.toInt ∧ p3.toInt + 0 ≤ (I0 342 (Int32.toNatClampNeg p2)).toInt ∧ ((I0 342 (Int32.toNatClampNeg p2)) - p3).toInt = (I0 342 (Int32.toNatClampNeg p2)).toInt - p3.toInt ∧ p4.toInt + 0 ≤ ((I0 342 (Int32.toNatClampNeg p2)) - p3).toInt ∧ ((40 : Int32) * p2).toInt = (40 : Int) * p2.toInt ∧ (((40 : Int32) * p2) + p3).toInt = ((40 : Int32) * p2).toInt + p3.toInt ∧ ((6 : Int32) * p0).toInt = (6 : Int) * p0.toInt ∧ ((6 : Int32) + ((6 : Int32) * p0)).toInt = (6 : Int) + ((6 : Int32) * p0).toInt ∧ p5.toInt = (0 : Int) ∧ (((6 : Int32) + ((6 : Int32) * p0)) + (1 : Int32)).toInt = ((6 : Int32) + ((6 : Int32) * p0)).toInt + (1 : Int) ∧ I1 340 4 = 0 ∧ True) ∨ (dkN [(-1000011, -1000011)] r ∧ dkN [(0, 4)] p0 ∧ dkN [(0, 5)] p1 ∧ dkN [(0, 7)] p2 ∧ dkN [(1, 12)] p4 ∧ dkN [(0, 1)] p5 ∧ dkN [(1, 1)] (I1 340 4) ∧ ((I0 346 4) - (1 : Int32)).toInt = (I0 346 4).toInt - (1 : Int) ∧ (0 : Int) + 0 ≤ p0.toInt ∧ p0.toInt + 0 ≤ ((I0 346 4) - (1 : Int32)).toInt ∧ ((I0 346 5) - (1 : Int32)).toInt = (I0 346 5).toInt - (1 : Int) ∧ (0 : Int) + 0 ≤ p1.toInt ∧ p1.toInt + 0 ≤ ((I0 346 5) - (1 : Int32)).toInt ∧ (0 : Int) + 0 ≤ p2.toInt ∧ p2.toInt + 0 ≤ (7 : Int) ∧ (1 : Int) + 0 ≤ p4.toInt ∧ p4.toInt + 0 ≤ (12 : Int) ∧ (0 : Int) + 0 ≤ p5.toInt ∧ p5.toInt + 0 ≤ (1 : Int) ∧ (I0 341 (Int32.toNatClampNeg p2)).toInt = (-1000000 : Int) ∧ ((-1000010 : Int32) - (1 : Int32)).toInt = (-1000010 : Int) - (1 : Int) ∧ r = (-1000010 : Int32) - (1 : Int32) ∧ I1 340 4 = 1 ∧ True)))) 0 0 (dkA z) := by
  refine Met.ofW (cc := cX6_suits) (maxL := 7) (ret := (some .int)) (by decide) rfl ?_
  intro p e s m args below meth c s₁ B hml hv
  obtain ⟨ha, hW, hK, hT⟩ := hv
  have hx := B.exec
  have hb := B.bytes
  have hr := B.returns
  have hts := atoms_spec (ws := wsX6_suits) B.pre
  have hown : s.vm.findClass RX6 = some m.cls := findClass_of_methodNamed B.named
  have hlocks := B.notSynchronized
  have hS : va_S (dkA z) s.heap s.heap [] := va_S.rf
  have hF : dkF [(340, 340, 4, 4), (348, 348, 0, 53)] I0 I0 := dkF_rf _ _
  have hl := lv_entry ([.ref (z + 340), .int p0, .int p1, .int p2, .int p3, .int p4, .int p5]) (n := 7) (Nat.le_of_ble_eq_true rfl)
  have hgo : entryFrame m args 7 = entryFrame m ([.ref (z + 340), .int p0, .int p1, .int p2, .int p3, .int p4, .int p5] : List Value).toArray 7 := by rw [ha]
  rw [hgo, lg_entry_eq]
  generalize (lg_sl ([.ref (z + 340), .int p0, .int p1, .int p2, .int p3, .int p4, .int p5]) ++ List.replicate (7 - (lg_sl ([.ref (z + 340), .int p0, .int p1, .int p2, .int p3, .int p4, .int p5])).length) Slot.unset).toArray = ls at hl ⊢
  have hl : lv_has ls 7 [(0, .ref (z + 340)), (1, .int p0), (2, .int p1), (3, .int p2), (4, .int p3), (5, .int p4), (6, .int p5)] := hl
  refine lv_aload_n hx hb dX6_suits_0 rfl (lv_at hl 0 rfl) ?_
  refine lv_iload_n hx hb dX6_suits_1 rfl (lv_at hl 1 rfl) ?_
  refine dk_Vi (As := [.int p0]) (rest := []) ⟨hx, hb, hml, hown, hts⟩ (fx_X6_isPerson_1 l g z I0 p0 hO) (cwV 1 hts gX6_suits_X6_isPerson rfl rfl rfl (by decide +kernel) ⟨Nat.le_of_ble_eq_true rfl, Nat.le_of_ble_eq_true rfl⟩) (dk_at340 hW) rfl hK hT hW hS rfl hl.1 rfl (Nat.le_of_ble_eq_true rfl) dX6_suits_2 ⟨Nat.zero_le _, Nat.zero_le _⟩ (fun v1 I1 H1 L1 hp1 hW hS => ?_)
  obtain ⟨hF1, hO, hc1⟩ := hp1
  have hF := dkF_call hF hF1 rfl
  have eI1 : I0 = I1 := (dkF_nil hF1).symm
  subst eI1
  rcases hc1 with ⟨dv1, a1_0, x1_0, x1_1, xr1, -⟩ | hc1
  ·
    have q2 : ((I0 346 4) - (1 : Int32)).toInt = (I0 346 4).toInt - (1 : Int) := x1_0
    have q3 : p0.toInt + 1 ≤ (0 : Int) := x1_1
    have xv1 : v1 = 0 := by have h := xr1; exact h
    have d4 : dkN [(-2147483648, -1)] p0 := dkN_eq1 (dkN_top p0) a1_0 rfl rfl
    refine lv_if_eq (tgt := 44) hx hb dX6_suits_5 (by decide) (fun c5 => ?_) (fun c5 => ?_)
    ·
      refine lv_ldc (v := (-1000001)) hx hb hown (hts (.constant RX6 64 (-1000001)) (List.mem_of_getElem? (i := 1) rfl)) dX6_suits_44 ?_
      exact W.iret (v := (-1000001)) hx hb hr (fun t ht hW9 => ⟨⟨(-1000001), I0, rfl, ⟨hF, hO, Or.inl ⟨dkN_sub (dkN_lit (x := (-1000001)) (-1000001) rfl) rfl, dkN_sub d4 rfl, q2, q3, rfl, rfl, trivial⟩⟩, dkW_eq ht hW⟩, hS.F ht⟩) hS.2.2 dX6_suits_46
    ·
      exact absurd ((xv1).trans (rfl).symm) c5
  rcases hc1 with ⟨dv1, a1_0, x1_0, x1_1, x1_2, xr1, -⟩ | hc1
  ·
    have q6 : ((I0 346 4) - (1 : Int32)).toInt = (I0 346 4).toInt - (1 : Int) := x1_0
    have q7 : (0 : Int) + 0 ≤ p0.toInt := x1_1
    have q8 : ((I0 346 4) - (1 : Int32)).toInt + 1 ≤ p0.toInt := x1_2
    have xv1 : v1 = 0 := by have h := xr1; exact h
    have d9 : dkN [(0, 2147483647)] p0 := dkN_eq1 (dkN_top p0) a1_0 rfl rfl
    refine lv_if_eq (tgt := 44) hx hb dX6_suits_5 (by decide) (fun c10 => ?_) (fun c10 => ?_)
    ·
      refine lv_ldc (v := (-1000001)) hx hb hown (hts (.constant RX6 64 (-1000001)) (List.mem_of_getElem? (i := 1) rfl)) dX6_suits_44 ?_
      exact W.iret (v := (-1000001)) hx hb hr (fun t ht hW9 => ⟨⟨(-1000001), I0, rfl, ⟨hF, hO, Or.inr (Or.inl ⟨dkN_sub (dkN_lit (x := (-1000001)) (-1000001) rfl) rfl, dkN_sub d9 rfl, q6, q7, q8, rfl, rfl, trivial⟩)⟩, dkW_eq ht hW⟩, hS.F ht⟩) hS.2.2 dX6_suits_46
    ·
      exact absurd ((xv1).trans (rfl).symm) c10
  ·
    obtain ⟨dv1, a1_0, x1_0, x1_1, x1_2, xr1, -⟩ := hc1
    have q11 : ((I0 346 4) - (1 : Int32)).toInt = (I0 346 4).toInt - (1 : Int) := x1_0
    have q12 : (0 : Int) + 0 ≤ p0.toInt := x1_1
    have q13 : p0.toInt + 0 ≤ ((I0 346 4) - (1 : Int32)).toInt := x1_2
    have xv1 : v1 = 1 := by have h := xr1; exact h
    have d14 : dkN [(0, 4)] p0 := dkN_eq1 (dkN_top p0) a1_0 rfl rfl
    refine lv_if_eq (tgt := 44) hx hb dX6_suits_5 (by decide) (fun c15 => ?_) (fun c15 => ?_)
    ·
      exact (dkN_nil (show dkN [] v1 from dkN_eq1 dv1 (dkN_lit (x := 0) (0) rfl) (congrArg Int32.toInt c15) rfl)).elim
    ·
      refine lv_aload_n hx hb dX6_suits_8 rfl (lv_at hl 0 rfl) ?_
      refine lv_iload_n hx hb dX6_suits_9 rfl (lv_at hl 2 rfl) ?_
      refine dk_Vi (As := [.int p1]) (rest := []) ⟨hx, hb, hml, hown, hts⟩ (fx_X6_isDog_1 l g z I0 p1 hO) (cwV 1 hts gX6_suits_X6_isDog rfl rfl rfl (by decide +kernel) ⟨Nat.le_of_ble_eq_true rfl, Nat.le_of_ble_eq_true rfl⟩) (dk_at340 hW) rfl hK hT hW hS rfl hl.1 rfl (Nat.le_of_ble_eq_true rfl) dX6_suits_10 ⟨Nat.zero_le _, Nat.zero_le _⟩ (fun v16 I16 H16 L16 hp16 hW hS => ?_)
      obtain ⟨hF16, hO, hc16⟩ := hp16
      have hF := dkF_call hF hF16 rfl
      have eI16 : I0 = I16 := (dkF_nil hF16).symm
      subst eI16
      rcases hc16 with ⟨dv16, a16_0, x16_0, x16_1, xr16, -⟩ | hc16
      ·
        have q17 : ((I0 346 5) - (1 : Int32)).toInt = (I0 346 5).toInt - (1 : Int) := x16_0
        have q18 : p1.toInt + 1 ≤ (0 : Int) := x16_1
        have xv16 : v16 = 0 := by have h := xr16; exact h
        have d19 : dkN [(-2147483648, -1)] p1 := dkN_eq1 (dkN_top p1) a16_0 rfl rfl
        refine lv_if_eq (tgt := 44) hx hb dX6_suits_13 (by decide) (fun c20 => ?_) (fun c20 => ?_)
        ·
          refine lv_ldc (v := (-1000001)) hx hb hown (hts (.constant RX6 64 (-1000001)) (List.mem_of_getElem? (i := 1) rfl)) dX6_suits_44 ?_
          exact W.iret (v := (-1000001)) hx hb hr (fun t ht hW9 => ⟨⟨(-1000001), I0, rfl, ⟨hF, hO, Or.inr (Or.inr (Or.inl ⟨dkN_sub (dkN_lit (x := (-1000001)) (-1000001) rfl) rfl, dkN_sub d14 rfl, dkN_sub d19 rfl, q11, q12, q13, q17, q18, rfl, rfl, trivial⟩))⟩, dkW_eq ht hW⟩, hS.F ht⟩) hS.2.2 dX6_suits_46
        ·
          exact absurd ((xv16).trans (rfl).symm) c20
      rcases hc16 with ⟨dv16, a16_0, x16_0, x16_1, x16_2, xr16, -⟩ | hc16
      ·
        have q21 : ((I0 346 5) - (1 : Int32)).toInt = (I0 346 5).toInt - (1 : Int) := x16_0
        have q22 : (0 : Int) + 0 ≤ p1.toInt := x16_1
        have q23 : ((I0 346 5) - (1 : Int32)).toInt + 1 ≤ p1.toInt := x16_2
        have xv16 : v16 = 0 := by have h := xr16; exact h
        have d24 : dkN [(0, 2147483647)] p1 := dkN_eq1 (dkN_top p1) a16_0 rfl rfl
        refine lv_if_eq (tgt := 44) hx hb dX6_suits_13 (by decide) (fun c25 => ?_) (fun c25 => ?_)
        ·
          refine lv_ldc (v := (-1000001)) hx hb hown (hts (.constant RX6 64 (-1000001)) (List.mem_of_getElem? (i := 1) rfl)) dX6_suits_44 ?_
          exact W.iret (v := (-1000001)) hx hb hr (fun t ht hW9 => ⟨⟨(-1000001), I0, rfl, ⟨hF, hO, Or.inr (Or.inr (Or.inr (Or.inl ⟨dkN_sub (dkN_lit (x := (-1000001)) (-1000001) rfl) rfl, dkN_sub d14 rfl, dkN_sub d24 rfl, q11, q12, q13, q21, q22, q23, rfl, rfl, trivial⟩)))⟩, dkW_eq ht hW⟩, hS.F ht⟩) hS.2.2 dX6_suits_46
        ·
          exact absurd ((xv16).trans (rfl).symm) c25
      ·
        obtain ⟨dv16, a16_0, x16_0, x16_1, x16_2, xr16, -⟩ := hc16
        have q26 : ((I0 346 5) - (1 : Int32)).toInt = (I0 346 5).toInt - (1 : Int) := x16_0
        have q27 : (0 : Int) + 0 ≤ p1.toInt := x16_1
        have q28 : p1.toInt + 0 ≤ ((I0 346 5) - (1 : Int32)).toInt := x16_2
        have xv16 : v16 = 1 := by have h := xr16; exact h
        have d29 : dkN [(0, 5)] p1 := dkN_eq1 (dkN_top p1) a16_0 rfl rfl
        refine lv_if_eq (tgt := 44) hx hb dX6_suits_13 (by decide) (fun c30 => ?_) (fun c30 => ?_)
        ·
          exact (dkN_nil (show dkN [] v16 from dkN_eq1 dv16 (dkN_lit (x := 0) (0) rfl) (congrArg Int32.toInt c30) rfl)).elim
        ·
          refine lv_iload_n hx hb dX6_suits_16 rfl (lv_at hl 3 rfl) ?_
          refine dk_Si (As := [.int p2]) (rest := []) ⟨hx, hb, hml, hown, hts⟩ (fx_X6_isRow_1 l g z I0 p2 hO) (va_cwS 1 hts gX6_suits_X6_isRow rfl rfl rfl (by decide +kernel) ⟨Nat.le_of_ble_eq_true rfl, Nat.le_of_ble_eq_true rfl⟩) hK hT hW hS rfl hl.1 rfl (Nat.le_of_ble_eq_true rfl) dX6_suits_17 ⟨Nat.zero_le _, Nat.zero_le _⟩ (fun v31 I31 H31 L31 hp31 hW hS => ?_)
          obtain ⟨hF31, hO, hc31⟩ := hp31
          have hF := dkF_call hF hF31 rfl
          have eI31 : I0 = I31 := (dkF_nil hF31).symm
          subst eI31
          rcases hc31 with ⟨dv31, a31_0, x31_0, xr31, -⟩ | hc31
          ·
            have q32 : p2.toInt + 1 ≤ (0 : Int) := x31_0
            have xv31 : v31 = 0 := by have h := xr31; exact h
            have d33 : dkN [(-2147483648, -1)] p2 := dkN_eq1 (dkN_top p2) a31_0 rfl rfl
            refine lv_if_eq (tgt := 44) hx hb dX6_suits_20 (by decide) (fun c34 => ?_) (fun c34 => ?_)
            ·
              refine lv_ldc (v := (-1000001)) hx hb hown (hts (.constant RX6 64 (-1000001)) (List.mem_of_getElem? (i := 1) rfl)) dX6_suits_44 ?_
              exact W.iret (v := (-1000001)) hx hb hr (fun t ht hW9 => ⟨⟨(-1000001), I0, rfl, ⟨hF, hO, Or.inr (Or.inr (Or.inr (Or.inr (Or.inl ⟨dkN_sub (dkN_lit (x := (-1000001)) (-1000001) rfl) rfl, dkN_sub d14 rfl, dkN_sub d29 rfl, dkN_sub d33 rfl, q11, q12, q13, q26, q27, q28, q32, rfl, rfl, trivial⟩))))⟩, dkW_eq ht hW⟩, hS.F ht⟩) hS.2.2 dX6_suits_46
            ·
              exact absurd ((xv31).trans (rfl).symm) c34
          rcases hc31 with ⟨dv31, a31_0, x31_0, x31_1, xr31, -⟩ | hc31
          ·
            have q35 : (0 : Int) + 0 ≤ p2.toInt := x31_0
            have q36 : (7 : Int) + 1 ≤ p2.toInt := x31_1
            have xv31 : v31 = 0 := by have h := xr31; exact h
            have d37 : dkN [(8, 2147483647)] p2 := dkN_eq1 (dkN_top p2) a31_0 rfl rfl
            refine lv_if_eq (tgt := 44) hx hb dX6_suits_20 (by decide) (fun c38 => ?_) (fun c38 => ?_)
            ·
              refine lv_ldc (v := (-1000001)) hx hb hown (hts (.constant RX6 64 (-1000001)) (List.mem_of_getElem? (i := 1) rfl)) dX6_suits_44 ?_
              exact W.iret (v := (-1000001)) hx hb hr (fun t ht hW9 => ⟨⟨(-1000001), I0, rfl, ⟨hF, hO, Or.inr (Or.inr (Or.inr (Or.inr (Or.inr (Or.inl ⟨dkN_sub (dkN_lit (x := (-1000001)) (-1000001) rfl) rfl, dkN_sub d14 rfl, dkN_sub d29 rfl, dkN_sub d37 rfl, q11, q12, q13, q26, q27, q28, q35, q36, rfl, rfl, trivial⟩)))))⟩, dkW_eq ht hW⟩, hS.F ht⟩) hS.2.2 dX6_suits_46
            ·
              exact absurd ((xv31).trans (rfl).symm) c38
          ·
            obtain ⟨dv31, a31_0, x31_0, x31_1, xr31, -⟩ := hc31
            have q39 : (0 : Int) + 0 ≤ p2.toInt := x31_0
            have q40 : p2.toInt + 0 ≤ (7 : Int) := x31_1
            have xv31 : v31 = 1 := by have h := xr31; exact h
            have d41 : dkN [(0, 7)] p2 := dkN_eq1 (dkN_top p2) a31_0 rfl rfl
            refine lv_if_eq (tgt := 44) hx hb dX6_suits_20 (by decide) (fun c42 => ?_) (fun c42 => ?_)
            ·
              exact (dkN_nil (show dkN [] v31 from dkN_eq1 dv31 (dkN_lit (x := 0) (0) rfl) (congrArg Int32.toInt c42) rfl)).elim
            ·
              refine lv_iload hx hb dX6_suits_23 (lv_at hl 5 rfl) ?_
              refine lv_iconst (v := 1) hx hb dX6_suits_25 (by decide) ?_
              refine lv_bipush (v := 12) hx hb dX6_suits_26 (by decide) ?_
              refine dk_Si (As := [.int p4, .int 1, .int 12]) (rest := []) ⟨hx, hb, hml, hown, hts⟩ (fx_X6_in_40 l g z I0 p4 1 12 (dkN_lit (x := 1) (1) rfl) (dkN_lit (x := 12) (12) rfl) hO) (va_cwS 3 hts gX6_suits_X6_in rfl rfl rfl (by decide +kernel) ⟨Nat.le_of_ble_eq_true rfl, Nat.le_of_ble_eq_true rfl⟩) hK hT hW hS rfl hl.1 rfl (Nat.le_of_ble_eq_true rfl) dX6_suits_28 ⟨Nat.zero_le _, Nat.zero_le _⟩ (fun v43 I43 H43 L43 hp43 hW hS => ?_)
              obtain ⟨hF43, hO, hc43⟩ := hp43
              have hF := dkF_call hF hF43 rfl
              have eI43 : I0 = I43 := (dkF_nil hF43).symm
              subst eI43
              rcases hc43 with ⟨dv43, a43_0, x43_0, xr43, -⟩ | hc43
              ·
                have q44 : p4.toInt + 1 ≤ (1 : Int) := x43_0
                have xv43 : v43 = 0 := by have h := xr43; exact h
                have d45 : dkN [(-2147483648, 0)] p4 := dkN_eq1 (dkN_top p4) a43_0 rfl rfl
                refine lv_if_eq (tgt := 44) hx hb dX6_suits_31 (by decide) (fun c46 => ?_) (fun c46 => ?_)
                ·
                  refine lv_ldc (v := (-1000001)) hx hb hown (hts (.constant RX6 64 (-1000001)) (List.mem_of_getElem? (i := 1) rfl)) dX6_suits_44 ?_
                  exact W.iret (v := (-1000001)) hx hb hr (fun t ht hW9 => ⟨⟨(-1000001), I0, rfl, ⟨hF, hO, Or.inr (Or.inr (Or.inr (Or.inr (Or.inr (Or.inr (Or.inl ⟨dkN_sub (dkN_lit (x := (-1000001)) (-1000001) rfl) rfl, dkN_sub d14 rfl, dkN_sub d29 rfl, dkN_sub d41 rfl, dkN_sub d45 rfl, q11, q12, q13, q26, q27, q28, q39, q40, q44, rfl, rfl, trivial⟩))))))⟩, dkW_eq ht hW⟩, hS.F ht⟩) hS.2.2 dX6_suits_46
                ·
                  exact absurd ((xv43).trans (rfl).symm) c46
              rcases hc43 with ⟨dv43, a43_0, x43_0, x43_1, xr43, -⟩ | hc43
              ·
                have q47 : (1 : Int) + 0 ≤ p4.toInt := x43_0
                have q48 : (12 : Int) + 1 ≤ p4.toInt := x43_1
                have xv43 : v43 = 0 := by have h := xr43; exact h
                have d49 : dkN [(13, 2147483647)] p4 := dkN_eq1 (dkN_top p4) a43_0 rfl rfl
                refine lv_if_eq (tgt := 44) hx hb dX6_suits_31 (by decide) (fun c50 => ?_) (fun c50 => ?_)
                ·
                  refine lv_ldc (v := (-1000001)) hx hb hown (hts (.constant RX6 64 (-1000001)) (List.mem_of_getElem? (i := 1) rfl)) dX6_suits_44 ?_
                  exact W.iret (v := (-1000001)) hx hb hr (fun t ht hW9 => ⟨⟨(-1000001), I0, rfl, ⟨hF, hO, Or.inr (Or.inr (Or.inr (Or.inr (Or.inr (Or.inr (Or.inr (Or.inl ⟨dkN_sub (dkN_lit (x := (-1000001)) (-1000001) rfl) rfl, dkN_sub d14 rfl, dkN_sub d29 rfl, dkN_sub d41 rfl, dkN_sub d49 rfl, q11, q12, q13, q26, q27, q28, q39, q40, q47, q48, rfl, rfl, trivial⟩)))))))⟩, dkW_eq ht hW⟩, hS.F ht⟩) hS.2.2 dX6_suits_46
                ·
                  exact absurd ((xv43).trans (rfl).symm) c50
              ·
                obtain ⟨dv43, a43_0, x43_0, x43_1, xr43, -⟩ := hc43
                have q51 : (1 : Int) + 0 ≤ p4.toInt := x43_0
                have q52 : p4.toInt + 0 ≤ (12 : Int) := x43_1
                have xv43 : v43 = 1 := by have h := xr43; exact h
                have d53 : dkN [(1, 12)] p4 := dkN_eq1 (dkN_top p4) a43_0 rfl rfl
                refine lv_if_eq (tgt := 44) hx hb dX6_suits_31 (by decide) (fun c54 => ?_) (fun c54 => ?_)
                ·
                  exact (dkN_nil (show dkN [] v43 from dkN_eq1 dv43 (dkN_lit (x := 0) (0) rfl) (congrArg Int32.toInt c54) rfl)).elim
                ·
                  refine lv_iload hx hb dX6_suits_34 (lv_at hl 6 rfl) ?_
                  refine lv_iconst (v := 0) hx hb dX6_suits_36 (by decide) ?_
                  refine lv_iconst (v := 1) hx hb dX6_suits_37 (by decide) ?_
                  refine dk_Si (As := [.int p5, .int 0, .int 1]) (rest := []) ⟨hx, hb, hml, hown, hts⟩ (fx_X6_in_41 l g z I0 p5 0 1 (dkN_lit (x := 0) (0) rfl) (dkN_lit (x := 1) (1) rfl) hO) (va_cwS 3 hts gX6_suits_X6_in rfl rfl rfl (by decide +kernel) ⟨Nat.le_of_ble_eq_true rfl, Nat.le_of_ble_eq_true rfl⟩) hK hT hW hS rfl hl.1 rfl (Nat.le_of_ble_eq_true rfl) dX6_suits_38 ⟨Nat.zero_le _, Nat.zero_le _⟩ (fun v55 I55 H55 L55 hp55 hW hS => ?_)
                  obtain ⟨hF55, hO, hc55⟩ := hp55
                  have hF := dkF_call hF hF55 rfl
                  have eI55 : I0 = I55 := (dkF_nil hF55).symm
                  subst eI55
                  rcases hc55 with ⟨dv55, a55_0, x55_0, xr55, -⟩ | hc55
                  ·
                    have q56 : p5.toInt + 1 ≤ (0 : Int) := x55_0
                    have xv55 : v55 = 0 := by have h := xr55; exact h
                    have d57 : dkN [(-2147483648, -1)] p5 := dkN_eq1 (dkN_top p5) a55_0 rfl rfl
                    refine lv_if_ne (tgt := 47) hx hb dX6_suits_41 (by decide) (fun c58 => ?_) (fun c58 => ?_)
                    ·
                      exact absurd ((xv55).trans (rfl).symm) c58
                    ·
                      refine lv_ldc (v := (-1000001)) hx hb hown (hts (.constant RX6 64 (-1000001)) (List.mem_of_getElem? (i := 1) rfl)) dX6_suits_44 ?_
                      exact W.iret (v := (-1000001)) hx hb hr (fun t ht hW9 => ⟨⟨(-1000001), I0, rfl, ⟨hF, hO, Or.inr (Or.inr (Or.inr (Or.inr (Or.inr (Or.inr (Or.inr (Or.inr (Or.inl ⟨dkN_sub (dkN_lit (x := (-1000001)) (-1000001) rfl) rfl, dkN_sub d14 rfl, dkN_sub d29 rfl, dkN_sub d41 rfl, dkN_sub d53 rfl, dkN_sub d57 rfl, q11, q12, q13, q26, q27, q28, q39, q40, q51, q52, q56, rfl, rfl, trivial⟩))))))))⟩, dkW_eq ht hW⟩, hS.F ht⟩) hS.2.2 dX6_suits_46
                  rcases hc55 with ⟨dv55, a55_0, x55_0, x55_1, xr55, -⟩ | hc55
                  ·
                    have q59 : (0 : Int) + 0 ≤ p5.toInt := x55_0
                    have q60 : (1 : Int) + 1 ≤ p5.toInt := x55_1
                    have xv55 : v55 = 0 := by have h := xr55; exact h
                    have d61 : dkN [(2, 2147483647)] p5 := dkN_eq1 (dkN_top p5) a55_0 rfl rfl
                    refine lv_if_ne (tgt := 47) hx hb dX6_suits_41 (by decide) (fun c62 => ?_) (fun c62 => ?_)
                    ·
                      exact absurd ((xv55).trans (rfl).symm) c62
                    ·
                      refine lv_ldc (v := (-1000001)) hx hb hown (hts (.constant RX6 64 (-1000001)) (List.mem_of_getElem? (i := 1) rfl)) dX6_suits_44 ?_
                      exact W.iret (v := (-1000001)) hx hb hr (fun t ht hW9 => ⟨⟨(-1000001), I0, rfl, ⟨hF, hO, Or.inr (Or.inr (Or.inr (Or.inr (Or.inr (Or.inr (Or.inr (Or.inr (Or.inr (Or.inl ⟨dkN_sub (dkN_lit (x := (-1000001)) (-1000001) rfl) rfl, dkN_sub d14 rfl, dkN_sub d29 rfl, dkN_sub d41 rfl, dkN_sub d53 rfl, dkN_sub d61 rfl, q11, q12, q13, q26, q27, q28, q39, q40, q51, q52, q59, q60, rfl, rfl, trivial⟩)))))))))⟩, dkW_eq ht hW⟩, hS.F ht⟩) hS.2.2 dX6_suits_46
                  ·
                    obtain ⟨dv55, a55_0, x55_0, x55_1, xr55, -⟩ := hc55
                    have q63 : (0 : Int) + 0 ≤ p5.toInt := x55_0
                    have q64 : p5.toInt + 0 ≤ (1 : Int) := x55_1
                    have xv55 : v55 = 1 := by have h := xr55; exact h
                    have d65 : dkN [(0, 1)] p5 := dkN_eq1 (dkN_top p5) a55_0 rfl rfl
                    refine lv_if_ne (tgt := 47) hx hb dX6_suits_41 (by decide) (fun c66 => ?_) (fun c66 => ?_)
                    ·
                      refine lv_aload_n hx hb dX6_suits_47 rfl (lv_at hl 0 rfl) ?_
                      refine lv_iload_n hx hb dX6_suits_48 rfl (lv_at hl 3 rfl) ?_
                      refine dk_Vi (As := [.int p2]) (rest := []) ⟨hx, hb, hml, hown, hts⟩ (fx_X6_isMissing_1 l g z I0 p2 d41 hO) (cwV 1 hts gX6_suits_X6_isMissing rfl rfl rfl (by decide +kernel) ⟨Nat.le_of_ble_eq_true rfl, Nat.le_of_ble_eq_true rfl⟩) (dk_at340 hW) rfl hK hT hW hS rfl hl.1 rfl (Nat.le_of_ble_eq_true rfl) dX6_suits_49 ⟨Nat.zero_le _, Nat.zero_le _⟩ (fun v67 I67 H67 L67 hp67 hW hS => ?_)
                      obtain ⟨hF67, hO, hc67⟩ := hp67
                      have hF := dkF_call hF hF67 rfl
                      have eI67 : I0 = I67 := (dkF_nil hF67).symm
                      subst eI67
                      rcases hc67 with ⟨dv67, x67_0, xr67, -⟩ | hc67
                      ·
                        have q68 : (I0 341 (Int32.toNatClampNeg p2)).toInt ≠ (-1000000 : Int) := x67_0
                        have xv67 : v67 = 0 := by have h := xr67; exact h
                        refine lv_if_eq (tgt := 61) hx hb dX6_suits_52 (by decide) (fun c69 => ?_) (fun c69 => ?_)
                        ·
                          refine lv_aload_n hx hb dX6_suits_61 rfl (lv_at hl 0 rfl) ?_
                          refine lv_iload_n hx hb dX6_suits_62 rfl (lv_at hl 3 rfl) ?_
                          refine lv_iload hx hb dX6_suits_63 (lv_at hl 4 rfl) ?_
                          refine lv_iload hx hb dX6_suits_65 (lv_at hl 5 rfl) ?_
                          refine dk_Vi (As := [.int p2, .int p3, .int p4]) (rest := []) ⟨hx, hb, hml, hown, hts⟩ (fx_X6_isPart_5 l g z I0 p2 p3 p4 d41 d53 hO) (cwV 3 hts gX6_suits_X6_isPart rfl rfl rfl (by decide +kernel) ⟨Nat.le_of_ble_eq_true rfl, Nat.le_of_ble_eq_true rfl⟩) (dk_at340 hW) rfl hK hT hW hS rfl hl.1 rfl (Nat.le_of_ble_eq_true rfl) dX6_suits_67 ⟨Nat.zero_le _, Nat.zero_le _⟩ (fun v70 I70 H70 L70 hp70 hW hS => ?_)
                          obtain ⟨hF70, hO, hc70⟩ := hp70
                          have hF := dkF_call hF hF70 rfl
                          have eI70 : I0 = I70 := (dkF_nil hF70).symm
                          subst eI70
                          rcases hc70 with ⟨dv70, a70_1, x70_0, xr70, -⟩ | hc70
                          ·
                            have q71 : p3.toInt + 1 ≤ (0 : Int) := x70_0
                            have xv70 : v70 = 0 := by have h := xr70; exact h
                            have d72 : dkN [(-2147483648, -1)] p3 := dkN_eq1 (dkN_top p3) a70_1 rfl rfl
                            refine lv_if_ne (tgt := 79) hx hb dX6_suits_70 (by decide) (fun c73 => ?_) (fun c73 => ?_)
                            ·
                              exact absurd ((xv70).trans (rfl).symm) c73
                            ·
                              refine lv_aload_n hx hb dX6_suits_73 rfl (lv_at hl 0 rfl) ?_
                              refine lv_iconst (v := 2) hx hb dX6_suits_74 (by decide) ?_
                              refine dk_Vi (As := [.int 2]) (rest := []) ⟨hx, hb, hml, hown, hts⟩ (fx_X6_found_7 l g z I0 2 (dkN_lit (x := 2) (2) rfl) hO) (cwV 1 hts gX6_suits_X6_found rfl rfl rfl (by decide +kernel) ⟨Nat.le_of_ble_eq_true rfl, Nat.le_of_ble_eq_true rfl⟩) (dk_at340 hW) rfl hK hT hW hS rfl hl.1 rfl (Nat.le_of_ble_eq_true rfl) dX6_suits_75 ⟨Nat.zero_le _, Nat.zero_le _⟩ (fun v74 I74 H74 L74 hp74 hW hS => ?_)
                              obtain ⟨hF74, hO, hc74⟩ := hp74
                              have hF := dkF_call hF hF74 rfl
                              obtain ⟨dv74, f74_340_4, x74_0, xr74, xh74_0, -⟩ := hc74
                              have q75 : ((-1000010 : Int32) - (2 : Int32)).toInt = (-1000010 : Int) - (2 : Int) := x74_0
                              have y76 : I74 340 4 = 2 := by have h := xh74_0; exact h
                              have xv74 : v74 = (-1000010 : Int32) - (2 : Int32) := by have h := xr74; exact h
                              exact W.iret (v := v74) hx hb hr (fun t ht hW9 => ⟨⟨v74, I74, rfl, ⟨hF, hO, Or.inr (Or.inr (Or.inr (Or.inr (Or.inr (Or.inr (Or.inr (Or.inr (Or.inr (Or.inr (Or.inl ⟨dkN_sub dv74 rfl, dkN_sub d14 rfl, dkN_sub d29 rfl, dkN_sub d41 rfl, dkN_sub d72 rfl, dkN_sub d53 rfl, dkN_sub d65 rfl, (show dkN [(2, 2)] (I74 340 4) from dkN_sub f74_340_4 rfl), q11, q12, q13, q26, q27, q28, q39, q40, q51, q52, q63, q64, q68, q71, q75, xv74, y76, trivial⟩))))))))))⟩, dkW_eq ht hW⟩, hS.F ht⟩) hS.2.2 dX6_suits_78
                          rcases hc70 with ⟨dv70, a70_1, x70_0, x70_1, x70_2, xr70, -⟩ | hc70
                          ·
                            have q77 : (0 : Int) + 0 ≤ p3.toInt := x70_0
                            have q78 : (0 : Int) + 0 ≤ p4.toInt := x70_1
                            have q79 : (I0 342 (Int32.toNatClampNeg p2)).toInt + 1 ≤ p3.toInt := x70_2
                            have xv70 : v70 = 0 := by have h := xr70; exact h
                            have d80 : dkN [(1, 2147483647)] p3 := dkN_eq1 (dkN_top p3) a70_1 rfl rfl
                            refine lv_if_ne (tgt := 79) hx hb dX6_suits_70 (by decide) (fun c81 => ?_) (fun c81 => ?_)
                            ·
                              exact absurd ((xv70).trans (rfl).symm) c81
                            ·
                              refine lv_aload_n hx hb dX6_suits_73 rfl (lv_at hl 0 rfl) ?_
                              refine lv_iconst (v := 2) hx hb dX6_suits_74 (by decide) ?_
                              refine dk_Vi (As := [.int 2]) (rest := []) ⟨hx, hb, hml, hown, hts⟩ (fx_X6_found_7 l g z I0 2 (dkN_lit (x := 2) (2) rfl) hO) (cwV 1 hts gX6_suits_X6_found rfl rfl rfl (by decide +kernel) ⟨Nat.le_of_ble_eq_true rfl, Nat.le_of_ble_eq_true rfl⟩) (dk_at340 hW) rfl hK hT hW hS rfl hl.1 rfl (Nat.le_of_ble_eq_true rfl) dX6_suits_75 ⟨Nat.zero_le _, Nat.zero_le _⟩ (fun v82 I82 H82 L82 hp82 hW hS => ?_)
                              obtain ⟨hF82, hO, hc82⟩ := hp82
                              have hF := dkF_call hF hF82 rfl
                              obtain ⟨dv82, f82_340_4, x82_0, xr82, xh82_0, -⟩ := hc82
                              have q83 : ((-1000010 : Int32) - (2 : Int32)).toInt = (-1000010 : Int) - (2 : Int) := x82_0
                              have y84 : I82 340 4 = 2 := by have h := xh82_0; exact h
                              have xv82 : v82 = (-1000010 : Int32) - (2 : Int32) := by have h := xr82; exact h
                              exact W.iret (v := v82) hx hb hr (fun t ht hW9 => ⟨⟨v82, I82, rfl, ⟨hF, hO, Or.inr (Or.inr (Or.inr (Or.inr (Or.inr (Or.inr (Or.inr (Or.inr (Or.inr (Or.inr (Or.inr (Or.inl ⟨dkN_sub dv82 rfl, dkN_sub d14 rfl, dkN_sub d29 rfl, dkN_sub d41 rfl, dkN_sub d80 rfl, dkN_sub d53 rfl, dkN_sub d65 rfl, (show dkN [(2, 2)] (I82 340 4) from dkN_sub f82_340_4 rfl), q11, q12, q13, q26, q27, q28, q39, q40, q51, q52, q63, q64, q68, q77, q78, q79, q83, xv82, y84, trivial⟩)))))))))))⟩, dkW_eq ht hW⟩, hS.F ht⟩) hS.2.2 dX6_suits_78
                          rcases hc70 with ⟨dv70, a70_1, x70_0, x70_1, x70_2, x70_3, x70_4, xr70, -⟩ | hc70
                          ·
                            have q85 : (0 : Int) + 0 ≤ p3.toInt := x70_0
                            have q86 : (0 : Int) + 0 ≤ p4.toInt := x70_1
                            have q87 : p3.toInt + 0 ≤ (I0 342 (Int32.toNatClampNeg p2)).toInt := x70_2
                            have q88 : ((I0 342 (Int32.toNatClampNeg p2)) - p3).toInt = (I0 342 (Int32.toNatClampNeg p2)).toInt - p3.toInt := x70_3
                            have q89 : ((I0 342 (Int32.toNatClampNeg p2)) - p3).toInt + 1 ≤ p4.toInt := x70_4
                            have xv70 : v70 = 0 := by have h := xr70; exact h
                            have d90 : dkN [(0, 40)] p3 := dkN_eq1 (dkN_top p3) a70_1 rfl rfl
                            refine lv_if_ne (tgt := 79) hx hb dX6_suits_70 (by decide) (fun c91 => ?_) (fun c91 => ?_)
                            ·
                              exact absurd ((xv70).trans (rfl).symm) c91
                            ·
                              refine lv_aload_n hx hb dX6_suits_73 rfl (lv_at hl 0 rfl) ?_
                              refine lv_iconst (v := 2) hx hb dX6_suits_74 (by decide) ?_
                              refine dk_Vi (As := [.int 2]) (rest := []) ⟨hx, hb, hml, hown, hts⟩ (fx_X6_found_7 l g z I0 2 (dkN_lit (x := 2) (2) rfl) hO) (cwV 1 hts gX6_suits_X6_found rfl rfl rfl (by decide +kernel) ⟨Nat.le_of_ble_eq_true rfl, Nat.le_of_ble_eq_true rfl⟩) (dk_at340 hW) rfl hK hT hW hS rfl hl.1 rfl (Nat.le_of_ble_eq_true rfl) dX6_suits_75 ⟨Nat.zero_le _, Nat.zero_le _⟩ (fun v92 I92 H92 L92 hp92 hW hS => ?_)
                              obtain ⟨hF92, hO, hc92⟩ := hp92
                              have hF := dkF_call hF hF92 rfl
                              obtain ⟨dv92, f92_340_4, x92_0, xr92, xh92_0, -⟩ := hc92
                              have q93 : ((-1000010 : Int32) - (2 : Int32)).toInt = (-1000010 : Int) - (2 : Int) := x92_0
                              have y94 : I92 340 4 = 2 := by have h := xh92_0; exact h
                              have xv92 : v92 = (-1000010 : Int32) - (2 : Int32) := by have h := xr92; exact h
                              exact W.iret (v := v92) hx hb hr (fun t ht hW9 => ⟨⟨v92, I92, rfl, ⟨hF, hO, Or.inr (Or.inr (Or.inr (Or.inr (Or.inr (Or.inr (Or.inr (Or.inr (Or.inr (Or.inr (Or.inr (Or.inr (Or.inl ⟨dkN_sub dv92 rfl, dkN_sub d14 rfl, dkN_sub d29 rfl, dkN_sub d41 rfl, dkN_sub d90 rfl, dkN_sub d53 rfl, dkN_sub d65 rfl, (show dkN [(2, 2)] (I92 340 4) from dkN_sub f92_340_4 rfl), q11, q12, q13, q26, q27, q28, q39, q40, q51, q52, q63, q64, q68, q85, q86, q87, q88, q89, q93, xv92, y94, trivial⟩))))))))))))⟩, dkW_eq ht hW⟩, hS.F ht⟩) hS.2.2 dX6_suits_78
                          ·
                            obtain ⟨dv70, a70_1, q70_0, x70_0, x70_1, x70_2, x70_3, x70_4, xr70, -⟩ := hc70
                            have q95 : (0 : Int) + 0 ≤ p3.toInt := x70_0
                            have q96 : (0 : Int) + 0 ≤ p4.toInt := x70_1
                            have q97 : p3.toInt + 0 ≤ (I0 342 (Int32.toNatClampNeg p2)).toInt := x70_2
                            have q98 : ((I0 342 (Int32.toNatClampNeg p2)) - p3).toInt = (I0 342 (Int32.toNatClampNeg p2)).toInt - p3.toInt := x70_3
                            have q99 : p4.toInt + 0 ≤ ((I0 342 (Int32.toNatClampNeg p2)) - p3).toInt := x70_4
                            have xv70 : v70 = 1 := by have h := xr70; exact h
                            have d100 : dkN [(0, 40)] p3 := dkN_eq1 (dkN_top p3) a70_1 rfl rfl
                            refine lv_if_ne (tgt := 79) hx hb dX6_suits_70 (by decide) (fun c101 => ?_) (fun c101 => ?_)
                            ·
                              refine lv_aload_n hx hb dX6_suits_79 rfl (lv_at hl 0 rfl) ?_
                              refine lv_aload_n hx hb dX6_suits_80 rfl (lv_at hl 0 rfl) ?_
                              refine lv_iload_n hx hb dX6_suits_81 rfl (lv_at hl 2 rfl) ?_
                              refine lv_bipush (v := 40) hx hb dX6_suits_82 (by decide) ?_
                              refine lv_iload_n hx hb dX6_suits_84 rfl (lv_at hl 3 rfl) ?_
                              refine lv_imul hx hb dX6_suits_85 ?_
                              refine lv_topi (fun v102 ev102 => ?_)
                              have dv102 : dkN [(0, 280)] v102 := by rw [ev102]; exact dkN_mulL 40 (by decide) (dkN_lit (x := 40) (40) rfl) d41 rfl
                              have xv102 : v102 = (40 : Int32) * p2 := by rw [ev102]
                              have q103 : ((40 : Int32) * p2).toInt = (40 : Int) * p2.toInt := by first | (rw [← xv102]; exact (by rw [ev102]; exact dk_mulE 40 (x := 40) rfl d41 (by decide) rfl)) | (subst xv102; exact (by rw [ev102]; exact dk_mulE 40 (x := 40) rfl d41 (by decide) rfl))
                              refine lv_iload hx hb dX6_suits_86 (lv_at hl 4 rfl) ?_
                              refine lv_iadd hx hb dX6_suits_88 ?_
                              refine lv_topi (fun v104 ev104 => ?_)
                              have dv104 : dkN [(0, 320)] v104 := by rw [ev104]; exact dkN_add dv102 d100 rfl
                              have xv104 : v104 = ((40 : Int32) * p2) + p3 := by rw [ev104, xv102]
                              have q105 : (((40 : Int32) * p2) + p3).toInt = ((40 : Int32) * p2).toInt + p3.toInt := by first | (rw [← xv104, ← xv102]; exact (by rw [ev104]; exact dk_addE dv102 d100 rfl)) | (subst xv104 xv102; exact (by rw [ev104]; exact dk_addE dv102 d100 rfl))
                              refine lv_iload hx hb dX6_suits_89 (lv_at hl 5 rfl) ?_
                              refine lv_bipush (v := 6) hx hb dX6_suits_91 (by decide) ?_
                              refine lv_bipush (v := 6) hx hb dX6_suits_93 (by decide) ?_
                              refine lv_iload_n hx hb dX6_suits_95 rfl (lv_at hl 1 rfl) ?_
                              refine lv_imul hx hb dX6_suits_96 ?_
                              refine lv_topi (fun v106 ev106 => ?_)
                              have dv106 : dkN [(0, 24)] v106 := by rw [ev106]; exact dkN_mulL 6 (by decide) (dkN_lit (x := 6) (6) rfl) d14 rfl
                              have xv106 : v106 = (6 : Int32) * p0 := by rw [ev106]
                              have q107 : ((6 : Int32) * p0).toInt = (6 : Int) * p0.toInt := by first | (rw [← xv106]; exact (by rw [ev106]; exact dk_mulE 6 (x := 6) rfl d14 (by decide) rfl)) | (subst xv106; exact (by rw [ev106]; exact dk_mulE 6 (x := 6) rfl d14 (by decide) rfl))
                              refine lv_iadd hx hb dX6_suits_97 ?_
                              refine lv_topi (fun v108 ev108 => ?_)
                              have dv108 : dkN [(6, 30)] v108 := by rw [ev108]; exact dkN_add (dkN_lit (x := 6) (6) rfl) dv106 rfl
                              have xv108 : v108 = (6 : Int32) + ((6 : Int32) * p0) := by rw [ev108, xv106]
                              have q109 : ((6 : Int32) + ((6 : Int32) * p0)).toInt = (6 : Int) + ((6 : Int32) * p0).toInt := by first | (rw [← xv108, ← xv106]; exact (by rw [ev108]; exact dk_addE (dkN_lit (x := 6) (6) rfl) dv106 rfl)) | (subst xv108 xv106; exact (by rw [ev108]; exact dk_addE (dkN_lit (x := 6) (6) rfl) dv106 rfl))
                              refine lv_iload hx hb dX6_suits_98 (lv_at hl 6 rfl) ?_
                              refine lv_if_ne (tgt := 107) hx hb dX6_suits_100 (by decide) (fun c110 => ?_) (fun c110 => ?_)
                              ·
                                have q111 : p5.toInt ≠ (0 : Int) := (dk_ne c110)
                                have d112 : dkN [(1, 1)] p5 := dkN_ne1 (0) d65 (dkN_lit (x := 0) (0) rfl) (dk_ne c110) rfl
                                refine lv_iconst (v := 2) hx hb dX6_suits_107 (by decide) ?_
                                refine lv_iadd hx hb dX6_suits_108 ?_
                                refine lv_topi (fun v113 ev113 => ?_)
                                have dv113 : dkN [(8, 32)] v113 := by rw [ev113]; exact dkN_add dv108 (dkN_lit (x := 2) (2) rfl) rfl
                                have xv113 : v113 = ((6 : Int32) + ((6 : Int32) * p0)) + (2 : Int32) := by rw [ev113, xv108]
                                have q114 : (((6 : Int32) + ((6 : Int32) * p0)) + (2 : Int32)).toInt = ((6 : Int32) + ((6 : Int32) * p0)).toInt + (2 : Int) := by first | (rw [← xv113, ← xv108]; exact (by rw [ev113]; exact dk_addE dv108 (dkN_lit (x := 2) (2) rfl) rfl)) | (subst xv113 xv108; exact (by rw [ev113]; exact dk_addE dv108 (dkN_lit (x := 2) (2) rfl) rfl))
                                refine lv_iconst (v := 0) hx hb dX6_suits_109 (by decide) ?_
                                refine lv_iload hx hb dX6_suits_110 (lv_at hl 6 rfl) ?_
                                refine lv_if_ne (tgt := 120) hx hb dX6_suits_112 (by decide) (fun c115 => ?_) (fun c115 => ?_)
                                ·
                                  refine lv_iconst (v := 2) hx hb dX6_suits_120 (by decide) ?_
                                  refine dk_Vi (As := [.int p1, .int v104, .int p4, .int v113, .int 0, .int 2]) (rest := [.ref (z + 340)]) ⟨hx, hb, hml, hown, hts⟩ (c_X6_seenBy_2 l g z I0 p1 v104 p4 v113 0 2 d29 dv104 d53 dv113 (dkN_lit (x := 0) (0) rfl) (dkN_lit (x := 2) (2) rfl) (dk_rel320 ev102 ev104 d41 d100 q70_0 rfl) hO) (cwV 6 hts gX6_suits_X6_seenBy rfl rfl rfl (by decide +kernel) ⟨Nat.le_of_ble_eq_true rfl, Nat.le_of_ble_eq_true rfl⟩) (dk_at340 hW) rfl hK hT hW hS rfl hl.1 rfl (Nat.le_of_ble_eq_true rfl) dX6_suits_121 ⟨Nat.zero_le _, Nat.zero_le _⟩ (fun v116 I116 H116 L116 hp116 hW hS => ?_)
                                  obtain ⟨hF116, hO, hc116⟩ := hp116
                                  have hF := dkF_call hF hF116 rfl
                                  obtain ⟨_, -⟩ := hc116
                                  refine dk_Vi (As := [.int v116]) (rest := []) ⟨hx, hb, hml, hown, hts⟩ (fx_X6_well_1 l g z I116 v116 hO) (cwV 1 hts gX6_suits_X6_well rfl rfl rfl (by decide +kernel) ⟨Nat.le_of_ble_eq_true rfl, Nat.le_of_ble_eq_true rfl⟩) (dk_at340 hW) rfl hK hT hW hS rfl hl.1 rfl (Nat.le_of_ble_eq_true rfl) dX6_suits_124 ⟨Nat.zero_le _, Nat.zero_le _⟩ (fun v117 I117 H117 L117 hp117 hW hS => ?_)
                                  obtain ⟨hF117, hO, hc117⟩ := hp117
                                  have hF := dkF_call hF hF117 rfl
                                  obtain ⟨_, f117_340_4, xr117, xh117_0, -⟩ := hc117
                                  have y118 : I117 340 4 = 0 := by have h := xh117_0; exact h
                                  exact W.iret (v := v117) hx hb hr (fun t ht hW9 => ⟨⟨v117, I117, rfl, ⟨hF, hO, Or.inr (Or.inr (Or.inr (Or.inr (Or.inr (Or.inr (Or.inr (Or.inr (Or.inr (Or.inr (Or.inr (Or.inr (Or.inr (Or.inl ⟨trivial, dkN_sub d14 rfl, dkN_sub d29 rfl, dkN_sub d41 rfl, dkN_sub d100 rfl, dkN_sub d53 rfl, dkN_sub d112 rfl, (show dkN [(0, 0)] (I117 340 4) from dkN_sub f117_340_4 rfl), q11, q12, q13, q26, q27, q28, q39, q40, q51, q52, q63, q64, q68, q95, q96, q97, q98, q99, q103, q105, q107, q109, q111, q114, y118, trivial⟩)))))))))))))⟩, dkW_eq ht hW⟩, hS.F ht⟩) hS.2.2 dX6_suits_127
                                ·
                                  exact (dkN_nil (show dkN [] p5 from dkN_eq1 d112 (dkN_lit (x := 0) (0) rfl) (congrArg Int32.toInt c115) rfl)).elim
                              ·
                                have q119 : p5.toInt = (0 : Int) := (congrArg Int32.toInt c110)
                                have d120 : dkN [(0, 0)] p5 := dkN_eq1 d65 (dkN_lit (x := 0) (0) rfl) (congrArg Int32.toInt c110) rfl
                                refine lv_iconst (v := 1) hx hb dX6_suits_103 (by decide) ?_
                                refine lv_goto (tgt := 108) hx hb dX6_suits_104 (by decide) ?_
                                refine lv_iadd hx hb dX6_suits_108 ?_
                                refine lv_topi (fun v121 ev121 => ?_)
                                have dv121 : dkN [(7, 31)] v121 := by rw [ev121]; exact dkN_add dv108 (dkN_lit (x := 1) (1) rfl) rfl
                                have xv121 : v121 = ((6 : Int32) + ((6 : Int32) * p0)) + (1 : Int32) := by rw [ev121, xv108]
                                have q122 : (((6 : Int32) + ((6 : Int32) * p0)) + (1 : Int32)).toInt = ((6 : Int32) + ((6 : Int32) * p0)).toInt + (1 : Int) := by first | (rw [← xv121, ← xv108]; exact (by rw [ev121]; exact dk_addE dv108 (dkN_lit (x := 1) (1) rfl) rfl)) | (subst xv121 xv108; exact (by rw [ev121]; exact dk_addE dv108 (dkN_lit (x := 1) (1) rfl) rfl))
                                refine lv_iconst (v := 0) hx hb dX6_suits_109 (by decide) ?_
                                refine lv_iload hx hb dX6_suits_110 (lv_at hl 6 rfl) ?_
                                refine lv_if_ne (tgt := 120) hx hb dX6_suits_112 (by decide) (fun c123 => ?_) (fun c123 => ?_)
                                ·
                                  exact (dkN_nil (show dkN [] p5 from dkN_ne1 (0) d120 (dkN_lit (x := 0) (0) rfl) (dk_ne c123) rfl)).elim
                                ·
                                  refine lv_bipush (v := 9) hx hb dX6_suits_115 (by decide) ?_
                                  refine lv_goto (tgt := 121) hx hb dX6_suits_117 (by decide) ?_
                                  refine dk_Vi (As := [.int p1, .int v104, .int p4, .int v121, .int 0, .int 9]) (rest := [.ref (z + 340)]) ⟨hx, hb, hml, hown, hts⟩ (c_X6_seenBy_3 l g z I0 p1 v104 p4 v121 0 9 d29 dv104 d53 dv121 (dkN_lit (x := 0) (0) rfl) (dkN_lit (x := 9) (9) rfl) (dk_rel320 ev102 ev104 d41 d100 q70_0 rfl) hO) (cwV 6 hts gX6_suits_X6_seenBy rfl rfl rfl (by decide +kernel) ⟨Nat.le_of_ble_eq_true rfl, Nat.le_of_ble_eq_true rfl⟩) (dk_at340 hW) rfl hK hT hW hS rfl hl.1 rfl (Nat.le_of_ble_eq_true rfl) dX6_suits_121 ⟨Nat.zero_le _, Nat.zero_le _⟩ (fun v124 I124 H124 L124 hp124 hW hS => ?_)
                                  obtain ⟨hF124, hO, hc124⟩ := hp124
                                  have hF := dkF_call hF hF124 rfl
                                  obtain ⟨_, -⟩ := hc124
                                  refine dk_Vi (As := [.int v124]) (rest := []) ⟨hx, hb, hml, hown, hts⟩ (fx_X6_well_1 l g z I124 v124 hO) (cwV 1 hts gX6_suits_X6_well rfl rfl rfl (by decide +kernel) ⟨Nat.le_of_ble_eq_true rfl, Nat.le_of_ble_eq_true rfl⟩) (dk_at340 hW) rfl hK hT hW hS rfl hl.1 rfl (Nat.le_of_ble_eq_true rfl) dX6_suits_124 ⟨Nat.zero_le _, Nat.zero_le _⟩ (fun v125 I125 H125 L125 hp125 hW hS => ?_)
                                  obtain ⟨hF125, hO, hc125⟩ := hp125
                                  have hF := dkF_call hF hF125 rfl
                                  obtain ⟨_, f125_340_4, xr125, xh125_0, -⟩ := hc125
                                  have y126 : I125 340 4 = 0 := by have h := xh125_0; exact h
                                  exact W.iret (v := v125) hx hb hr (fun t ht hW9 => ⟨⟨v125, I125, rfl, ⟨hF, hO, Or.inr (Or.inr (Or.inr (Or.inr (Or.inr (Or.inr (Or.inr (Or.inr (Or.inr (Or.inr (Or.inr (Or.inr (Or.inr (Or.inr (Or.inl ⟨trivial, dkN_sub d14 rfl, dkN_sub d29 rfl, dkN_sub d41 rfl, dkN_sub d100 rfl, dkN_sub d53 rfl, dkN_sub d120 rfl, (show dkN [(0, 0)] (I125 340 4) from dkN_sub f125_340_4 rfl), q11, q12, q13, q26, q27, q28, q39, q40, q51, q52, q63, q64, q68, q95, q96, q97, q98, q99, q103, q105, q107, q109, q119, q122, y126, trivial⟩))))))))))))))⟩, dkW_eq ht hW⟩, hS.F ht⟩) hS.2.2 dX6_suits_127
                            ·
                              exact (dkN_nil (show dkN [] v70 from dkN_eq1 dv70 (dkN_lit (x := 0) (0) rfl) (congrArg Int32.toInt c101) rfl)).elim
                        ·
                          exact absurd ((xv67).trans (rfl).symm) c69
                      ·
                        obtain ⟨dv67, x67_0, xr67, -⟩ := hc67
                        have q127 : (I0 341 (Int32.toNatClampNeg p2)).toInt = (-1000000 : Int) := x67_0
                        have xv67 : v67 = 1 := by have h := xr67; exact h
                        refine lv_if_eq (tgt := 61) hx hb dX6_suits_52 (by decide) (fun c128 => ?_) (fun c128 => ?_)
                        ·
                          exact (dkN_nil (show dkN [] v67 from dkN_eq1 dv67 (dkN_lit (x := 0) (0) rfl) (congrArg Int32.toInt c128) rfl)).elim
                        ·
                          refine lv_aload_n hx hb dX6_suits_55 rfl (lv_at hl 0 rfl) ?_
                          refine lv_iconst (v := 1) hx hb dX6_suits_56 (by decide) ?_
                          refine dk_Vi (As := [.int 1]) (rest := []) ⟨hx, hb, hml, hown, hts⟩ (fx_X6_found_6 l g z I0 1 (dkN_lit (x := 1) (1) rfl) hO) (cwV 1 hts gX6_suits_X6_found rfl rfl rfl (by decide +kernel) ⟨Nat.le_of_ble_eq_true rfl, Nat.le_of_ble_eq_true rfl⟩) (dk_at340 hW) rfl hK hT hW hS rfl hl.1 rfl (Nat.le_of_ble_eq_true rfl) dX6_suits_57 ⟨Nat.zero_le _, Nat.zero_le _⟩ (fun v129 I129 H129 L129 hp129 hW hS => ?_)
                          obtain ⟨hF129, hO, hc129⟩ := hp129
                          have hF := dkF_call hF hF129 rfl
                          obtain ⟨dv129, f129_340_4, x129_0, xr129, xh129_0, -⟩ := hc129
                          have q130 : ((-1000010 : Int32) - (1 : Int32)).toInt = (-1000010 : Int) - (1 : Int) := x129_0
                          have y131 : I129 340 4 = 1 := by have h := xh129_0; exact h
                          have xv129 : v129 = (-1000010 : Int32) - (1 : Int32) := by have h := xr129; exact h
                          exact W.iret (v := v129) hx hb hr (fun t ht hW9 => ⟨⟨v129, I129, rfl, ⟨hF, hO, Or.inr (Or.inr (Or.inr (Or.inr (Or.inr (Or.inr (Or.inr (Or.inr (Or.inr (Or.inr (Or.inr (Or.inr (Or.inr (Or.inr (Or.inr (⟨dkN_sub dv129 rfl, dkN_sub d14 rfl, dkN_sub d29 rfl, dkN_sub d41 rfl, dkN_sub d53 rfl, dkN_sub d65 rfl, (show dkN [(1, 1)] (I129 340 4) from dkN_sub f129_340_4 rfl), q11, q12, q13, q26, q27, q28, q39, q40, q51, q52, q63, q64, q127, q130, xv129, y131, trivial⟩)))))))))))))))⟩, dkW_eq ht hW⟩, hS.F ht⟩) hS.2.2 dX6_suits_60
                    ·
                      exact (dkN_nil (show dkN [] v55 from dkN_eq1 dv55 (dkN_lit (x := 0) (0) rfl) (congrArg Int32.toInt c66) rfl)).elim
set_option maxHeartbeats 4000000 in
set_option maxRecDepth 100000 in
theorem fx_X5_isUpTo_16 (l : Launch) (g : dkG) (z : Nat) (I0 : dkI) (p0 : Int32) (p1 : Int32) (dp1 : dkN [(5, 5)] p1)  (hO : dkOk I0) : Met l yX5_isUpTo wsX5_isUpTo (dkR 0) (dkPc g z [.int p0, .int p1] I0) (dkQi g z (fun r I1 => dkF [] I0 I1 ∧ dkOk I1 ∧ ((dkN [(0, 0)] r ∧ dkN [(-2147483648, -1)] p0 ∧ p0.toInt + 1 ≤ (0 : Int) ∧ r = 0 ∧ True) ∨ (dkN [(0, 0)] r ∧ dkN [(6, 2147483647)] p0 ∧ (0 : Int) + 0 ≤ p0.toInt ∧ p1.toInt + 1 ≤ p0.toInt ∧ r = 0 ∧ True) ∨ (dkN [(1, 1)] r ∧ dkN [(0, 5)] p0 ∧ (0 : Int) + 0 ≤ p0.toInt ∧ p0.toInt + 0 ≤ p1.toInt ∧ r = 1 ∧ True)))) 0 0 (dkA z) := by
  refine Met.ofW (cc := cX5_isUpTo) (maxL := 2) (ret := (some .boolean)) (by decide) rfl ?_
  intro p e s m args below meth c s₁ B hml hv
  obtain ⟨ha, hW, hK, hT⟩ := hv
  have hx := B.exec
  have hb := B.bytes
  have hr := B.returns
  have hts := atoms_spec (ws := wsX5_isUpTo) B.pre
  have hown : s.vm.findClass RX5 = some m.cls := findClass_of_methodNamed B.named
  have hlocks := B.notSynchronized
  have hS : va_S (dkA z) s.heap s.heap [] := va_S.rf
  have hF : dkF [] I0 I0 := dkF_rf _ _
  have hl := lv_entry ([.int p0, .int p1]) (n := 2) (Nat.le_of_ble_eq_true rfl)
  have hgo : entryFrame m args 2 = entryFrame m ([.int p0, .int p1] : List Value).toArray 2 := by rw [ha]
  rw [hgo, lg_entry_eq]
  generalize (lg_sl ([.int p0, .int p1]) ++ List.replicate (2 - (lg_sl ([.int p0, .int p1])).length) Slot.unset).toArray = ls at hl ⊢
  have hl : lv_has ls 2 [(0, .int p0), (1, .int p1)] := hl
  refine lv_iload_n hx hb dX5_isUpTo_0 rfl (lv_at hl 0 rfl) ?_
  refine lv_if_lt (tgt := 13) hx hb dX5_isUpTo_1 (by decide) (fun c1 => ?_) (fun c1 => ?_)
  ·
    have q2 : p0.toInt + 1 ≤ (0 : Int) := (dkc_lt c1)
    have d3 : dkN [(-2147483648, -1)] p0 := dkN_le1 1 (dkN_top p0) (dkN_lit (x := 0) (0) rfl) (dkc_lt c1) rfl
    refine lv_iconst (v := 0) hx hb dX5_isUpTo_13 (by decide) ?_
    exact W.zret (v := 0) (ty := .boolean) hx hb hr rfl (fun t ht hW9 => ⟨⟨0, I0, rfl, ⟨hF, hO, Or.inl ⟨dkN_sub (dkN_lit (x := 0) (0) rfl) rfl, dkN_sub d3 rfl, q2, rfl, trivial⟩⟩, dkW_eq ht hW⟩, hS.F ht⟩) hS.2.2 dX5_isUpTo_14
  ·
    have q4 : (0 : Int) + 0 ≤ p0.toInt := (dkc_nlt c1)
    have d5 : dkN [(0, 2147483647)] p0 := dkN_le2 0 (dkN_lit (x := 0) (0) rfl) (dkN_top p0) (dkc_nlt c1) rfl
    refine lv_iload_n hx hb dX5_isUpTo_4 rfl (lv_at hl 0 rfl) ?_
    refine lv_iload_n hx hb dX5_isUpTo_5 rfl (lv_at hl 1 rfl) ?_
    refine lv_icmp_gt (tgt := 13) hx hb dX5_isUpTo_6 (by decide) (fun c6 => ?_) (fun c6 => ?_)
    ·
      have q7 : p1.toInt + 1 ≤ p0.toInt := (dkc_lt c6)
      have d8 : dkN [(6, 2147483647)] p0 := dkN_le2 1 dp1 d5 (dkc_lt c6) rfl
      refine lv_iconst (v := 0) hx hb dX5_isUpTo_13 (by decide) ?_
      exact W.zret (v := 0) (ty := .boolean) hx hb hr rfl (fun t ht hW9 => ⟨⟨0, I0, rfl, ⟨hF, hO, Or.inr (Or.inl ⟨dkN_sub (dkN_lit (x := 0) (0) rfl) rfl, dkN_sub d8 rfl, q4, q7, rfl, trivial⟩)⟩, dkW_eq ht hW⟩, hS.F ht⟩) hS.2.2 dX5_isUpTo_14
    ·
      have q9 : p0.toInt + 0 ≤ p1.toInt := (dkc_nlt c6)
      have d10 : dkN [(0, 5)] p0 := dkN_le1 0 d5 dp1 (dkc_nlt c6) rfl
      refine lv_iconst (v := 1) hx hb dX5_isUpTo_9 (by decide) ?_
      refine lv_goto (tgt := 14) hx hb dX5_isUpTo_10 (by decide) ?_
      exact W.zret (v := 1) (ty := .boolean) hx hb hr rfl (fun t ht hW9 => ⟨⟨1, I0, rfl, ⟨hF, hO, Or.inr (Or.inr (⟨dkN_sub (dkN_lit (x := 1) (1) rfl) rfl, dkN_sub d10 rfl, q4, q9, rfl, trivial⟩))⟩, dkW_eq ht hW⟩, hS.F ht⟩) hS.2.2 dX5_isUpTo_14
set_option maxHeartbeats 4000000 in
set_option maxRecDepth 100000 in
theorem fx_X5_isA_3 (l : Launch) (g : dkG) (z : Nat) (I0 : dkI) (p0 : Int32) (p1 : Int32) (dp1 : dkN [(0, 5)] p1)  (hO : dkOk I0) : Met l yX5_isA wsX5_isA (dkR 0) (dkPc g z [.int p0, .int p1] I0) (dkQi g z (fun r I1 => dkF [] I0 I1 ∧ dkOk I1 ∧ ((dkN [(1, 1)] r ∧ dkN [(0, 0)] p1 ∧ p1.toInt = (0 : Int) ∧ r = 1 ∧ True) ∨ (dkN [(1, 1)] r ∧ dkN [(1, 1)] p0 ∧ dkN [(1, 1)] p1 ∧ p1.toInt ≠ (0 : Int) ∧ p1.toInt = (1 : Int) ∧ p0.toInt = (1 : Int) ∧ r = 1 ∧ True) ∨ (dkN [(1, 1)] r ∧ dkN [(2, 2)] p0 ∧ dkN [(1, 1)] p1 ∧ p1.toInt ≠ (0 : Int) ∧ p1.toInt = (1 : Int) ∧ p0.toInt ≠ (1 : Int) ∧ p0.toInt = (2 : Int) ∧ r = 1 ∧ True) ∨ (dkN [(0, 0)] r ∧ dkN [(-2147483648, 0), (4, 2147483647)] p0 ∧ dkN [(1, 1)] p1 ∧ p1.toInt ≠ (0 : Int) ∧ p1.toInt = (1 : Int) ∧ p0.toInt ≠ (1 : Int) ∧ p0.toInt ≠ (2 : Int) ∧ p0.toInt ≠ (3 : Int) ∧ r = 0 ∧ True) ∨ (dkN [(1, 1)] r ∧ dkN [(3, 3)] p0 ∧ dkN [(1, 1)] p1 ∧ p1.toInt ≠ (0 : Int) ∧ p1.toInt = (1 : Int) ∧ p0.toInt ≠ (1 : Int) ∧ p0.toInt ≠ (2 : Int) ∧ p0.toInt = (3 : Int) ∧ r = 1 ∧ True) ∨ (dkN [(0, 0)] r ∧ dkN [(-2147483648, 1), (3, 2147483647)] p0 ∧ dkN [(2, 2)] p1 ∧ p1.toInt ≠ (0 : Int) ∧ p1.toInt ≠ (1 : Int) ∧ p1.toInt = (2 : Int) ∧ p0.toInt ≠ p1.toInt ∧ r = 0 ∧ True) ∨ (dkN [(1, 1)] r ∧ dkN [(2, 2)] p0 ∧ dkN [(2, 2)] p1 ∧ p1.toInt ≠ (0 : Int) ∧ p1.toInt ≠ (1 : Int) ∧ p1.toInt = (2 : Int) ∧ p0.toInt = p1.toInt ∧ r = 1 ∧ True) ∨ (dkN [(0, 0)] r ∧ dkN [(-2147483648, 2), (4, 2147483647)] p0 ∧ dkN [(3, 3)] p1 ∧ p1.toInt ≠ (0 : Int) ∧ p1.toInt ≠ (1 : Int) ∧ p1.toInt ≠ (2 : Int) ∧ p1.toInt = (3 : Int) ∧ p0.toInt ≠ p1.toInt ∧ r = 0 ∧ True) ∨ (dkN [(1, 1)] r ∧ dkN [(3, 3)] p0 ∧ dkN [(3, 3)] p1 ∧ p1.toInt ≠ (0 : Int) ∧ p1.toInt ≠ (1 : Int) ∧ p1.toInt ≠ (2 : Int) ∧ p1.toInt = (3 : Int) ∧ p0.toInt = p1.toInt ∧ r = 1 ∧ True) ∨ (dkN [(1, 1)] r ∧ dkN [(4, 4)] p0 ∧ dkN [(4, 4)] p1 ∧ p1.toInt ≠ (0 : Int) ∧ p1.toInt ≠ (1 : Int) ∧ p1.toInt ≠ (2 : Int) ∧ p1.toInt ≠ (3 : Int) ∧ p1.toInt = (4 : Int) ∧ p0.toInt = (4 : Int) ∧ r = 1 ∧ True) ∨ (dkN [(0, 0)] r ∧ dkN [(-2147483648, 3), (6, 2147483647)] p0 ∧ dkN [(4, 4)] p1 ∧ p1.toInt ≠ (0 : Int) ∧ p1.toInt ≠ (1 : Int) ∧ p1.toInt ≠ (2 : Int) ∧ p1.toInt ≠ (3 : Int) ∧ p1.toInt = (4 : Int) ∧ p0.toInt ≠ (4 : Int) ∧ p0.toInt ≠ (5 : Int) ∧ r = 0 ∧ True) ∨ (dkN [(1, 1)] r ∧ dkN [(5, 5)] p0 ∧ dkN [(4, 4)] p1 ∧ p1.toInt ≠ (0 : Int) ∧ p1.toInt ≠ (1 : Int) ∧ p1.toInt ≠ (2 : Int) ∧ p1.toInt ≠ (3 : Int) ∧ p1.toInt = (4 : Int) ∧ p0.toInt ≠ (4 : Int) ∧ p0.toInt = (5 : Int) ∧ r = 1 ∧ True) ∨ (dkN [(0, 0)] r ∧ dkN [(-2147483648, 4), (6, 2147483647)] p0 ∧ dkN [(5, 5)] p1 ∧ p1.toInt ≠ (0 : Int) ∧ p1.toInt ≠ (1 : Int) ∧ p1.toInt ≠ (2 : Int) ∧ p1.toInt ≠ (3 : Int) ∧ p1.toInt ≠ (4 : Int) ∧ p0.toInt ≠ p1.toInt ∧ r = 0 ∧ True) ∨ (dkN [(1, 1)] r ∧ dkN [(5, 5)] p0 ∧ dkN [(5, 5)] p1 ∧ p1.toInt ≠ (0 : Int) ∧ p1.toInt ≠ (1 : Int) ∧ p1.toInt ≠ (2 : Int) ∧ p1.toInt ≠ (3 : Int) ∧ p1.toInt ≠ (4 : Int) ∧ p0.toInt = p1.toInt ∧ r = 1 ∧ True)))) 0 0 (dkA z) := by
  refine Met.ofW (cc := cX5_isA) (maxL := 2) (ret := (some .boolean)) (by decide) rfl ?_
  intro p e s m args below meth c s₁ B hml hv
  obtain ⟨ha, hW, hK, hT⟩ := hv
  have hx := B.exec
  have hb := B.bytes
  have hr := B.returns
  have hts := atoms_spec (ws := wsX5_isA) B.pre
  have hown : s.vm.findClass RX5 = some m.cls := findClass_of_methodNamed B.named
  have hlocks := B.notSynchronized
  have hS : va_S (dkA z) s.heap s.heap [] := va_S.rf
  have hF : dkF [] I0 I0 := dkF_rf _ _
  have hl := lv_entry ([.int p0, .int p1]) (n := 2) (Nat.le_of_ble_eq_true rfl)
  have hgo : entryFrame m args 2 = entryFrame m ([.int p0, .int p1] : List Value).toArray 2 := by rw [ha]
  rw [hgo, lg_entry_eq]
  generalize (lg_sl ([.int p0, .int p1]) ++ List.replicate (2 - (lg_sl ([.int p0, .int p1])).length) Slot.unset).toArray = ls at hl ⊢
  have hl : lv_has ls 2 [(0, .int p0), (1, .int p1)] := hl
  refine lv_iload_n hx hb dX5_isA_0 rfl (lv_at hl 1 rfl) ?_
  by_cases c1 : p1 = 0
  ·
    have qc1 : p1.toInt = 0 := by rw [c1]; rfl
    have q3 : p1.toInt = (0 : Int) := qc1
    have d2 : dkN [(0, 0)] p1 := dkN_lit (0) qc1
    refine lv_tableIn (tgt := 36) hx hb dX5_isA_1 (by rw [qc1]; decide) (by rw [qc1]; decide) (by rw [qc1]; rfl) (by decide) ?_
    refine lv_iconst (v := 1) hx hb dX5_isA_36 (by decide) ?_
    exact W.zret (v := 1) (ty := .boolean) hx hb hr rfl (fun t ht hW9 => ⟨⟨1, I0, rfl, ⟨hF, hO, Or.inl ⟨dkN_sub (dkN_lit (x := 1) (1) rfl) rfl, dkN_sub d2 rfl, q3, rfl, trivial⟩⟩, dkW_eq ht hW⟩, hS.F ht⟩) hS.2.2 dX5_isA_37
  ·
    have q4 : p1.toInt ≠ (0 : Int) := (dk_ne c1)
    have d5 : dkN [(1, 5)] p1 := dkN_ne1 (0) dp1 (dkN_lit (x := 0) (0) rfl) (dk_ne c1) rfl
    by_cases c6 : p1 = 1
    ·
      have qc6 : p1.toInt = 1 := by rw [c6]; rfl
      have q8 : p1.toInt = (1 : Int) := qc6
      have d7 : dkN [(1, 1)] p1 := dkN_lit (1) qc6
      refine lv_tableIn (tgt := 38) hx hb dX5_isA_1 (by rw [qc6]; decide) (by rw [qc6]; decide) (by rw [qc6]; rfl) (by decide) ?_
      refine lv_iload_n hx hb dX5_isA_38 rfl (lv_at hl 0 rfl) ?_
      refine lv_iconst (v := 1) hx hb dX5_isA_39 (by decide) ?_
      refine lv_icmp_eq (tgt := 53) hx hb dX5_isA_40 (by decide) (fun c9 => ?_) (fun c9 => ?_)
      ·
        have q10 : p0.toInt = (1 : Int) := (congrArg Int32.toInt c9)
        have d11 : dkN [(1, 1)] p0 := dkN_eq1 (dkN_top p0) (dkN_lit (x := 1) (1) rfl) (congrArg Int32.toInt c9) rfl
        refine lv_iconst (v := 1) hx hb dX5_isA_53 (by decide) ?_
        refine lv_goto (tgt := 58) hx hb dX5_isA_54 (by decide) ?_
        exact W.zret (v := 1) (ty := .boolean) hx hb hr rfl (fun t ht hW9 => ⟨⟨1, I0, rfl, ⟨hF, hO, Or.inr (Or.inl ⟨dkN_sub (dkN_lit (x := 1) (1) rfl) rfl, dkN_sub d11 rfl, dkN_sub d7 rfl, q4, q8, q10, rfl, trivial⟩)⟩, dkW_eq ht hW⟩, hS.F ht⟩) hS.2.2 dX5_isA_58
      ·
        have q12 : p0.toInt ≠ (1 : Int) := (dk_ne c9)
        have d13 : dkN [(-2147483648, 0), (2, 2147483647)] p0 := dkN_ne1 (1) (dkN_top p0) (dkN_lit (x := 1) (1) rfl) (dk_ne c9) rfl
        refine lv_iload_n hx hb dX5_isA_43 rfl (lv_at hl 0 rfl) ?_
        refine lv_iconst (v := 2) hx hb dX5_isA_44 (by decide) ?_
        refine lv_icmp_eq (tgt := 53) hx hb dX5_isA_45 (by decide) (fun c14 => ?_) (fun c14 => ?_)
        ·
          have q15 : p0.toInt = (2 : Int) := (congrArg Int32.toInt c14)
          have d16 : dkN [(2, 2)] p0 := dkN_eq1 d13 (dkN_lit (x := 2) (2) rfl) (congrArg Int32.toInt c14) rfl
          refine lv_iconst (v := 1) hx hb dX5_isA_53 (by decide) ?_
          refine lv_goto (tgt := 58) hx hb dX5_isA_54 (by decide) ?_
          exact W.zret (v := 1) (ty := .boolean) hx hb hr rfl (fun t ht hW9 => ⟨⟨1, I0, rfl, ⟨hF, hO, Or.inr (Or.inr (Or.inl ⟨dkN_sub (dkN_lit (x := 1) (1) rfl) rfl, dkN_sub d16 rfl, dkN_sub d7 rfl, q4, q8, q12, q15, rfl, trivial⟩))⟩, dkW_eq ht hW⟩, hS.F ht⟩) hS.2.2 dX5_isA_58
        ·
          have q17 : p0.toInt ≠ (2 : Int) := (dk_ne c14)
          have d18 : dkN [(-2147483648, 0), (3, 2147483647)] p0 := dkN_ne1 (2) d13 (dkN_lit (x := 2) (2) rfl) (dk_ne c14) rfl
          refine lv_iload_n hx hb dX5_isA_48 rfl (lv_at hl 0 rfl) ?_
          refine lv_iconst (v := 3) hx hb dX5_isA_49 (by decide) ?_
          refine lv_icmp_ne (tgt := 57) hx hb dX5_isA_50 (by decide) (fun c19 => ?_) (fun c19 => ?_)
          ·
            have q20 : p0.toInt ≠ (3 : Int) := (dk_ne c19)
            have d21 : dkN [(-2147483648, 0), (4, 2147483647)] p0 := dkN_ne1 (3) d18 (dkN_lit (x := 3) (3) rfl) (dk_ne c19) rfl
            refine lv_iconst (v := 0) hx hb dX5_isA_57 (by decide) ?_
            exact W.zret (v := 0) (ty := .boolean) hx hb hr rfl (fun t ht hW9 => ⟨⟨0, I0, rfl, ⟨hF, hO, Or.inr (Or.inr (Or.inr (Or.inl ⟨dkN_sub (dkN_lit (x := 0) (0) rfl) rfl, dkN_sub d21 rfl, dkN_sub d7 rfl, q4, q8, q12, q17, q20, rfl, trivial⟩)))⟩, dkW_eq ht hW⟩, hS.F ht⟩) hS.2.2 dX5_isA_58
          ·
            have q22 : p0.toInt = (3 : Int) := (congrArg Int32.toInt c19)
            have d23 : dkN [(3, 3)] p0 := dkN_eq1 d18 (dkN_lit (x := 3) (3) rfl) (congrArg Int32.toInt c19) rfl
            refine lv_iconst (v := 1) hx hb dX5_isA_53 (by decide) ?_
            refine lv_goto (tgt := 58) hx hb dX5_isA_54 (by decide) ?_
            exact W.zret (v := 1) (ty := .boolean) hx hb hr rfl (fun t ht hW9 => ⟨⟨1, I0, rfl, ⟨hF, hO, Or.inr (Or.inr (Or.inr (Or.inr (Or.inl ⟨dkN_sub (dkN_lit (x := 1) (1) rfl) rfl, dkN_sub d23 rfl, dkN_sub d7 rfl, q4, q8, q12, q17, q22, rfl, trivial⟩))))⟩, dkW_eq ht hW⟩, hS.F ht⟩) hS.2.2 dX5_isA_58
    ·
      have q24 : p1.toInt ≠ (1 : Int) := (dk_ne c6)
      have d25 : dkN [(2, 5)] p1 := dkN_ne1 (1) d5 (dkN_lit (x := 1) (1) rfl) (dk_ne c6) rfl
      by_cases c26 : p1 = 2
      ·
        have qc26 : p1.toInt = 2 := by rw [c26]; rfl
        have q28 : p1.toInt = (2 : Int) := qc26
        have d27 : dkN [(2, 2)] p1 := dkN_lit (2) qc26
        refine lv_tableIn (tgt := 75) hx hb dX5_isA_1 (by rw [qc26]; decide) (by rw [qc26]; decide) (by rw [qc26]; rfl) (by decide) ?_
        refine lv_iload_n hx hb dX5_isA_75 rfl (lv_at hl 0 rfl) ?_
        refine lv_iload_n hx hb dX5_isA_76 rfl (lv_at hl 1 rfl) ?_
        refine lv_icmp_ne (tgt := 84) hx hb dX5_isA_77 (by decide) (fun c29 => ?_) (fun c29 => ?_)
        ·
          have q30 : p0.toInt ≠ p1.toInt := (dk_ne c29)
          have d31 : dkN [(-2147483648, 1), (3, 2147483647)] p0 := dkN_ne1 (2) (dkN_top p0) d27 (dk_ne c29) rfl
          refine lv_iconst (v := 0) hx hb dX5_isA_84 (by decide) ?_
          exact W.zret (v := 0) (ty := .boolean) hx hb hr rfl (fun t ht hW9 => ⟨⟨0, I0, rfl, ⟨hF, hO, Or.inr (Or.inr (Or.inr (Or.inr (Or.inr (Or.inl ⟨dkN_sub (dkN_lit (x := 0) (0) rfl) rfl, dkN_sub d31 rfl, dkN_sub d27 rfl, q4, q24, q28, q30, rfl, trivial⟩)))))⟩, dkW_eq ht hW⟩, hS.F ht⟩) hS.2.2 dX5_isA_85
        ·
          have q32 : p0.toInt = p1.toInt := (congrArg Int32.toInt c29)
          have d33 : dkN [(2, 2)] p0 := dkN_eq1 (dkN_top p0) d27 (congrArg Int32.toInt c29) rfl
          refine lv_iconst (v := 1) hx hb dX5_isA_80 (by decide) ?_
          refine lv_goto (tgt := 85) hx hb dX5_isA_81 (by decide) ?_
          exact W.zret (v := 1) (ty := .boolean) hx hb hr rfl (fun t ht hW9 => ⟨⟨1, I0, rfl, ⟨hF, hO, Or.inr (Or.inr (Or.inr (Or.inr (Or.inr (Or.inr (Or.inl ⟨dkN_sub (dkN_lit (x := 1) (1) rfl) rfl, dkN_sub d33 rfl, dkN_sub d27 rfl, q4, q24, q28, q32, rfl, trivial⟩))))))⟩, dkW_eq ht hW⟩, hS.F ht⟩) hS.2.2 dX5_isA_85
      ·
        have q34 : p1.toInt ≠ (2 : Int) := (dk_ne c26)
        have d35 : dkN [(3, 5)] p1 := dkN_ne1 (2) d25 (dkN_lit (x := 2) (2) rfl) (dk_ne c26) rfl
        by_cases c36 : p1 = 3
        ·
          have qc36 : p1.toInt = 3 := by rw [c36]; rfl
          have q38 : p1.toInt = (3 : Int) := qc36
          have d37 : dkN [(3, 3)] p1 := dkN_lit (3) qc36
          refine lv_tableIn (tgt := 75) hx hb dX5_isA_1 (by rw [qc36]; decide) (by rw [qc36]; decide) (by rw [qc36]; rfl) (by decide) ?_
          refine lv_iload_n hx hb dX5_isA_75 rfl (lv_at hl 0 rfl) ?_
          refine lv_iload_n hx hb dX5_isA_76 rfl (lv_at hl 1 rfl) ?_
          refine lv_icmp_ne (tgt := 84) hx hb dX5_isA_77 (by decide) (fun c39 => ?_) (fun c39 => ?_)
          ·
            have q40 : p0.toInt ≠ p1.toInt := (dk_ne c39)
            have d41 : dkN [(-2147483648, 2), (4, 2147483647)] p0 := dkN_ne1 (3) (dkN_top p0) d37 (dk_ne c39) rfl
            refine lv_iconst (v := 0) hx hb dX5_isA_84 (by decide) ?_
            exact W.zret (v := 0) (ty := .boolean) hx hb hr rfl (fun t ht hW9 => ⟨⟨0, I0, rfl, ⟨hF, hO, Or.inr (Or.inr (Or.inr (Or.inr (Or.inr (Or.inr (Or.inr (Or.inl ⟨dkN_sub (dkN_lit (x := 0) (0) rfl) rfl, dkN_sub d41 rfl, dkN_sub d37 rfl, q4, q24, q34, q38, q40, rfl, trivial⟩)))))))⟩, dkW_eq ht hW⟩, hS.F ht⟩) hS.2.2 dX5_isA_85
          ·
            have q42 : p0.toInt = p1.toInt := (congrArg Int32.toInt c39)
            have d43 : dkN [(3, 3)] p0 := dkN_eq1 (dkN_top p0) d37 (congrArg Int32.toInt c39) rfl
            refine lv_iconst (v := 1) hx hb dX5_isA_80 (by decide) ?_
            refine lv_goto (tgt := 85) hx hb dX5_isA_81 (by decide) ?_
            exact W.zret (v := 1) (ty := .boolean) hx hb hr rfl (fun t ht hW9 => ⟨⟨1, I0, rfl, ⟨hF, hO, Or.inr (Or.inr (Or.inr (Or.inr (Or.inr (Or.inr (Or.inr (Or.inr (Or.inl ⟨dkN_sub (dkN_lit (x := 1) (1) rfl) rfl, dkN_sub d43 rfl, dkN_sub d37 rfl, q4, q24, q34, q38, q42, rfl, trivial⟩))))))))⟩, dkW_eq ht hW⟩, hS.F ht⟩) hS.2.2 dX5_isA_85
        ·
          have q44 : p1.toInt ≠ (3 : Int) := (dk_ne c36)
          have d45 : dkN [(4, 5)] p1 := dkN_ne1 (3) d35 (dkN_lit (x := 3) (3) rfl) (dk_ne c36) rfl
          by_cases c46 : p1 = 4
          ·
            have qc46 : p1.toInt = 4 := by rw [c46]; rfl
            have q48 : p1.toInt = (4 : Int) := qc46
            have d47 : dkN [(4, 4)] p1 := dkN_lit (4) qc46
            refine lv_tableIn (tgt := 59) hx hb dX5_isA_1 (by rw [qc46]; decide) (by rw [qc46]; decide) (by rw [qc46]; rfl) (by decide) ?_
            refine lv_iload_n hx hb dX5_isA_59 rfl (lv_at hl 0 rfl) ?_
            refine lv_iconst (v := 4) hx hb dX5_isA_60 (by decide) ?_
            refine lv_icmp_eq (tgt := 69) hx hb dX5_isA_61 (by decide) (fun c49 => ?_) (fun c49 => ?_)
            ·
              have q50 : p0.toInt = (4 : Int) := (congrArg Int32.toInt c49)
              have d51 : dkN [(4, 4)] p0 := dkN_eq1 (dkN_top p0) (dkN_lit (x := 4) (4) rfl) (congrArg Int32.toInt c49) rfl
              refine lv_iconst (v := 1) hx hb dX5_isA_69 (by decide) ?_
              refine lv_goto (tgt := 74) hx hb dX5_isA_70 (by decide) ?_
              exact W.zret (v := 1) (ty := .boolean) hx hb hr rfl (fun t ht hW9 => ⟨⟨1, I0, rfl, ⟨hF, hO, Or.inr (Or.inr (Or.inr (Or.inr (Or.inr (Or.inr (Or.inr (Or.inr (Or.inr (Or.inl ⟨dkN_sub (dkN_lit (x := 1) (1) rfl) rfl, dkN_sub d51 rfl, dkN_sub d47 rfl, q4, q24, q34, q44, q48, q50, rfl, trivial⟩)))))))))⟩, dkW_eq ht hW⟩, hS.F ht⟩) hS.2.2 dX5_isA_74
            ·
              have q52 : p0.toInt ≠ (4 : Int) := (dk_ne c49)
              have d53 : dkN [(-2147483648, 3), (5, 2147483647)] p0 := dkN_ne1 (4) (dkN_top p0) (dkN_lit (x := 4) (4) rfl) (dk_ne c49) rfl
              refine lv_iload_n hx hb dX5_isA_64 rfl (lv_at hl 0 rfl) ?_
              refine lv_iconst (v := 5) hx hb dX5_isA_65 (by decide) ?_
              refine lv_icmp_ne (tgt := 73) hx hb dX5_isA_66 (by decide) (fun c54 => ?_) (fun c54 => ?_)
              ·
                have q55 : p0.toInt ≠ (5 : Int) := (dk_ne c54)
                have d56 : dkN [(-2147483648, 3), (6, 2147483647)] p0 := dkN_ne1 (5) d53 (dkN_lit (x := 5) (5) rfl) (dk_ne c54) rfl
                refine lv_iconst (v := 0) hx hb dX5_isA_73 (by decide) ?_
                exact W.zret (v := 0) (ty := .boolean) hx hb hr rfl (fun t ht hW9 => ⟨⟨0, I0, rfl, ⟨hF, hO, Or.inr (Or.inr (Or.inr (Or.inr (Or.inr (Or.inr (Or.inr (Or.inr (Or.inr (Or.inr (Or.inl ⟨dkN_sub (dkN_lit (x := 0) (0) rfl) rfl, dkN_sub d56 rfl, dkN_sub d47 rfl, q4, q24, q34, q44, q48, q52, q55, rfl, trivial⟩))))))))))⟩, dkW_eq ht hW⟩, hS.F ht⟩) hS.2.2 dX5_isA_74
              ·
                have q57 : p0.toInt = (5 : Int) := (congrArg Int32.toInt c54)
                have d58 : dkN [(5, 5)] p0 := dkN_eq1 d53 (dkN_lit (x := 5) (5) rfl) (congrArg Int32.toInt c54) rfl
                refine lv_iconst (v := 1) hx hb dX5_isA_69 (by decide) ?_
                refine lv_goto (tgt := 74) hx hb dX5_isA_70 (by decide) ?_
                exact W.zret (v := 1) (ty := .boolean) hx hb hr rfl (fun t ht hW9 => ⟨⟨1, I0, rfl, ⟨hF, hO, Or.inr (Or.inr (Or.inr (Or.inr (Or.inr (Or.inr (Or.inr (Or.inr (Or.inr (Or.inr (Or.inr (Or.inl ⟨dkN_sub (dkN_lit (x := 1) (1) rfl) rfl, dkN_sub d58 rfl, dkN_sub d47 rfl, q4, q24, q34, q44, q48, q52, q57, rfl, trivial⟩)))))))))))⟩, dkW_eq ht hW⟩, hS.F ht⟩) hS.2.2 dX5_isA_74
          ·
            have q59 : p1.toInt ≠ (4 : Int) := (dk_ne c46)
            have d60 : dkN [(5, 5)] p1 := dkN_ne1 (4) d45 (dkN_lit (x := 4) (4) rfl) (dk_ne c46) rfl
            refine lv_tableOut (tgt := 75) hx hb dX5_isA_1 (dkN_out d60 rfl) (by decide) ?_
            refine lv_iload_n hx hb dX5_isA_75 rfl (lv_at hl 0 rfl) ?_
            refine lv_iload_n hx hb dX5_isA_76 rfl (lv_at hl 1 rfl) ?_
            refine lv_icmp_ne (tgt := 84) hx hb dX5_isA_77 (by decide) (fun c61 => ?_) (fun c61 => ?_)
            ·
              have q62 : p0.toInt ≠ p1.toInt := (dk_ne c61)
              have d63 : dkN [(-2147483648, 4), (6, 2147483647)] p0 := dkN_ne1 (5) (dkN_top p0) d60 (dk_ne c61) rfl
              refine lv_iconst (v := 0) hx hb dX5_isA_84 (by decide) ?_
              exact W.zret (v := 0) (ty := .boolean) hx hb hr rfl (fun t ht hW9 => ⟨⟨0, I0, rfl, ⟨hF, hO, Or.inr (Or.inr (Or.inr (Or.inr (Or.inr (Or.inr (Or.inr (Or.inr (Or.inr (Or.inr (Or.inr (Or.inr (Or.inl ⟨dkN_sub (dkN_lit (x := 0) (0) rfl) rfl, dkN_sub d63 rfl, dkN_sub d60 rfl, q4, q24, q34, q44, q59, q62, rfl, trivial⟩))))))))))))⟩, dkW_eq ht hW⟩, hS.F ht⟩) hS.2.2 dX5_isA_85
            ·
              have q64 : p0.toInt = p1.toInt := (congrArg Int32.toInt c61)
              have d65 : dkN [(5, 5)] p0 := dkN_eq1 (dkN_top p0) d60 (congrArg Int32.toInt c61) rfl
              refine lv_iconst (v := 1) hx hb dX5_isA_80 (by decide) ?_
              refine lv_goto (tgt := 85) hx hb dX5_isA_81 (by decide) ?_
              exact W.zret (v := 1) (ty := .boolean) hx hb hr rfl (fun t ht hW9 => ⟨⟨1, I0, rfl, ⟨hF, hO, Or.inr (Or.inr (Or.inr (Or.inr (Or.inr (Or.inr (Or.inr (Or.inr (Or.inr (Or.inr (Or.inr (Or.inr (Or.inr (⟨dkN_sub (dkN_lit (x := 1) (1) rfl) rfl, dkN_sub d65 rfl, dkN_sub d60 rfl, q4, q24, q34, q44, q59, q64, rfl, trivial⟩)))))))))))))⟩, dkW_eq ht hW⟩, hS.F ht⟩) hS.2.2 dX5_isA_85
set_option maxHeartbeats 4000000 in
set_option maxRecDepth 100000 in
theorem fx_X5_found_9 (l : Launch) (g : dkG) (z : Nat) (I0 : dkI) (p0 : Int32) (dp0 : dkN [(3, 3)] p0)  (hO : dkOk I0) : Met l yX5_found wsX5_found (dkR 0) (dkPc g z [.ref (z + 0), .int p0] I0) (dkQi g z (fun r I1 => dkF [(0, 0, 3, 3)] I0 I1 ∧ dkOk I1 ∧ ((dkN [(-1000013, -1000013)] r ∧ dkN [(3, 3)] (I1 0 3) ∧ ((-1000010 : Int32) - p0).toInt = (-1000010 : Int) - p0.toInt ∧ r = (-1000010 : Int32) - p0 ∧ I1 0 3 = p0 ∧ True)))) 0 0 (dkA z) := by
  refine Met.ofW (cc := cX5_found) (maxL := 2) (ret := (some .int)) (by decide) rfl ?_
  intro p e s m args below meth c s₁ B hml hv
  obtain ⟨ha, hW, hK, hT⟩ := hv
  have hx := B.exec
  have hb := B.bytes
  have hr := B.returns
  have hts := atoms_spec (ws := wsX5_found) B.pre
  have hown : s.vm.findClass RX5 = some m.cls := findClass_of_methodNamed B.named
  have hlocks := B.notSynchronized
  have hS : va_S (dkA z) s.heap s.heap [] := va_S.rf
  have hF : dkF [(0, 0, 3, 3)] I0 I0 := dkF_rf _ _
  have hl := lv_entry ([.ref (z + 0), .int p0]) (n := 2) (Nat.le_of_ble_eq_true rfl)
  have hgo : entryFrame m args 2 = entryFrame m ([.ref (z + 0), .int p0] : List Value).toArray 2 := by rw [ha]
  rw [hgo, lg_entry_eq]
  generalize (lg_sl ([.ref (z + 0), .int p0]) ++ List.replicate (2 - (lg_sl ([.ref (z + 0), .int p0])).length) Slot.unset).toArray = ls at hl ⊢
  have hl : lv_has ls 2 [(0, .ref (z + 0)), (1, .int p0)] := hl
  refine lv_aload_n hx hb dX5_found_0 rfl (lv_at hl 0 rfl) ?_
  refine lv_iload_n hx hb dX5_found_1 rfl (lv_at hl 1 rfl) ?_
  refine dk_put (k := 0) hx hb hts iX5_found_5 tyX5 tyX5_ok nmX5 hown hK hW (dk_at0 hW) hS rfl 3 (by decide) (hts (.fieldLink RX5 292 "DogKings" "finding" "I") (List.mem_of_getElem? (i := 1) rfl)) rfl rfl (Nat.le_of_ble_eq_true rfl) rfl dX5_found_2 (fun I1 H1 L1 eI1 hW hS => ?_)
  have eI1 : I1 = dkU I0 0 3 p0 := eI1
  have hO := dkO_set hO eI1 (dkN_sub dp0 rfl)
  have hF := dkF_set hF eI1 rfl
  refine lv_ldcw (v := (-1000010)) hx hb hown (hts (.constant RX5 295 (-1000010)) (List.mem_of_getElem? (i := 2) rfl)) dX5_found_5 ?_
  refine lv_iload_n hx hb dX5_found_8 rfl (lv_at hl 1 rfl) ?_
  refine lv_isub hx hb dX5_found_9 ?_
  refine lv_topi (fun v2 ev2 => ?_)
  have dv2 : dkN [(-1000013, -1000013)] v2 := by rw [ev2]; exact dkN_subt (dkN_lit (x := (-1000010)) (-1000010) rfl) dp0 rfl
  have xv2 : v2 = (-1000010 : Int32) - p0 := by rw [ev2]
  have q3 : ((-1000010 : Int32) - p0).toInt = (-1000010 : Int) - p0.toInt := by first | (rw [← xv2]; exact (by rw [ev2]; exact dk_subE (dkN_lit (x := (-1000010)) (-1000010) rfl) dp0 rfl)) | (subst xv2; exact (by rw [ev2]; exact dk_subE (dkN_lit (x := (-1000010)) (-1000010) rfl) dp0 rfl))
  exact W.iret (v := v2) hx hb hr (fun t ht hW9 => ⟨⟨v2, I1, rfl, ⟨hF, hO, ⟨dkN_sub dv2 rfl, (show dkN [(3, 3)] (I1 0 3) from dkN_sub (by rw [eI1, dkU_ss]; exact dp0) rfl), q3, xv2, (by rw [eI1, dkU_ss]), trivial⟩⟩, dkW_eq ht hW⟩, hS.F ht⟩) hS.2.2 dX5_found_10
