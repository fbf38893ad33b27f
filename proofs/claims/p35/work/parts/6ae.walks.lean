set_option maxHeartbeats 4000000 in
set_option maxRecDepth 100000 in
theorem h_X2_number_1 (l : Launch) (g : dkG) (z : Nat) (I0 : dkI) (p0 : Int32) (p1 : Int32) (dp0 : dkN [(1, 1)] p0) (dp1 : dkN [(30, 30)] p1) (hO : dkOk I0) : Met l yX2_number wsX2_number (dkR 1) (dkPc g z [.ref (z + 12), .int p0, .int p1] I0) (dkQi g z (fun r I1 => dkF [(12, 12, 2, 2), (12, 12, 4, 5)] I0 I1 ∧ dkOk I1 ∧ ((dkN [(1, 30)] r ∧ dkN [(1, 90)] (I1 12 1) ∧ dkN [(1, 90)] (I1 12 2) ∧ (dkNg (I0 13) (I0 12 1) p0 p1 (I0 12 2)).1 = 0 ∧ r = dkNn (I0 13) (I0 12 1) (I0 12 2) ∧ I1 12 2 = (dkNg (I0 13) (I0 12 1) p0 p1 (I0 12 2)).2 ∧ I1 12 5 = I0 12 5 ∧ True) ∨ (dkN [(-1000000, -1000000)] r ∧ (dkNg (I0 13) (I0 12 1) p0 p1 (I0 12 2)).1 ≠ 0 ∧ r = (-1000000) ∧ I1 12 4 = (dkNg (I0 13) (I0 12 1) p0 p1 (I0 12 2)).2 ∧ I1 12 5 = (dkNg (I0 13) (I0 12 1) p0 p1 (I0 12 2)).1 ∧ True)))) 0 0 (dkA z) := by
  refine dk_weakI (fx_X2_number_6 l g z I0 p0 p1 dp0 dp1 hO) (fun r I1 h => ?_)
  obtain ⟨hF, hO1, hc⟩ := h
  have b0 : dkN [(0, 90)] (I0 12 2) := hO 12 2
  have b1 : dkN [(0, 90)] (I0 12 1) := hO 12 1
  obtain ⟨p0_, hp0_, a1, a2⟩ := b0
  rw [List.mem_singleton] at hp0_
  subst hp0_
  simp only at a1 a2
  obtain ⟨p1_, hp1_, a3, a4⟩ := b1
  rw [List.mem_singleton] at hp1_
  subst hp1_
  simp only at a3 a4
  have e1 : (I0 12 2 + 1).toInt = (I0 12 2).toInt + 1 := by rw [Int32.toInt_add]; exact dk_bm (by show _ ≤ (I0 12 2).toInt + 1; omega) (by show (I0 12 2).toInt + 1 ≤ _; omega)
  have e2 : (I0 12 2 + 1 + 1).toInt = (I0 12 2).toInt + 2 := (show (I0 12 2 + 1 + 1).toInt = (I0 12 2).toInt + 1 + 1 by rw [Int32.toInt_add, e1]; exact dk_bm (by show _ ≤ (I0 12 2).toInt + 1 + 1; omega) (by show (I0 12 2).toInt + 1 + 1 ≤ _; omega)).trans (by omega)
  have k0 : Int32.toNatClampNeg (I0 12 2) = (I0 12 2).toInt.toNat := rfl
  have k1 : Int32.toNatClampNeg (I0 12 2 + 1) = ((I0 12 2).toInt + 1).toNat := by show (I0 12 2 + 1).toInt.toNat = _; rw [e1]
  have k2 : Int32.toNatClampNeg (I0 12 2 + 1 + 1) = ((I0 12 2).toInt + 2).toNat := by show (I0 12 2 + 1 + 1).toInt.toNat = _; rw [e2]
  simp only [k0, k1, k2] at hc
  refine ⟨hF, hO1, ?_⟩
  rcases hc with ⟨d, G0, G1, u0, ER, H12_2, H12_4, H12_5, -⟩ | ⟨d, G0, G1, G2, G3, u0, u1, ER, H12_2, H12_4, H12_5, -⟩ | ⟨d, G0, G1, G2, G3, u0, u1, u2, ER, H12_2, H12_4, H12_5, -⟩ | ⟨d, G0, G1, G2, G3, u0, u1, u2, u3, u4, u5, u6, u7, u8, u9, u10, u11, u12, ER, H12_2, H12_4, H12_5, -⟩ | ⟨d, G0, G1, u0, u1, u2, u3, u4, u5, u6, u7, u8, u9, u10, u11, u12, u13, ER, H12_2, H12_4, H12_5, -⟩ | ⟨d, G0, G1, G2, G3, u0, u1, u2, u3, u4, u5, u6, u7, u8, u9, u10, u11, u12, u13, ER, H12_2, H12_4, H12_5, -⟩ | ⟨d, G0, G1, G2, G3, u0, u1, u2, u3, u4, u5, u6, u7, u8, u9, u10, u11, u12, u13, ER, H12_2, H12_4, H12_5, -⟩ | ⟨d, G0, G1, u0, u1, u2, u3, u4, u5, u6, u7, u8, u9, u10, u11, u12, u13, u14, ER, H12_2, H12_4, H12_5, -⟩ | ⟨d, G0, G1, G2, G3, u0, u1, u2, u3, u4, u5, u6, u7, u8, u9, u10, u11, u12, u13, u14, ER, H12_2, H12_4, H12_5, -⟩ | ⟨d, G0, G1, G2, G3, u0, u1, u2, u3, u4, u5, u6, u7, u8, u9, u10, u11, u12, u13, u14, ER, H12_2, H12_4, H12_5, -⟩ | ⟨d, G0, G1, u0, u1, u2, u3, u4, u5, u6, u7, u8, u9, u10, u11, u12, u13, u14, u15, ER, H12_2, H12_4, H12_5, -⟩ | ⟨d, G0, G1, G2, G3, u0, u1, u2, u3, u4, u5, u6, u7, u8, u9, u10, u11, u12, u13, u14, u15, ER, H12_2, H12_4, H12_5, -⟩ | ⟨d, G0, G1, G2, G3, u0, u1, u2, u3, u4, u5, u6, u7, u8, u9, u10, u11, u12, u13, u14, u15, u16, u17, u18, u19, u20, u21, ER, H12_2, H12_4, H12_5, -⟩ | ⟨d, G0, G1, u0, u1, u2, u3, u4, u5, u6, u7, u8, u9, u10, u11, u12, u13, u14, u15, u16, u17, u18, u19, u20, u21, u22, ER, H12_2, H12_4, H12_5, -⟩ | ⟨d, G0, G1, G2, G3, u0, u1, u2, u3, u4, u5, u6, u7, u8, u9, u10, u11, u12, u13, u14, u15, u16, u17, u18, u19, u20, u21, u22, ER, H12_2, H12_4, H12_5, -⟩ | ⟨d, G0, G1, G2, G3, u0, u1, u2, u3, u4, u5, u6, u7, u8, u9, u10, u11, u12, u13, u14, u15, u16, u17, u18, u19, u20, u21, u22, ER, H12_2, H12_4, H12_5, -⟩ | ⟨d, G0, G1, u0, u1, u2, u3, u4, u5, u6, u7, u8, u9, u10, u11, u12, u13, u14, u15, u16, u17, u18, u19, u20, u21, u22, u23, ER, H12_2, H12_4, H12_5, -⟩ | ⟨d, G0, G1, G2, G3, u0, u1, u2, u3, u4, u5, u6, u7, u8, u9, u10, u11, u12, u13, u14, u15, u16, u17, u18, u19, u20, u21, u22, u23, ER, H12_2, H12_4, H12_5, -⟩ | ⟨d, G0, G1, G2, G3, u0, u1, u2, u3, u4, u5, u6, u7, u8, u9, u10, u11, u12, u13, u14, u15, u16, u17, u18, u19, u20, u21, u22, u23, ER, H12_2, H12_4, H12_5, -⟩ | ⟨d, G0, G1, u0, u1, u2, u3, u4, u5, u6, u7, u8, u9, u10, u11, u12, u13, u14, u15, u16, u17, u18, u19, u20, u21, u22, u23, u24, ER, H12_2, H12_4, H12_5, -⟩ | ⟨d, G0, G1, G2, G3, u0, u1, u2, u3, u4, u5, u6, u7, u8, u9, u10, u11, u12, u13, u14, u15, u16, u17, u18, u19, u20, u21, u22, u23, u24, ER, H12_2, H12_4, H12_5, -⟩ | ⟨d, G0, G1, G2, G3, u0, u1, u2, u3, u4, u5, u6, u7, u8, u9, u10, u11, u12, u13, u14, u15, u16, u17, u18, u19, u20, u21, u22, u23, u24, u25, u26, u27, u28, u29, ER, H12_2, H12_4, H12_5, -⟩ | ⟨d, G0, G1, G2, G3, u0, u1, u2, u3, u4, u5, u6, u7, u8, u9, u10, u11, u12, u13, u14, u15, u16, u17, u18, u19, u20, u21, u22, u23, u24, u25, u26, u27, u28, u29, u30, ER, H12_2, H12_4, H12_5, -⟩ | ⟨d, G0, G1, G2, G3, u0, u1, u2, u3, u4, u5, u6, u7, u8, u9, u10, u11, u12, u13, u14, u15, u16, u17, u18, u19, u20, u21, u22, u23, u24, u25, u26, u27, u28, u29, u30, u31, ER, H12_2, H12_4, H12_5, -⟩ | ⟨d, G0, G1, G2, G3, u0, u1, u2, u3, u4, u5, u6, u7, u8, u9, u10, u11, u12, u13, u14, u15, u16, u17, u18, u19, u20, u21, u22, u23, u24, u25, u26, u27, u28, u29, u30, u31, u32, ER, H12_2, H12_4, H12_5, -⟩
  ·
    have e : dkNg (I0 13) (I0 12 1) p0 p1 (I0 12 2) = (1, I0 12 2) := dkNg_1 (by first | (rw [(dkNv_0 (T := I0 13) (n := (I0 12 1).toInt) (a := (I0 12 2).toInt) (by unfold dkDg; omega))]; decide) | (rw [(dkNv_3 (T := I0 13) (n := (I0 12 1).toInt) (a := (I0 12 2).toInt) (by unfold dkDg; omega) (by unfold dkDg; omega) (by unfold dkDg; omega))]; decide))
    exact Or.inr ⟨dkN_sub d rfl, (dkE_k e (by decide)), ER, (H12_4.trans (congrArg Prod.snd e).symm), (H12_5.trans (congrArg Prod.fst e).symm), trivial⟩
  ·
    have e : dkNg (I0 13) (I0 12 1) p0 p1 (I0 12 2) = (1, I0 12 2) := dkNg_1 (by first | (rw [(dkNv_0 (T := I0 13) (n := (I0 12 1).toInt) (a := (I0 12 2).toInt) (by unfold dkDg; omega))]; decide) | (rw [(dkNv_3 (T := I0 13) (n := (I0 12 1).toInt) (a := (I0 12 2).toInt) (by unfold dkDg; omega) (by unfold dkDg; omega) (by unfold dkDg; omega))]; decide))
    exact Or.inr ⟨dkN_sub d rfl, (dkE_k e (by decide)), ER, (H12_4.trans (congrArg Prod.snd e).symm), (H12_5.trans (congrArg Prod.fst e).symm), trivial⟩
  ·
    have e : dkNg (I0 13) (I0 12 1) p0 p1 (I0 12 2) = (1, I0 12 2) := dkNg_1 (by first | (rw [(dkNv_0 (T := I0 13) (n := (I0 12 1).toInt) (a := (I0 12 2).toInt) (by unfold dkDg; omega))]; decide) | (rw [(dkNv_3 (T := I0 13) (n := (I0 12 1).toInt) (a := (I0 12 2).toInt) (by unfold dkDg; omega) (by unfold dkDg; omega) (by unfold dkDg; omega))]; decide))
    exact Or.inr ⟨dkN_sub d rfl, (dkE_k e (by decide)), ER, (H12_4.trans (congrArg Prod.snd e).symm), (H12_5.trans (congrArg Prod.fst e).symm), trivial⟩
  ·
    have e : dkNg (I0 13) (I0 12 1) p0 p1 (I0 12 2) = (2, I0 12 2) := by
      first | exact dkNg_2 (by rw [(dkNv_1 (T := I0 13) (n := (I0 12 1).toInt) (a := (I0 12 2).toInt) (by unfold dkDg; omega) (by unfold dkDg; omega)).1]; omega) (by rw [(dkNv_1 (T := I0 13) (n := (I0 12 1).toInt) (a := (I0 12 2).toInt) (by unfold dkDg; omega) (by unfold dkDg; omega)).1]; omega) | exact dkNg_2 (by rw [(dkNv_2 (T := I0 13) (n := (I0 12 1).toInt) (a := (I0 12 2).toInt) (by unfold dkDg; omega) (by unfold dkDg; omega) (by unfold dkDg; omega)).1]; omega) (by rw [(dkNv_2 (T := I0 13) (n := (I0 12 1).toInt) (a := (I0 12 2).toInt) (by unfold dkDg; omega) (by unfold dkDg; omega) (by unfold dkDg; omega)).1]; omega)
    exact Or.inr ⟨dkN_sub d rfl, (dkE_k e (by decide)), ER, (H12_4.trans (congrArg Prod.snd e).symm), (H12_5.trans (congrArg Prod.fst e).symm), trivial⟩
  ·
    have hv : 0 ≤ dkNv (I0 13) (I0 12 1).toInt (I0 12 2).toInt ∧ dkNv (I0 13) (I0 12 1).toInt (I0 12 2).toInt = r.toInt ∧ (I1 12 2).toInt = dkNe (I0 13) (I0 12 1).toInt (I0 12 2).toInt := by
      first | (rw [(dkNv_1 (T := I0 13) (n := (I0 12 1).toInt) (a := (I0 12 2).toInt) (by unfold dkDg; omega) (by unfold dkDg; omega)).1, (dkNv_1 (T := I0 13) (n := (I0 12 1).toInt) (a := (I0 12 2).toInt) (by unfold dkDg; omega) (by unfold dkDg; omega)).2]; rw [ER, H12_2]; refine ⟨?_, ?_, ?_⟩ <;> omega) | (rw [(dkNv_2 (T := I0 13) (n := (I0 12 1).toInt) (a := (I0 12 2).toInt) (by unfold dkDg; omega) (by unfold dkDg; omega) (by unfold dkDg; omega)).1, (dkNv_2 (T := I0 13) (n := (I0 12 1).toInt) (a := (I0 12 2).toInt) (by unfold dkDg; omega) (by unfold dkDg; omega) (by unfold dkDg; omega)).2]; rw [ER, H12_2]; refine ⟨?_, ?_, ?_⟩ <;> omega)
    have e : dkNg (I0 13) (I0 12 1) p0 p1 (I0 12 2) = (0, I1 12 2) := (dkNg_0 (by omega) (by rw [hv.2.1, ER]; omega) (by rw [hv.2.1, ER]; omega)).trans (by rw [dk_isI hv.2.2])
    have e : dkNg (I0 13) (I0 12 1) p0 p1 (I0 12 2) = (0, (I0 12 2) + 1) := e.trans (by rw [H12_2])
    exact Or.inl ⟨dkN_sub d rfl, dkN_sub G0 rfl, dkN_sub G1 rfl, (congrArg Prod.fst e), (dk_isI hv.2.1.symm), (H12_2.trans (congrArg Prod.snd e).symm), H12_5, trivial⟩
  ·
    have e : dkNg (I0 13) (I0 12 1) p0 p1 (I0 12 2) = (2, I0 12 2) := by
      first | exact dkNg_2 (by rw [(dkNv_1 (T := I0 13) (n := (I0 12 1).toInt) (a := (I0 12 2).toInt) (by unfold dkDg; omega) (by unfold dkDg; omega)).1]; omega) (by rw [(dkNv_1 (T := I0 13) (n := (I0 12 1).toInt) (a := (I0 12 2).toInt) (by unfold dkDg; omega) (by unfold dkDg; omega)).1]; omega) | exact dkNg_2 (by rw [(dkNv_2 (T := I0 13) (n := (I0 12 1).toInt) (a := (I0 12 2).toInt) (by unfold dkDg; omega) (by unfold dkDg; omega) (by unfold dkDg; omega)).1]; omega) (by rw [(dkNv_2 (T := I0 13) (n := (I0 12 1).toInt) (a := (I0 12 2).toInt) (by unfold dkDg; omega) (by unfold dkDg; omega) (by unfold dkDg; omega)).1]; omega)
    exact Or.inr ⟨dkN_sub d rfl, (dkE_k e (by decide)), ER, (H12_4.trans (congrArg Prod.snd e).symm), (H12_5.trans (congrArg Prod.fst e).symm), trivial⟩
  ·
    have e : dkNg (I0 13) (I0 12 1) p0 p1 (I0 12 2) = (2, I0 12 2) := by
      first | exact dkNg_2 (by rw [(dkNv_1 (T := I0 13) (n := (I0 12 1).toInt) (a := (I0 12 2).toInt) (by unfold dkDg; omega) (by unfold dkDg; omega)).1]; omega) (by rw [(dkNv_1 (T := I0 13) (n := (I0 12 1).toInt) (a := (I0 12 2).toInt) (by unfold dkDg; omega) (by unfold dkDg; omega)).1]; omega) | exact dkNg_2 (by rw [(dkNv_2 (T := I0 13) (n := (I0 12 1).toInt) (a := (I0 12 2).toInt) (by unfold dkDg; omega) (by unfold dkDg; omega) (by unfold dkDg; omega)).1]; omega) (by rw [(dkNv_2 (T := I0 13) (n := (I0 12 1).toInt) (a := (I0 12 2).toInt) (by unfold dkDg; omega) (by unfold dkDg; omega) (by unfold dkDg; omega)).1]; omega)
    exact Or.inr ⟨dkN_sub d rfl, (dkE_k e (by decide)), ER, (H12_4.trans (congrArg Prod.snd e).symm), (H12_5.trans (congrArg Prod.fst e).symm), trivial⟩
  ·
    have hv : 0 ≤ dkNv (I0 13) (I0 12 1).toInt (I0 12 2).toInt ∧ dkNv (I0 13) (I0 12 1).toInt (I0 12 2).toInt = r.toInt ∧ (I1 12 2).toInt = dkNe (I0 13) (I0 12 1).toInt (I0 12 2).toInt := by
      first | (rw [(dkNv_1 (T := I0 13) (n := (I0 12 1).toInt) (a := (I0 12 2).toInt) (by unfold dkDg; omega) (by unfold dkDg; omega)).1, (dkNv_1 (T := I0 13) (n := (I0 12 1).toInt) (a := (I0 12 2).toInt) (by unfold dkDg; omega) (by unfold dkDg; omega)).2]; rw [ER, H12_2]; refine ⟨?_, ?_, ?_⟩ <;> omega) | (rw [(dkNv_2 (T := I0 13) (n := (I0 12 1).toInt) (a := (I0 12 2).toInt) (by unfold dkDg; omega) (by unfold dkDg; omega) (by unfold dkDg; omega)).1, (dkNv_2 (T := I0 13) (n := (I0 12 1).toInt) (a := (I0 12 2).toInt) (by unfold dkDg; omega) (by unfold dkDg; omega) (by unfold dkDg; omega)).2]; rw [ER, H12_2]; refine ⟨?_, ?_, ?_⟩ <;> omega)
    have e : dkNg (I0 13) (I0 12 1) p0 p1 (I0 12 2) = (0, I1 12 2) := (dkNg_0 (by omega) (by rw [hv.2.1, ER]; omega) (by rw [hv.2.1, ER]; omega)).trans (by rw [dk_isI hv.2.2])
    have e : dkNg (I0 13) (I0 12 1) p0 p1 (I0 12 2) = (0, (I0 12 2) + 1) := e.trans (by rw [H12_2])
    exact Or.inl ⟨dkN_sub d rfl, dkN_sub G0 rfl, dkN_sub G1 rfl, (congrArg Prod.fst e), (dk_isI hv.2.1.symm), (H12_2.trans (congrArg Prod.snd e).symm), H12_5, trivial⟩
  ·
    have e : dkNg (I0 13) (I0 12 1) p0 p1 (I0 12 2) = (2, I0 12 2) := by
      first | exact dkNg_2 (by rw [(dkNv_1 (T := I0 13) (n := (I0 12 1).toInt) (a := (I0 12 2).toInt) (by unfold dkDg; omega) (by unfold dkDg; omega)).1]; omega) (by rw [(dkNv_1 (T := I0 13) (n := (I0 12 1).toInt) (a := (I0 12 2).toInt) (by unfold dkDg; omega) (by unfold dkDg; omega)).1]; omega) | exact dkNg_2 (by rw [(dkNv_2 (T := I0 13) (n := (I0 12 1).toInt) (a := (I0 12 2).toInt) (by unfold dkDg; omega) (by unfold dkDg; omega) (by unfold dkDg; omega)).1]; omega) (by rw [(dkNv_2 (T := I0 13) (n := (I0 12 1).toInt) (a := (I0 12 2).toInt) (by unfold dkDg; omega) (by unfold dkDg; omega) (by unfold dkDg; omega)).1]; omega)
    exact Or.inr ⟨dkN_sub d rfl, (dkE_k e (by decide)), ER, (H12_4.trans (congrArg Prod.snd e).symm), (H12_5.trans (congrArg Prod.fst e).symm), trivial⟩
  ·
    have e : dkNg (I0 13) (I0 12 1) p0 p1 (I0 12 2) = (2, I0 12 2) := by
      first | exact dkNg_2 (by rw [(dkNv_1 (T := I0 13) (n := (I0 12 1).toInt) (a := (I0 12 2).toInt) (by unfold dkDg; omega) (by unfold dkDg; omega)).1]; omega) (by rw [(dkNv_1 (T := I0 13) (n := (I0 12 1).toInt) (a := (I0 12 2).toInt) (by unfold dkDg; omega) (by unfold dkDg; omega)).1]; omega) | exact dkNg_2 (by rw [(dkNv_2 (T := I0 13) (n := (I0 12 1).toInt) (a := (I0 12 2).toInt) (by unfold dkDg; omega) (by unfold dkDg; omega) (by unfold dkDg; omega)).1]; omega) (by rw [(dkNv_2 (T := I0 13) (n := (I0 12 1).toInt) (a := (I0 12 2).toInt) (by unfold dkDg; omega) (by unfold dkDg; omega) (by unfold dkDg; omega)).1]; omega)
    exact Or.inr ⟨dkN_sub d rfl, (dkE_k e (by decide)), ER, (H12_4.trans (congrArg Prod.snd e).symm), (H12_5.trans (congrArg Prod.fst e).symm), trivial⟩
  ·
    have hv : 0 ≤ dkNv (I0 13) (I0 12 1).toInt (I0 12 2).toInt ∧ dkNv (I0 13) (I0 12 1).toInt (I0 12 2).toInt = r.toInt ∧ (I1 12 2).toInt = dkNe (I0 13) (I0 12 1).toInt (I0 12 2).toInt := by
      first | (rw [(dkNv_1 (T := I0 13) (n := (I0 12 1).toInt) (a := (I0 12 2).toInt) (by unfold dkDg; omega) (by unfold dkDg; omega)).1, (dkNv_1 (T := I0 13) (n := (I0 12 1).toInt) (a := (I0 12 2).toInt) (by unfold dkDg; omega) (by unfold dkDg; omega)).2]; rw [ER, H12_2]; refine ⟨?_, ?_, ?_⟩ <;> omega) | (rw [(dkNv_2 (T := I0 13) (n := (I0 12 1).toInt) (a := (I0 12 2).toInt) (by unfold dkDg; omega) (by unfold dkDg; omega) (by unfold dkDg; omega)).1, (dkNv_2 (T := I0 13) (n := (I0 12 1).toInt) (a := (I0 12 2).toInt) (by unfold dkDg; omega) (by unfold dkDg; omega) (by unfold dkDg; omega)).2]; rw [ER, H12_2]; refine ⟨?_, ?_, ?_⟩ <;> omega)
    have e : dkNg (I0 13) (I0 12 1) p0 p1 (I0 12 2) = (0, I1 12 2) := (dkNg_0 (by omega) (by rw [hv.2.1, ER]; omega) (by rw [hv.2.1, ER]; omega)).trans (by rw [dk_isI hv.2.2])
    have e : dkNg (I0 13) (I0 12 1) p0 p1 (I0 12 2) = (0, (I0 12 2) + 1) := e.trans (by rw [H12_2])
    exact Or.inl ⟨dkN_sub d rfl, dkN_sub G0 rfl, dkN_sub G1 rfl, (congrArg Prod.fst e), (dk_isI hv.2.1.symm), (H12_2.trans (congrArg Prod.snd e).symm), H12_5, trivial⟩
  ·
    have e : dkNg (I0 13) (I0 12 1) p0 p1 (I0 12 2) = (2, I0 12 2) := by
      first | exact dkNg_2 (by rw [(dkNv_1 (T := I0 13) (n := (I0 12 1).toInt) (a := (I0 12 2).toInt) (by unfold dkDg; omega) (by unfold dkDg; omega)).1]; omega) (by rw [(dkNv_1 (T := I0 13) (n := (I0 12 1).toInt) (a := (I0 12 2).toInt) (by unfold dkDg; omega) (by unfold dkDg; omega)).1]; omega) | exact dkNg_2 (by rw [(dkNv_2 (T := I0 13) (n := (I0 12 1).toInt) (a := (I0 12 2).toInt) (by unfold dkDg; omega) (by unfold dkDg; omega) (by unfold dkDg; omega)).1]; omega) (by rw [(dkNv_2 (T := I0 13) (n := (I0 12 1).toInt) (a := (I0 12 2).toInt) (by unfold dkDg; omega) (by unfold dkDg; omega) (by unfold dkDg; omega)).1]; omega)
    exact Or.inr ⟨dkN_sub d rfl, (dkE_k e (by decide)), ER, (H12_4.trans (congrArg Prod.snd e).symm), (H12_5.trans (congrArg Prod.fst e).symm), trivial⟩
  ·
    have e : dkNg (I0 13) (I0 12 1) p0 p1 (I0 12 2) = (2, I0 12 2) := by
      first | exact dkNg_2 (by rw [(dkNv_1 (T := I0 13) (n := (I0 12 1).toInt) (a := (I0 12 2).toInt) (by unfold dkDg; omega) (by unfold dkDg; omega)).1]; omega) (by rw [(dkNv_1 (T := I0 13) (n := (I0 12 1).toInt) (a := (I0 12 2).toInt) (by unfold dkDg; omega) (by unfold dkDg; omega)).1]; omega) | exact dkNg_2 (by rw [(dkNv_2 (T := I0 13) (n := (I0 12 1).toInt) (a := (I0 12 2).toInt) (by unfold dkDg; omega) (by unfold dkDg; omega) (by unfold dkDg; omega)).1]; omega) (by rw [(dkNv_2 (T := I0 13) (n := (I0 12 1).toInt) (a := (I0 12 2).toInt) (by unfold dkDg; omega) (by unfold dkDg; omega) (by unfold dkDg; omega)).1]; omega)
    exact Or.inr ⟨dkN_sub d rfl, (dkE_k e (by decide)), ER, (H12_4.trans (congrArg Prod.snd e).symm), (H12_5.trans (congrArg Prod.fst e).symm), trivial⟩
  ·
    have hv : 0 ≤ dkNv (I0 13) (I0 12 1).toInt (I0 12 2).toInt ∧ dkNv (I0 13) (I0 12 1).toInt (I0 12 2).toInt = r.toInt ∧ (I1 12 2).toInt = dkNe (I0 13) (I0 12 1).toInt (I0 12 2).toInt := by
      first | (rw [(dkNv_1 (T := I0 13) (n := (I0 12 1).toInt) (a := (I0 12 2).toInt) (by unfold dkDg; omega) (by unfold dkDg; omega)).1, (dkNv_1 (T := I0 13) (n := (I0 12 1).toInt) (a := (I0 12 2).toInt) (by unfold dkDg; omega) (by unfold dkDg; omega)).2]; rw [ER, H12_2]; refine ⟨?_, ?_, ?_⟩ <;> omega) | (rw [(dkNv_2 (T := I0 13) (n := (I0 12 1).toInt) (a := (I0 12 2).toInt) (by unfold dkDg; omega) (by unfold dkDg; omega) (by unfold dkDg; omega)).1, (dkNv_2 (T := I0 13) (n := (I0 12 1).toInt) (a := (I0 12 2).toInt) (by unfold dkDg; omega) (by unfold dkDg; omega) (by unfold dkDg; omega)).2]; rw [ER, H12_2]; refine ⟨?_, ?_, ?_⟩ <;> omega)
    have e : dkNg (I0 13) (I0 12 1) p0 p1 (I0 12 2) = (0, I1 12 2) := (dkNg_0 (by omega) (by rw [hv.2.1, ER]; omega) (by rw [hv.2.1, ER]; omega)).trans (by rw [dk_isI hv.2.2])
    have e : dkNg (I0 13) (I0 12 1) p0 p1 (I0 12 2) = (0, ((I0 12 2) + 1) + 1) := e.trans (by rw [H12_2])
    exact Or.inl ⟨dkN_sub d rfl, dkN_sub G0 rfl, dkN_sub G1 rfl, (congrArg Prod.fst e), (dk_isI hv.2.1.symm), (H12_2.trans (congrArg Prod.snd e).symm), H12_5, trivial⟩
  ·
    have e : dkNg (I0 13) (I0 12 1) p0 p1 (I0 12 2) = (2, I0 12 2) := by
      first | exact dkNg_2 (by rw [(dkNv_1 (T := I0 13) (n := (I0 12 1).toInt) (a := (I0 12 2).toInt) (by unfold dkDg; omega) (by unfold dkDg; omega)).1]; omega) (by rw [(dkNv_1 (T := I0 13) (n := (I0 12 1).toInt) (a := (I0 12 2).toInt) (by unfold dkDg; omega) (by unfold dkDg; omega)).1]; omega) | exact dkNg_2 (by rw [(dkNv_2 (T := I0 13) (n := (I0 12 1).toInt) (a := (I0 12 2).toInt) (by unfold dkDg; omega) (by unfold dkDg; omega) (by unfold dkDg; omega)).1]; omega) (by rw [(dkNv_2 (T := I0 13) (n := (I0 12 1).toInt) (a := (I0 12 2).toInt) (by unfold dkDg; omega) (by unfold dkDg; omega) (by unfold dkDg; omega)).1]; omega)
    exact Or.inr ⟨dkN_sub d rfl, (dkE_k e (by decide)), ER, (H12_4.trans (congrArg Prod.snd e).symm), (H12_5.trans (congrArg Prod.fst e).symm), trivial⟩
  ·
    have e : dkNg (I0 13) (I0 12 1) p0 p1 (I0 12 2) = (2, I0 12 2) := by
      first | exact dkNg_2 (by rw [(dkNv_1 (T := I0 13) (n := (I0 12 1).toInt) (a := (I0 12 2).toInt) (by unfold dkDg; omega) (by unfold dkDg; omega)).1]; omega) (by rw [(dkNv_1 (T := I0 13) (n := (I0 12 1).toInt) (a := (I0 12 2).toInt) (by unfold dkDg; omega) (by unfold dkDg; omega)).1]; omega) | exact dkNg_2 (by rw [(dkNv_2 (T := I0 13) (n := (I0 12 1).toInt) (a := (I0 12 2).toInt) (by unfold dkDg; omega) (by unfold dkDg; omega) (by unfold dkDg; omega)).1]; omega) (by rw [(dkNv_2 (T := I0 13) (n := (I0 12 1).toInt) (a := (I0 12 2).toInt) (by unfold dkDg; omega) (by unfold dkDg; omega) (by unfold dkDg; omega)).1]; omega)
    exact Or.inr ⟨dkN_sub d rfl, (dkE_k e (by decide)), ER, (H12_4.trans (congrArg Prod.snd e).symm), (H12_5.trans (congrArg Prod.fst e).symm), trivial⟩
  ·
    have hv : 0 ≤ dkNv (I0 13) (I0 12 1).toInt (I0 12 2).toInt ∧ dkNv (I0 13) (I0 12 1).toInt (I0 12 2).toInt = r.toInt ∧ (I1 12 2).toInt = dkNe (I0 13) (I0 12 1).toInt (I0 12 2).toInt := by
      first | (rw [(dkNv_1 (T := I0 13) (n := (I0 12 1).toInt) (a := (I0 12 2).toInt) (by unfold dkDg; omega) (by unfold dkDg; omega)).1, (dkNv_1 (T := I0 13) (n := (I0 12 1).toInt) (a := (I0 12 2).toInt) (by unfold dkDg; omega) (by unfold dkDg; omega)).2]; rw [ER, H12_2]; refine ⟨?_, ?_, ?_⟩ <;> omega) | (rw [(dkNv_2 (T := I0 13) (n := (I0 12 1).toInt) (a := (I0 12 2).toInt) (by unfold dkDg; omega) (by unfold dkDg; omega) (by unfold dkDg; omega)).1, (dkNv_2 (T := I0 13) (n := (I0 12 1).toInt) (a := (I0 12 2).toInt) (by unfold dkDg; omega) (by unfold dkDg; omega) (by unfold dkDg; omega)).2]; rw [ER, H12_2]; refine ⟨?_, ?_, ?_⟩ <;> omega)
    have e : dkNg (I0 13) (I0 12 1) p0 p1 (I0 12 2) = (0, I1 12 2) := (dkNg_0 (by omega) (by rw [hv.2.1, ER]; omega) (by rw [hv.2.1, ER]; omega)).trans (by rw [dk_isI hv.2.2])
    have e : dkNg (I0 13) (I0 12 1) p0 p1 (I0 12 2) = (0, ((I0 12 2) + 1) + 1) := e.trans (by rw [H12_2])
    exact Or.inl ⟨dkN_sub d rfl, dkN_sub G0 rfl, dkN_sub G1 rfl, (congrArg Prod.fst e), (dk_isI hv.2.1.symm), (H12_2.trans (congrArg Prod.snd e).symm), H12_5, trivial⟩
  ·
    have e : dkNg (I0 13) (I0 12 1) p0 p1 (I0 12 2) = (2, I0 12 2) := by
      first | exact dkNg_2 (by rw [(dkNv_1 (T := I0 13) (n := (I0 12 1).toInt) (a := (I0 12 2).toInt) (by unfold dkDg; omega) (by unfold dkDg; omega)).1]; omega) (by rw [(dkNv_1 (T := I0 13) (n := (I0 12 1).toInt) (a := (I0 12 2).toInt) (by unfold dkDg; omega) (by unfold dkDg; omega)).1]; omega) | exact dkNg_2 (by rw [(dkNv_2 (T := I0 13) (n := (I0 12 1).toInt) (a := (I0 12 2).toInt) (by unfold dkDg; omega) (by unfold dkDg; omega) (by unfold dkDg; omega)).1]; omega) (by rw [(dkNv_2 (T := I0 13) (n := (I0 12 1).toInt) (a := (I0 12 2).toInt) (by unfold dkDg; omega) (by unfold dkDg; omega) (by unfold dkDg; omega)).1]; omega)
    exact Or.inr ⟨dkN_sub d rfl, (dkE_k e (by decide)), ER, (H12_4.trans (congrArg Prod.snd e).symm), (H12_5.trans (congrArg Prod.fst e).symm), trivial⟩
  ·
    have e : dkNg (I0 13) (I0 12 1) p0 p1 (I0 12 2) = (2, I0 12 2) := by
      first | exact dkNg_2 (by rw [(dkNv_1 (T := I0 13) (n := (I0 12 1).toInt) (a := (I0 12 2).toInt) (by unfold dkDg; omega) (by unfold dkDg; omega)).1]; omega) (by rw [(dkNv_1 (T := I0 13) (n := (I0 12 1).toInt) (a := (I0 12 2).toInt) (by unfold dkDg; omega) (by unfold dkDg; omega)).1]; omega) | exact dkNg_2 (by rw [(dkNv_2 (T := I0 13) (n := (I0 12 1).toInt) (a := (I0 12 2).toInt) (by unfold dkDg; omega) (by unfold dkDg; omega) (by unfold dkDg; omega)).1]; omega) (by rw [(dkNv_2 (T := I0 13) (n := (I0 12 1).toInt) (a := (I0 12 2).toInt) (by unfold dkDg; omega) (by unfold dkDg; omega) (by unfold dkDg; omega)).1]; omega)
    exact Or.inr ⟨dkN_sub d rfl, (dkE_k e (by decide)), ER, (H12_4.trans (congrArg Prod.snd e).symm), (H12_5.trans (congrArg Prod.fst e).symm), trivial⟩
  ·
    have hv : 0 ≤ dkNv (I0 13) (I0 12 1).toInt (I0 12 2).toInt ∧ dkNv (I0 13) (I0 12 1).toInt (I0 12 2).toInt = r.toInt ∧ (I1 12 2).toInt = dkNe (I0 13) (I0 12 1).toInt (I0 12 2).toInt := by
      first | (rw [(dkNv_1 (T := I0 13) (n := (I0 12 1).toInt) (a := (I0 12 2).toInt) (by unfold dkDg; omega) (by unfold dkDg; omega)).1, (dkNv_1 (T := I0 13) (n := (I0 12 1).toInt) (a := (I0 12 2).toInt) (by unfold dkDg; omega) (by unfold dkDg; omega)).2]; rw [ER, H12_2]; refine ⟨?_, ?_, ?_⟩ <;> omega) | (rw [(dkNv_2 (T := I0 13) (n := (I0 12 1).toInt) (a := (I0 12 2).toInt) (by unfold dkDg; omega) (by unfold dkDg; omega) (by unfold dkDg; omega)).1, (dkNv_2 (T := I0 13) (n := (I0 12 1).toInt) (a := (I0 12 2).toInt) (by unfold dkDg; omega) (by unfold dkDg; omega) (by unfold dkDg; omega)).2]; rw [ER, H12_2]; refine ⟨?_, ?_, ?_⟩ <;> omega)
    have e : dkNg (I0 13) (I0 12 1) p0 p1 (I0 12 2) = (0, I1 12 2) := (dkNg_0 (by omega) (by rw [hv.2.1, ER]; omega) (by rw [hv.2.1, ER]; omega)).trans (by rw [dk_isI hv.2.2])
    have e : dkNg (I0 13) (I0 12 1) p0 p1 (I0 12 2) = (0, ((I0 12 2) + 1) + 1) := e.trans (by rw [H12_2])
    exact Or.inl ⟨dkN_sub d rfl, dkN_sub G0 rfl, dkN_sub G1 rfl, (congrArg Prod.fst e), (dk_isI hv.2.1.symm), (H12_2.trans (congrArg Prod.snd e).symm), H12_5, trivial⟩
  ·
    have e : dkNg (I0 13) (I0 12 1) p0 p1 (I0 12 2) = (2, I0 12 2) := by
      first | exact dkNg_2 (by rw [(dkNv_1 (T := I0 13) (n := (I0 12 1).toInt) (a := (I0 12 2).toInt) (by unfold dkDg; omega) (by unfold dkDg; omega)).1]; omega) (by rw [(dkNv_1 (T := I0 13) (n := (I0 12 1).toInt) (a := (I0 12 2).toInt) (by unfold dkDg; omega) (by unfold dkDg; omega)).1]; omega) | exact dkNg_2 (by rw [(dkNv_2 (T := I0 13) (n := (I0 12 1).toInt) (a := (I0 12 2).toInt) (by unfold dkDg; omega) (by unfold dkDg; omega) (by unfold dkDg; omega)).1]; omega) (by rw [(dkNv_2 (T := I0 13) (n := (I0 12 1).toInt) (a := (I0 12 2).toInt) (by unfold dkDg; omega) (by unfold dkDg; omega) (by unfold dkDg; omega)).1]; omega)
    exact Or.inr ⟨dkN_sub d rfl, (dkE_k e (by decide)), ER, (H12_4.trans (congrArg Prod.snd e).symm), (H12_5.trans (congrArg Prod.fst e).symm), trivial⟩
  ·
    have e : dkNg (I0 13) (I0 12 1) p0 p1 (I0 12 2) = (1, I0 12 2) := dkNg_1 (by first | (rw [(dkNv_0 (T := I0 13) (n := (I0 12 1).toInt) (a := (I0 12 2).toInt) (by unfold dkDg; omega))]; decide) | (rw [(dkNv_3 (T := I0 13) (n := (I0 12 1).toInt) (a := (I0 12 2).toInt) (by unfold dkDg; omega) (by unfold dkDg; omega) (by unfold dkDg; omega))]; decide))
    exact Or.inr ⟨dkN_sub d rfl, (dkE_k e (by decide)), ER, (H12_4.trans (congrArg Prod.snd e).symm), (H12_5.trans (congrArg Prod.fst e).symm), trivial⟩
  ·
    have e : dkNg (I0 13) (I0 12 1) p0 p1 (I0 12 2) = (1, I0 12 2) := dkNg_1 (by first | (rw [(dkNv_0 (T := I0 13) (n := (I0 12 1).toInt) (a := (I0 12 2).toInt) (by unfold dkDg; omega))]; decide) | (rw [(dkNv_3 (T := I0 13) (n := (I0 12 1).toInt) (a := (I0 12 2).toInt) (by unfold dkDg; omega) (by unfold dkDg; omega) (by unfold dkDg; omega))]; decide))
    exact Or.inr ⟨dkN_sub d rfl, (dkE_k e (by decide)), ER, (H12_4.trans (congrArg Prod.snd e).symm), (H12_5.trans (congrArg Prod.fst e).symm), trivial⟩
  ·
    have e : dkNg (I0 13) (I0 12 1) p0 p1 (I0 12 2) = (1, I0 12 2) := dkNg_1 (by first | (rw [(dkNv_0 (T := I0 13) (n := (I0 12 1).toInt) (a := (I0 12 2).toInt) (by unfold dkDg; omega))]; decide) | (rw [(dkNv_3 (T := I0 13) (n := (I0 12 1).toInt) (a := (I0 12 2).toInt) (by unfold dkDg; omega) (by unfold dkDg; omega) (by unfold dkDg; omega))]; decide))
    exact Or.inr ⟨dkN_sub d rfl, (dkE_k e (by decide)), ER, (H12_4.trans (congrArg Prod.snd e).symm), (H12_5.trans (congrArg Prod.fst e).symm), trivial⟩
  ·
    have e : dkNg (I0 13) (I0 12 1) p0 p1 (I0 12 2) = (1, I0 12 2) := dkNg_1 (by first | (rw [(dkNv_0 (T := I0 13) (n := (I0 12 1).toInt) (a := (I0 12 2).toInt) (by unfold dkDg; omega))]; decide) | (rw [(dkNv_3 (T := I0 13) (n := (I0 12 1).toInt) (a := (I0 12 2).toInt) (by unfold dkDg; omega) (by unfold dkDg; omega) (by unfold dkDg; omega))]; decide))
    exact Or.inr ⟨dkN_sub d rfl, (dkE_k e (by decide)), ER, (H12_4.trans (congrArg Prod.snd e).symm), (H12_5.trans (congrArg Prod.fst e).symm), trivial⟩
set_option maxHeartbeats 4000000 in
set_option maxRecDepth 100000 in
theorem fx_X2_takes_6 (l : Launch) (g : dkG) (z : Nat) (I0 : dkI) (p0 : Int32) (dp0 : dkN [(59, 59)] p0)  (hO : dkOk I0) : Met l yX2_takes wsX2_takes (dkR 1) (dkPc g z [.ref (z + 12), .int p0] I0) (dkQi g z (fun r I1 => dkF [(12, 12, 2, 2), (12, 12, 4, 5)] I0 I1 ∧ dkOk I1 ∧ ((dkN [(0, 0)] r ∧ dkN [(0, 90)] (I1 12 4) ∧ dkN [(1, 1)] (I1 12 5) ∧ (I0 12 1).toInt + 0 ≤ (I0 12 2).toInt ∧ (-1000000 : Int) ≠ p0.toInt ∧ r = 0 ∧ I1 12 2 = I0 12 2 ∧ I1 12 4 = I0 12 2 ∧ I1 12 5 = 1 ∧ True) ∨ (dkN [(1, 1)] r ∧ dkN [(1, 90)] (I1 12 1) ∧ dkN [(1, 90)] (I1 12 2) ∧ (I0 12 2).toInt + 1 ≤ (I0 12 1).toInt ∧ (I0 13 (Int32.toNatClampNeg (I0 12 2))).toInt = p0.toInt ∧ ((I0 12 2) + (1 : Int32)).toInt = (I0 12 2).toInt + (1 : Int) ∧ r = 1 ∧ I1 12 2 = (I0 12 2) + (1 : Int32) ∧ I1 12 4 = I0 12 4 ∧ I1 12 5 = I0 12 5 ∧ True) ∨ (dkN [(0, 0)] r ∧ dkN [(1, 90)] (I1 12 1) ∧ dkN [(0, 89)] (I1 12 2) ∧ dkN [(0, 90)] (I1 12 4) ∧ dkN [(1, 1)] (I1 12 5) ∧ (I0 12 2).toInt + 1 ≤ (I0 12 1).toInt ∧ (I0 13 (Int32.toNatClampNeg (I0 12 2))).toInt ≠ p0.toInt ∧ r = 0 ∧ I1 12 2 = I0 12 2 ∧ I1 12 4 = I0 12 2 ∧ I1 12 5 = 1 ∧ True)))) 0 0 (dkA z) := by
  refine Met.ofW (cc := cX2_takes) (maxL := 2) (ret := (some .boolean)) (by decide) rfl ?_
  intro p e s m args below meth c s₁ B hml hv
  obtain ⟨ha, hW, hK, hT⟩ := hv
  have hx := B.exec
  have hb := B.bytes
  have hr := B.returns
  have hts := atoms_spec (ws := wsX2_takes) B.pre
  have hown : s.vm.findClass RX2 = some m.cls := findClass_of_methodNamed B.named
  have hlocks := B.notSynchronized
  have hS : va_S (dkA z) s.heap s.heap [] := va_S.rf
  have hF : dkF [(12, 12, 2, 2), (12, 12, 4, 5)] I0 I0 := dkF_rf _ _
  have hl := lv_entry ([.ref (z + 12), .int p0]) (n := 2) (Nat.le_of_ble_eq_true rfl)
  have hgo : entryFrame m args 2 = entryFrame m ([.ref (z + 12), .int p0] : List Value).toArray 2 := by rw [ha]
  rw [hgo, lg_entry_eq]
  generalize (lg_sl ([.ref (z + 12), .int p0]) ++ List.replicate (2 - (lg_sl ([.ref (z + 12), .int p0])).length) Slot.unset).toArray = ls at hl ⊢
  have hl : lv_has ls 2 [(0, .ref (z + 12)), (1, .int p0)] := hl
  refine lv_aload_n hx hb dX2_takes_0 rfl (lv_at hl 0 rfl) ?_
  refine dk_Vi (As := []) (rest := []) ⟨hx, hb, hml, hown, hts⟩ (fx_X2_coming_1 l g z I0 hO) (cwV 0 hts gX2_takes_X2_coming rfl rfl rfl (by decide +kernel) ⟨Nat.le_of_ble_eq_true rfl, Nat.le_of_ble_eq_true rfl⟩) (dk_at12 hW) rfl hK hT hW hS rfl hl.1 rfl (Nat.le_of_ble_eq_true rfl) dX2_takes_1 ⟨Nat.zero_le _, Nat.zero_le _⟩ (fun v1 I1 H1 L1 hp1 hW hS => ?_)
  obtain ⟨hF1, hO, hc1⟩ := hp1
  have hF := dkF_call hF hF1 rfl
  have eI1 : I0 = I1 := (dkF_nil hF1).symm
  subst eI1
  rcases hc1 with ⟨dv1, x1_0, xr1, -⟩ | hc1
  ·
    have q2 : (I0 12 1).toInt + 0 ≤ (I0 12 2).toInt := x1_0
    have xv1 : v1 = (-1000000) := by have h := xr1; exact h
    refine lv_iload_n hx hb dX2_takes_4 rfl (lv_at hl 1 rfl) ?_
    refine lv_icmp_eq (tgt := 14) hx hb dX2_takes_5 (by decide) (fun c3 => ?_) (fun c3 => ?_)
    ·
      exact (dkN_nil (show dkN [] v1 from dkN_eq1 dv1 dp0 (congrArg Int32.toInt c3) rfl)).elim
    ·
      have q4 : (-1000000 : Int) ≠ p0.toInt := by first | (rw [← xv1]; exact (dk_ne c3)) | (subst xv1; exact (dk_ne c3))
      refine lv_aload_n hx hb dX2_takes_8 rfl (lv_at hl 0 rfl) ?_
      refine lv_iconst (v := 1) hx hb dX2_takes_9 (by decide) ?_
      refine dk_Vi (As := [.int 1]) (rest := []) ⟨hx, hb, hml, hown, hts⟩ (fx_X2_meets_3 l g z I0 1 (dkN_lit (x := 1) (1) rfl) hO) (cwV 1 hts gX2_takes_X2_meets rfl rfl rfl (by decide +kernel) ⟨Nat.le_of_ble_eq_true rfl, Nat.le_of_ble_eq_true rfl⟩) (dk_at12 hW) rfl hK hT hW hS rfl hl.1 rfl (Nat.le_of_ble_eq_true rfl) dX2_takes_10 ⟨Nat.zero_le _, Nat.zero_le _⟩ (fun v5 I5 H5 L5 hp5 hW hS => ?_)
      obtain ⟨hF5, hO, hc5⟩ := hp5
      have hF := dkF_call hF hF5 rfl
      obtain ⟨dv5, f5_12_4, f5_12_5, xr5, xh5_0, xh5_1, xh5_2, -⟩ := hc5
      have y6 : I5 12 2 = I0 12 2 := by have h := xh5_0; exact h
      have y7 : I5 12 4 = I0 12 2 := by have h := xh5_1; exact h
      have y8 : I5 12 5 = 1 := by have h := xh5_2; exact h
      have xv5 : v5 = 0 := by have h := xr5; exact h
      exact W.zret (v := v5) (ty := .boolean) hx hb hr (dkN_zr dv5 rfl) (fun t ht hW9 => ⟨⟨v5, I5, rfl, ⟨hF, hO, Or.inl ⟨dkN_sub dv5 rfl, (show dkN [(0, 90)] (I5 12 4) from dkN_sub f5_12_4 rfl), (show dkN [(1, 1)] (I5 12 5) from dkN_sub f5_12_5 rfl), q2, q4, xv5, y6, y7, y8, trivial⟩⟩, dkW_eq ht hW⟩, hS.F ht⟩) hS.2.2 dX2_takes_13
  ·
    obtain ⟨dv1, f1_12_1, f1_12_2, x1_0, xr1, -⟩ := hc1
    have q9 : (I0 12 2).toInt + 1 ≤ (I0 12 1).toInt := x1_0
    have xv1 : v1 = I0 13 (Int32.toNatClampNeg (I0 12 2)) := by have h := xr1; exact h
    refine lv_iload_n hx hb dX2_takes_4 rfl (lv_at hl 1 rfl) ?_
    refine lv_icmp_eq (tgt := 14) hx hb dX2_takes_5 (by decide) (fun c10 => ?_) (fun c10 => ?_)
    ·
      have q11 : (I0 13 (Int32.toNatClampNeg (I0 12 2))).toInt = p0.toInt := by first | (rw [← xv1]; exact (congrArg Int32.toInt c10)) | (subst xv1; exact (congrArg Int32.toInt c10))
      have d12 : dkN [(59, 59)] v1 := dkN_eq1 dv1 dp0 (congrArg Int32.toInt c10) rfl
      refine lv_aload_n hx hb dX2_takes_14 rfl (lv_at hl 0 rfl) ?_
      refine lv_dup hx hb dX2_takes_15 rfl ?_
      refine dk_get (k := 12) hx hb hts iX2_takes_2 hown hK (dk_at12 hW) rfl 2 (by decide) (hts (.fieldLink RX2 30 "DogKings$Reader" "at" "I") (List.mem_of_getElem? (i := 1) rfl)) rfl dX2_takes_16 ?_
      refine lv_topi (fun v13 ev13 => ?_)
      have dv13 : dkN [(0, 89)] v13 := by rw [ev13]; exact f1_12_2
      have xv13 : v13 = I0 12 2 := ev13.trans rfl
      refine lv_iconst (v := 1) hx hb dX2_takes_19 (by decide) ?_
      refine lv_iadd hx hb dX2_takes_20 ?_
      refine lv_topi (fun v14 ev14 => ?_)
      have dv14 : dkN [(1, 90)] v14 := by rw [ev14]; exact dkN_add dv13 (dkN_lit (x := 1) (1) rfl) rfl
      have xv14 : v14 = (I0 12 2) + (1 : Int32) := by rw [ev14, xv13]
      have q15 : ((I0 12 2) + (1 : Int32)).toInt = (I0 12 2).toInt + (1 : Int) := by first | (rw [← xv14, ← xv13]; exact (by rw [ev14]; exact dk_addE dv13 (dkN_lit (x := 1) (1) rfl) rfl)) | (subst xv14 xv13; exact (by rw [ev14]; exact dk_addE dv13 (dkN_lit (x := 1) (1) rfl) rfl))
      refine dk_put (k := 12) hx hb hts iX2_takes_2 tyX2 tyX2_ok nmX2 hown hK hW (dk_at12 hW) hS rfl 2 (by decide) (hts (.fieldLink RX2 30 "DogKings$Reader" "at" "I") (List.mem_of_getElem? (i := 1) rfl)) rfl rfl (Nat.le_of_ble_eq_true rfl) rfl dX2_takes_21 (fun I16 H16 L16 eI16 hW hS => ?_)
      have eI16 : I16 = dkU I0 12 2 v14 := eI16
      have hO := dkO_set hO eI16 (dkN_sub dv14 rfl)
      have hF := dkF_set hF eI16 rfl
      refine lv_iconst (v := 1) hx hb dX2_takes_24 (by decide) ?_
      exact W.zret (v := 1) (ty := .boolean) hx hb hr rfl (fun t ht hW9 => ⟨⟨1, I16, rfl, ⟨hF, hO, Or.inr (Or.inl ⟨dkN_sub (dkN_lit (x := 1) (1) rfl) rfl, (show dkN [(1, 90)] (I16 12 1) from dkN_sub (by rw [eI16, dkU_sn (by decide)]; exact f1_12_1) rfl), (show dkN [(1, 90)] (I16 12 2) from dkN_sub (by rw [eI16, dkU_ss]; exact dv14) rfl), q9, q11, q15, rfl, (by rw [eI16, dkU_ss, xv14]), ((by rw [eI16, dkU_sn (by decide)] : I16 12 4 = _).trans rfl), ((by rw [eI16, dkU_sn (by decide)] : I16 12 5 = _).trans rfl), trivial⟩)⟩, dkW_eq ht hW⟩, hS.F ht⟩) hS.2.2 dX2_takes_25
    ·
      have q17 : (I0 13 (Int32.toNatClampNeg (I0 12 2))).toInt ≠ p0.toInt := by first | (rw [← xv1]; exact (dk_ne c10)) | (subst xv1; exact (dk_ne c10))
      have d18 : dkN [(0, 58), (60, 255)] v1 := dkN_ne1 (59) dv1 dp0 (dk_ne c10) rfl
      refine lv_aload_n hx hb dX2_takes_8 rfl (lv_at hl 0 rfl) ?_
      refine lv_iconst (v := 1) hx hb dX2_takes_9 (by decide) ?_
      refine dk_Vi (As := [.int 1]) (rest := []) ⟨hx, hb, hml, hown, hts⟩ (fx_X2_meets_3 l g z I0 1 (dkN_lit (x := 1) (1) rfl) hO) (cwV 1 hts gX2_takes_X2_meets rfl rfl rfl (by decide +kernel) ⟨Nat.le_of_ble_eq_true rfl, Nat.le_of_ble_eq_true rfl⟩) (dk_at12 hW) rfl hK hT hW hS rfl hl.1 rfl (Nat.le_of_ble_eq_true rfl) dX2_takes_10 ⟨Nat.zero_le _, Nat.zero_le _⟩ (fun v19 I19 H19 L19 hp19 hW hS => ?_)
      obtain ⟨hF19, hO, hc19⟩ := hp19
      have hF := dkF_call hF hF19 rfl
      obtain ⟨dv19, f19_12_4, f19_12_5, xr19, xh19_0, xh19_1, xh19_2, -⟩ := hc19
      have y20 : I19 12 2 = I0 12 2 := by have h := xh19_0; exact h
      have y21 : I19 12 4 = I0 12 2 := by have h := xh19_1; exact h
      have y22 : I19 12 5 = 1 := by have h := xh19_2; exact h
      have xv19 : v19 = 0 := by have h := xr19; exact h
      exact W.zret (v := v19) (ty := .boolean) hx hb hr (dkN_zr dv19 rfl) (fun t ht hW9 => ⟨⟨v19, I19, rfl, ⟨hF, hO, Or.inr (Or.inr (⟨dkN_sub dv19 rfl, (show dkN [(1, 90)] (I19 12 1) from dkN_sub (by rw [hF19 12 1 rfl]; exact f1_12_1) rfl), (show dkN [(0, 89)] (I19 12 2) from dkN_sub (by rw [hF19 12 2 rfl]; exact f1_12_2) rfl), (show dkN [(0, 90)] (I19 12 4) from dkN_sub f19_12_4 rfl), (show dkN [(1, 1)] (I19 12 5) from dkN_sub f19_12_5 rfl), q9, q17, xv19, y20, y21, y22, trivial⟩))⟩, dkW_eq ht hW⟩, hS.F ht⟩) hS.2.2 dX2_takes_13
set_option maxHeartbeats 4000000 in
set_option maxRecDepth 100000 in
theorem h_X2_takes_2 (l : Launch) (g : dkG) (z : Nat) (I0 : dkI) (p0 : Int32) (dp0 : dkN [(59, 59)] p0) (hO : dkOk I0) : Met l yX2_takes wsX2_takes (dkR 1) (dkPc g z [.ref (z + 12), .int p0] I0) (dkQi g z (fun r I1 => dkF [(12, 12, 2, 2), (12, 12, 4, 5)] I0 I1 ∧ dkOk I1 ∧ ((dkN [(1, 1)] r ∧ dkN [(1, 90)] (I1 12 1) ∧ dkN [(1, 90)] (I1 12 2) ∧ (dkSg (I0 13) (I0 12 1) p0 (I0 12 2)).1 = 0 ∧ r = 1 ∧ I1 12 2 = (dkSg (I0 13) (I0 12 1) p0 (I0 12 2)).2 ∧ I1 12 5 = I0 12 5 ∧ True) ∨ (dkN [(0, 0)] r ∧ (dkSg (I0 13) (I0 12 1) p0 (I0 12 2)).1 ≠ 0 ∧ r = 0 ∧ I1 12 4 = (dkSg (I0 13) (I0 12 1) p0 (I0 12 2)).2 ∧ I1 12 5 = (dkSg (I0 13) (I0 12 1) p0 (I0 12 2)).1 ∧ True)))) 0 0 (dkA z) := by
  refine dk_weakI (fx_X2_takes_6 l g z I0 p0 dp0 hO) (fun r I1 h => ?_)
  obtain ⟨hF, hO1, hc⟩ := h
  refine ⟨hF, hO1, ?_⟩
  rcases hc with ⟨d, G0, G1, u0, u1, ER, H12_2, H12_4, H12_5, -⟩ | ⟨d, G0, G1, u0, u1, u2, ER, H12_2, H12_4, H12_5, -⟩ | ⟨d, G0, G1, G2, G3, u0, u1, ER, H12_2, H12_4, H12_5, -⟩
  ·
    have e : dkSg (I0 13) (I0 12 1) p0 (I0 12 2) = (1, I0 12 2) := dkSg_f (by omega)
    exact Or.inr ⟨dkN_sub d rfl, (dkE_k e (by decide)), ER, (H12_4.trans (congrArg Prod.snd e).symm), (H12_5.trans (congrArg Prod.fst e).symm), trivial⟩
  ·
    have e : dkSg (I0 13) (I0 12 1) p0 (I0 12 2) = (0, (I0 12 2) + (1 : Int32)) := dkSg_t (by omega) (by omega)
    exact Or.inl ⟨dkN_sub d rfl, dkN_sub G0 rfl, dkN_sub G1 rfl, (congrArg Prod.fst e), ER, (H12_2.trans (congrArg Prod.snd e).symm), H12_5, trivial⟩
  ·
    have e : dkSg (I0 13) (I0 12 1) p0 (I0 12 2) = (1, I0 12 2) := dkSg_f (by omega)
    exact Or.inr ⟨dkN_sub d rfl, (dkE_k e (by decide)), ER, (H12_4.trans (congrArg Prod.snd e).symm), (H12_5.trans (congrArg Prod.fst e).symm), trivial⟩
set_option maxHeartbeats 4000000 in
set_option maxRecDepth 100000 in
theorem fx_X4_begin_1 (l : Launch) (g : dkG) (z : Nat) (I0 : dkI) (t0 : Nat) (ht0 : dkT t0) (p0 : Int32) (p1 : Int32) (dp0 : dkN [(3, 9)] p0) (dp1 : dkN [(1, 30)] p1)  (hO : dkOk I0) : Met l yX4_begin wsX4_begin (dkR 0) (dkPc g z [.ref (z + t0), .int p0, .int p1] I0) (dkQv g z (fun I1 => dkF [(t0, t0, 0, 4), (t0, t0, 11, 11), (t0, t0, 15, 17)] I0 I1 ∧ dkOk I1 ∧ ((dkN [(3, 9)] (I1 t0 0) ∧ dkN [(1, 30)] (I1 t0 1) ∧ dkN [(0, 0)] (I1 t0 11) ∧ dkN [(0, 0)] (I1 t0 15) ∧ dkN [(0, 0)] (I1 t0 16) ∧ dkN [(0, 0)] (I1 t0 17) ∧ dkN [(0, 0)] (I1 t0 2) ∧ dkN [(0, 0)] (I1 t0 3) ∧ dkN [(0, 0)] (I1 t0 4) ∧ I1 t0 0 = p0 ∧ I1 t0 4 = 0 ∧ I1 t0 11 = 0 ∧ True)))) 0 0 (dkA z) := by
  refine Met.ofW (cc := cX4_begin) (maxL := 3) (ret := none) (by decide) rfl ?_
  intro p e s m args below meth c s₁ B hml hv
  obtain ⟨ha, hW, hK, hT⟩ := hv
  have hx := B.exec
  have hb := B.bytes
  have hr := B.returns
  have hts := atoms_spec (ws := wsX4_begin) B.pre
  have hown : s.vm.findClass RX4 = some m.cls := findClass_of_methodNamed B.named
  have hlocks := B.notSynchronized
  have hS : va_S (dkA z) s.heap s.heap [] := va_S.rf
  have hF : dkF [(t0, t0, 0, 4), (t0, t0, 11, 11), (t0, t0, 15, 17)] I0 I0 := dkF_rf _ _
  have hl := lv_entry ([.ref (z + t0), .int p0, .int p1]) (n := 3) (Nat.le_of_ble_eq_true rfl)
  have hgo : entryFrame m args 3 = entryFrame m ([.ref (z + t0), .int p0, .int p1] : List Value).toArray 3 := by rw [ha]
  rw [hgo, lg_entry_eq]
  generalize (lg_sl ([.ref (z + t0), .int p0, .int p1]) ++ List.replicate (3 - (lg_sl ([.ref (z + t0), .int p0, .int p1])).length) Slot.unset).toArray = ls at hl ⊢
  have hl : lv_has ls 3 [(0, .ref (z + t0)), (1, .int p0), (2, .int p1)] := hl
  refine lv_aload_n hx hb dX4_begin_0 rfl (lv_at hl 0 rfl) ?_
  refine lv_iload_n hx hb dX4_begin_1 rfl (lv_at hl 1 rfl) ?_
  refine dk_put (k := t0) hx hb hts iX4_begin_4 tyX4 tyX4_ok nmX4 hown hK hW (dk_aT0 ht0 hW) hS rfl 0 (by decide) (hts (.fieldLink RX4 42 "DogKings$Town" "places" "I") (List.mem_of_getElem? (i := 1) rfl)) rfl rfl (Nat.le_of_ble_eq_true rfl) (dk_eT0 ht0) dX4_begin_2 (fun I1 H1 L1 eI1 hW hS => ?_)
  have eI1 : I1 = dkU I0 t0 0 p0 := eI1
  have hO := dkO_setT hO ht0 (c := 0) (by decide) eI1 (dkN_sub dp0 rfl)
  have hF := dkF_set hF eI1 (dkIn_at (i := 0) rfl (Nat.le_refl _) (Nat.le_refl _) (by decide) (by decide))
  refine lv_aload_n hx hb dX4_begin_5 rfl (lv_at hl 0 rfl) ?_
  refine lv_iload_n hx hb dX4_begin_6 rfl (lv_at hl 2 rfl) ?_
  refine dk_put (k := t0) hx hb hts iX4_begin_4 tyX4 tyX4_ok nmX4 hown hK hW (dk_aT0 ht0 hW) hS rfl 1 (by decide) (hts (.fieldLink RX4 46 "DogKings$Town" "fridayLasts" "I") (List.mem_of_getElem? (i := 2) rfl)) rfl rfl (Nat.le_of_ble_eq_true rfl) (dk_eT1 ht0) dX4_begin_7 (fun I2 H2 L2 eI2 hW hS => ?_)
  have eI2 : I2 = dkU I1 t0 1 p1 := eI2
  have hO := dkO_setT hO ht0 (c := 0) (by decide) eI2 (dkN_sub dp1 rfl)
  have hF := dkF_set hF eI2 (dkIn_at (i := 0) rfl (Nat.le_refl _) (Nat.le_refl _) (by decide) (by decide))
  refine lv_aload_n hx hb dX4_begin_10 rfl (lv_at hl 0 rfl) ?_
  refine lv_iconst (v := 0) hx hb dX4_begin_11 (by decide) ?_
  refine dk_put (k := t0) hx hb hts iX4_begin_4 tyX4 tyX4_ok nmX4 hown hK hW (dk_aT0 ht0 hW) hS rfl 2 (by decide) (hts (.fieldLink RX4 49 "DogKings$Town" "friday" "I") (List.mem_of_getElem? (i := 3) rfl)) rfl rfl (Nat.le_of_ble_eq_true rfl) (dk_eT2 ht0) dX4_begin_12 (fun I3 H3 L3 eI3 hW hS => ?_)
  have eI3 : I3 = dkU I2 t0 2 0 := eI3
  have hO := dkO_setT hO ht0 (c := 0) (by decide) eI3 (dkN_sub (dkN_lit (x := 0) (0) rfl) rfl)
  have hF := dkF_set hF eI3 (dkIn_at (i := 0) rfl (Nat.le_refl _) (Nat.le_refl _) (by decide) (by decide))
  refine lv_aload_n hx hb dX4_begin_15 rfl (lv_at hl 0 rfl) ?_
  refine lv_iconst (v := 0) hx hb dX4_begin_16 (by decide) ?_
  refine dk_put (k := t0) hx hb hts iX4_begin_4 tyX4 tyX4_ok nmX4 hown hK hW (dk_aT0 ht0 hW) hS rfl 3 (by decide) (hts (.fieldLink RX4 52 "DogKings$Town" "minute" "I") (List.mem_of_getElem? (i := 4) rfl)) rfl rfl (Nat.le_of_ble_eq_true rfl) (dk_eT3 ht0) dX4_begin_17 (fun I4 H4 L4 eI4 hW hS => ?_)
  have eI4 : I4 = dkU I3 t0 3 0 := eI4
  have hO := dkO_setT hO ht0 (c := 0) (by decide) eI4 (dkN_sub (dkN_lit (x := 0) (0) rfl) rfl)
  have hF := dkF_set hF eI4 (dkIn_at (i := 0) rfl (Nat.le_refl _) (Nat.le_refl _) (by decide) (by decide))
  refine lv_aload_n hx hb dX4_begin_20 rfl (lv_at hl 0 rfl) ?_
  refine lv_iconst (v := 0) hx hb dX4_begin_21 (by decide) ?_
  refine dk_put (k := t0) hx hb hts iX4_begin_4 tyX4 tyX4_ok nmX4 hown hK hW (dk_aT0 ht0 hW) hS rfl 4 (by decide) (hts (.fieldLink RX4 55 "DogKings$Town" "people" "I") (List.mem_of_getElem? (i := 5) rfl)) rfl rfl (Nat.le_of_ble_eq_true rfl) (dk_eT4 ht0) dX4_begin_22 (fun I5 H5 L5 eI5 hW hS => ?_)
  have eI5 : I5 = dkU I4 t0 4 0 := eI5
  have hO := dkO_setT hO ht0 (c := 0) (by decide) eI5 (dkN_sub (dkN_lit (x := 0) (0) rfl) rfl)
  have hF := dkF_set hF eI5 (dkIn_at (i := 0) rfl (Nat.le_refl _) (Nat.le_refl _) (by decide) (by decide))
  refine lv_aload_n hx hb dX4_begin_25 rfl (lv_at hl 0 rfl) ?_
  refine lv_iconst (v := 0) hx hb dX4_begin_26 (by decide) ?_
  refine dk_put (k := t0) hx hb hts iX4_begin_4 tyX4 tyX4_ok nmX4 hown hK hW (dk_aT0 ht0 hW) hS rfl 11 (by decide) (hts (.fieldLink RX4 58 "DogKings$Town" "dogs" "I") (List.mem_of_getElem? (i := 6) rfl)) rfl rfl (Nat.le_of_ble_eq_true rfl) (dk_eT11 ht0) dX4_begin_27 (fun I6 H6 L6 eI6 hW hS => ?_)
  have eI6 : I6 = dkU I5 t0 11 0 := eI6
  have hO := dkO_setT hO ht0 (c := 0) (by decide) eI6 (dkN_sub (dkN_lit (x := 0) (0) rfl) rfl)
  have hF := dkF_set hF eI6 (dkIn_at (i := 1) rfl (Nat.le_refl _) (Nat.le_refl _) (by decide) (by decide))
  refine lv_aload_n hx hb dX4_begin_30 rfl (lv_at hl 0 rfl) ?_
  refine lv_iconst (v := 0) hx hb dX4_begin_31 (by decide) ?_
  refine dk_put (k := t0) hx hb hts iX4_begin_4 tyX4 tyX4_ok nmX4 hown hK hW (dk_aT0 ht0 hW) hS rfl 15 (by decide) (hts (.fieldLink RX4 61 "DogKings$Town" "dogsThere" "I") (List.mem_of_getElem? (i := 7) rfl)) rfl rfl (Nat.le_of_ble_eq_true rfl) (dk_eT15 ht0) dX4_begin_32 (fun I7 H7 L7 eI7 hW hS => ?_)
  have eI7 : I7 = dkU I6 t0 15 0 := eI7
  have hO := dkO_setT hO ht0 (c := 0) (by decide) eI7 (dkN_sub (dkN_lit (x := 0) (0) rfl) rfl)
  have hF := dkF_set hF eI7 (dkIn_at (i := 2) rfl (Nat.le_refl _) (Nat.le_refl _) (by decide) (by decide))
  refine lv_aload_n hx hb dX4_begin_35 rfl (lv_at hl 0 rfl) ?_
  refine lv_iconst (v := 0) hx hb dX4_begin_36 (by decide) ?_
  refine dk_put (k := t0) hx hb hts iX4_begin_4 tyX4 tyX4_ok nmX4 hown hK hW (dk_aT0 ht0 hW) hS rfl 16 (by decide) (hts (.fieldLink RX4 64 "DogKings$Town" "dogsAsleep" "I") (List.mem_of_getElem? (i := 8) rfl)) rfl rfl (Nat.le_of_ble_eq_true rfl) (dk_eT16 ht0) dX4_begin_37 (fun I8 H8 L8 eI8 hW hS => ?_)
  have eI8 : I8 = dkU I7 t0 16 0 := eI8
  have hO := dkO_setT hO ht0 (c := 0) (by decide) eI8 (dkN_sub (dkN_lit (x := 0) (0) rfl) rfl)
  have hF := dkF_set hF eI8 (dkIn_at (i := 2) rfl (Nat.le_refl _) (Nat.le_refl _) (by decide) (by decide))
  refine lv_aload_n hx hb dX4_begin_40 rfl (lv_at hl 0 rfl) ?_
  refine lv_iconst (v := 0) hx hb dX4_begin_41 (by decide) ?_
  refine dk_put (k := t0) hx hb hts iX4_begin_4 tyX4 tyX4_ok nmX4 hown hK hW (dk_aT0 ht0 hW) hS rfl 17 (by decide) (hts (.fieldLink RX4 67 "DogKings$Town" "cats" "I") (List.mem_of_getElem? (i := 9) rfl)) rfl rfl (Nat.le_of_ble_eq_true rfl) (dk_eT17 ht0) dX4_begin_42 (fun I9 H9 L9 eI9 hW hS => ?_)
  have eI9 : I9 = dkU I8 t0 17 0 := eI9
  have hO := dkO_setT hO ht0 (c := 0) (by decide) eI9 (dkN_sub (dkN_lit (x := 0) (0) rfl) rfl)
  have hF := dkF_set hF eI9 (dkIn_at (i := 2) rfl (Nat.le_refl _) (Nat.le_refl _) (by decide) (by decide))
  exact W.vret hx hb hr (fun t ht hW9 => ⟨⟨I9, rfl, ⟨hF, hO, ⟨(show dkN [(3, 9)] (I9 t0 0) from dkN_sub (by rw [eI9, dkU_sn (by decide)]; exact (by rw [eI8, dkU_sn (by decide)]; exact (by rw [eI7, dkU_sn (by decide)]; exact (by rw [eI6, dkU_sn (by decide)]; exact (by rw [eI5, dkU_sn (by decide)]; exact (by rw [eI4, dkU_sn (by decide)]; exact (by rw [eI3, dkU_sn (by decide)]; exact (by rw [eI2, dkU_sn (by decide)]; exact (by rw [eI1, dkU_ss]; exact dp0))))))))) rfl), (show dkN [(1, 30)] (I9 t0 1) from dkN_sub (by rw [eI9, dkU_sn (by decide)]; exact (by rw [eI8, dkU_sn (by decide)]; exact (by rw [eI7, dkU_sn (by decide)]; exact (by rw [eI6, dkU_sn (by decide)]; exact (by rw [eI5, dkU_sn (by decide)]; exact (by rw [eI4, dkU_sn (by decide)]; exact (by rw [eI3, dkU_sn (by decide)]; exact (by rw [eI2, dkU_ss]; exact dp1)))))))) rfl), (show dkN [(0, 0)] (I9 t0 11) from dkN_sub (by rw [eI9, dkU_sn (by decide)]; exact (by rw [eI8, dkU_sn (by decide)]; exact (by rw [eI7, dkU_sn (by decide)]; exact (by rw [eI6, dkU_ss]; exact (dkN_lit (x := 0) (0) rfl))))) rfl), (show dkN [(0, 0)] (I9 t0 15) from dkN_sub (by rw [eI9, dkU_sn (by decide)]; exact (by rw [eI8, dkU_sn (by decide)]; exact (by rw [eI7, dkU_ss]; exact (dkN_lit (x := 0) (0) rfl)))) rfl), (show dkN [(0, 0)] (I9 t0 16) from dkN_sub (by rw [eI9, dkU_sn (by decide)]; exact (by rw [eI8, dkU_ss]; exact (dkN_lit (x := 0) (0) rfl))) rfl), (show dkN [(0, 0)] (I9 t0 17) from dkN_sub (by rw [eI9, dkU_ss]; exact (dkN_lit (x := 0) (0) rfl)) rfl), (show dkN [(0, 0)] (I9 t0 2) from dkN_sub (by rw [eI9, dkU_sn (by decide)]; exact (by rw [eI8, dkU_sn (by decide)]; exact (by rw [eI7, dkU_sn (by decide)]; exact (by rw [eI6, dkU_sn (by decide)]; exact (by rw [eI5, dkU_sn (by decide)]; exact (by rw [eI4, dkU_sn (by decide)]; exact (by rw [eI3, dkU_ss]; exact (dkN_lit (x := 0) (0) rfl)))))))) rfl), (show dkN [(0, 0)] (I9 t0 3) from dkN_sub (by rw [eI9, dkU_sn (by decide)]; exact (by rw [eI8, dkU_sn (by decide)]; exact (by rw [eI7, dkU_sn (by decide)]; exact (by rw [eI6, dkU_sn (by decide)]; exact (by rw [eI5, dkU_sn (by decide)]; exact (by rw [eI4, dkU_ss]; exact (dkN_lit (x := 0) (0) rfl))))))) rfl), (show dkN [(0, 0)] (I9 t0 4) from dkN_sub (by rw [eI9, dkU_sn (by decide)]; exact (by rw [eI8, dkU_sn (by decide)]; exact (by rw [eI7, dkU_sn (by decide)]; exact (by rw [eI6, dkU_sn (by decide)]; exact (by rw [eI5, dkU_ss]; exact (dkN_lit (x := 0) (0) rfl)))))) rfl), ((by rw [eI9, dkU_sn (by decide)] : I9 t0 0 = _).trans ((by rw [eI8, dkU_sn (by decide)] : I8 t0 0 = _).trans ((by rw [eI7, dkU_sn (by decide)] : I7 t0 0 = _).trans ((by rw [eI6, dkU_sn (by decide)] : I6 t0 0 = _).trans ((by rw [eI5, dkU_sn (by decide)] : I5 t0 0 = _).trans ((by rw [eI4, dkU_sn (by decide)] : I4 t0 0 = _).trans ((by rw [eI3, dkU_sn (by decide)] : I3 t0 0 = _).trans ((by rw [eI2, dkU_sn (by decide)] : I2 t0 0 = _).trans (by rw [eI1, dkU_ss]))))))))), ((by rw [eI9, dkU_sn (by decide)] : I9 t0 4 = _).trans ((by rw [eI8, dkU_sn (by decide)] : I8 t0 4 = _).trans ((by rw [eI7, dkU_sn (by decide)] : I7 t0 4 = _).trans ((by rw [eI6, dkU_sn (by decide)] : I6 t0 4 = _).trans (by rw [eI5, dkU_ss]))))), ((by rw [eI9, dkU_sn (by decide)] : I9 t0 11 = _).trans ((by rw [eI8, dkU_sn (by decide)] : I8 t0 11 = _).trans ((by rw [eI7, dkU_sn (by decide)] : I7 t0 11 = _).trans (by rw [eI6, dkU_ss])))), trivial⟩⟩, dkW_eq ht hW⟩, hS.F ht⟩) hS.2.2 dX4_begin_45
set_option maxHeartbeats 4000000 in
set_option maxRecDepth 100000 in
theorem fx_X2_readsLaw_1 (l : Launch) (g : dkG) (z : Nat) (I0 : dkI)  (hO : dkOk I0) : Met l yX2_readsLaw wsX2_readsLaw (dkR 2) (dkPc g z [.ref (z + 12)] I0) (dkQi g z (fun r I1 => dkF [(12, 12, 2, 2), (12, 12, 4, 5), (14, 14, 0, 4), (14, 14, 11, 11), (14, 14, 15, 17)] I0 I1 ∧ dkOk I1 ∧ ((dkN [(1, 1)] r ∧ dkN [(1, 90)] (I1 12 1) ∧ dkN [(1, 90)] (I1 12 2) ∧ dkN [(3, 9)] (I1 14 0) ∧ dkN [(1, 30)] (I1 14 1) ∧ dkN [(0, 0)] (I1 14 11) ∧ dkN [(0, 0)] (I1 14 15) ∧ dkN [(0, 0)] (I1 14 16) ∧ dkN [(0, 0)] (I1 14 17) ∧ dkN [(0, 0)] (I1 14 2) ∧ dkN [(0, 0)] (I1 14 3) ∧ dkN [(0, 0)] (I1 14 4) ∧ (dkSg (I0 13) (I0 12 1) 116 (I0 12 2)).1 = 0 ∧ (dkNg (I0 13) (I0 12 1) 3 9 ((dkSg (I0 13) (I0 12 1) 116 (I0 12 2)).2)).1 = 0 ∧ (dkNn (I0 13) (I0 12 1) ((dkSg (I0 13) (I0 12 1) 116 (I0 12 2)).2)).toInt ≠ (-1000000 : Int) ∧ (dkSg (I0 13) (I0 12 1) 44 ((dkNg (I0 13) (I0 12 1) 3 9 ((dkSg (I0 13) (I0 12 1) 116 (I0 12 2)).2)).2)).1 = 0 ∧ (dkNg (I0 13) (I0 12 1) 1 30 ((dkSg (I0 13) (I0 12 1) 44 ((dkNg (I0 13) (I0 12 1) 3 9 ((dkSg (I0 13) (I0 12 1) 116 (I0 12 2)).2)).2)).2)).1 = 0 ∧ (dkNn (I0 13) (I0 12 1) ((dkSg (I0 13) (I0 12 1) 44 ((dkNg (I0 13) (I0 12 1) 3 9 ((dkSg (I0 13) (I0 12 1) 116 (I0 12 2)).2)).2)).2)).toInt ≠ (-1000000 : Int) ∧ (dkSg (I0 13) (I0 12 1) 59 ((dkNg (I0 13) (I0 12 1) 1 30 ((dkSg (I0 13) (I0 12 1) 44 ((dkNg (I0 13) (I0 12 1) 3 9 ((dkSg (I0 13) (I0 12 1) 116 (I0 12 2)).2)).2)).2)).2)).1 = 0 ∧ r = 1 ∧ I1 12 2 = (dkSg (I0 13) (I0 12 1) 59 ((dkNg (I0 13) (I0 12 1) 1 30 ((dkSg (I0 13) (I0 12 1) 44 ((dkNg (I0 13) (I0 12 1) 3 9 ((dkSg (I0 13) (I0 12 1) 116 (I0 12 2)).2)).2)).2)).2)).2 ∧ I1 12 5 = I0 12 5 ∧ I1 14 0 = (dkNn (I0 13) (I0 12 1) ((dkSg (I0 13) (I0 12 1) 116 (I0 12 2)).2)) ∧ I1 14 4 = 0 ∧ I1 14 11 = 0 ∧ True) ∨ (dkN [(0, 0)] r ∧ dkN [(1, 90)] (I1 12 1) ∧ (dkSg (I0 13) (I0 12 1) 116 (I0 12 2)).1 = 0 ∧ (dkNg (I0 13) (I0 12 1) 3 9 ((dkSg (I0 13) (I0 12 1) 116 (I0 12 2)).2)).1 = 0 ∧ (dkNn (I0 13) (I0 12 1) ((dkSg (I0 13) (I0 12 1) 116 (I0 12 2)).2)).toInt ≠ (-1000000 : Int) ∧ (dkSg (I0 13) (I0 12 1) 44 ((dkNg (I0 13) (I0 12 1) 3 9 ((dkSg (I0 13) (I0 12 1) 116 (I0 12 2)).2)).2)).1 = 0 ∧ (dkNg (I0 13) (I0 12 1) 1 30 ((dkSg (I0 13) (I0 12 1) 44 ((dkNg (I0 13) (I0 12 1) 3 9 ((dkSg (I0 13) (I0 12 1) 116 (I0 12 2)).2)).2)).2)).1 = 0 ∧ (dkNn (I0 13) (I0 12 1) ((dkSg (I0 13) (I0 12 1) 44 ((dkNg (I0 13) (I0 12 1) 3 9 ((dkSg (I0 13) (I0 12 1) 116 (I0 12 2)).2)).2)).2)).toInt ≠ (-1000000 : Int) ∧ (dkSg (I0 13) (I0 12 1) 59 ((dkNg (I0 13) (I0 12 1) 1 30 ((dkSg (I0 13) (I0 12 1) 44 ((dkNg (I0 13) (I0 12 1) 3 9 ((dkSg (I0 13) (I0 12 1) 116 (I0 12 2)).2)).2)).2)).2)).1 ≠ 0 ∧ r = 0 ∧ I1 12 4 = (dkSg (I0 13) (I0 12 1) 59 ((dkNg (I0 13) (I0 12 1) 1 30 ((dkSg (I0 13) (I0 12 1) 44 ((dkNg (I0 13) (I0 12 1) 3 9 ((dkSg (I0 13) (I0 12 1) 116 (I0 12 2)).2)).2)).2)).2)).2 ∧ I1 12 5 = (dkSg (I0 13) (I0 12 1) 59 ((dkNg (I0 13) (I0 12 1) 1 30 ((dkSg (I0 13) (I0 12 1) 44 ((dkNg (I0 13) (I0 12 1) 3 9 ((dkSg (I0 13) (I0 12 1) 116 (I0 12 2)).2)).2)).2)).2)).1 ∧ I1 14 0 = I0 14 0 ∧ I1 14 4 = I0 14 4 ∧ I1 14 11 = I0 14 11 ∧ True) ∨ (dkN [(0, 0)] r ∧ dkN [(1, 90)] (I1 12 1) ∧ (dkSg (I0 13) (I0 12 1) 116 (I0 12 2)).1 = 0 ∧ (dkNg (I0 13) (I0 12 1) 3 9 ((dkSg (I0 13) (I0 12 1) 116 (I0 12 2)).2)).1 = 0 ∧ (dkNn (I0 13) (I0 12 1) ((dkSg (I0 13) (I0 12 1) 116 (I0 12 2)).2)).toInt ≠ (-1000000 : Int) ∧ (dkSg (I0 13) (I0 12 1) 44 ((dkNg (I0 13) (I0 12 1) 3 9 ((dkSg (I0 13) (I0 12 1) 116 (I0 12 2)).2)).2)).1 = 0 ∧ (dkNg (I0 13) (I0 12 1) 1 30 ((dkSg (I0 13) (I0 12 1) 44 ((dkNg (I0 13) (I0 12 1) 3 9 ((dkSg (I0 13) (I0 12 1) 116 (I0 12 2)).2)).2)).2)).1 ≠ 0 ∧ r = 0 ∧ I1 12 4 = (dkNg (I0 13) (I0 12 1) 1 30 ((dkSg (I0 13) (I0 12 1) 44 ((dkNg (I0 13) (I0 12 1) 3 9 ((dkSg (I0 13) (I0 12 1) 116 (I0 12 2)).2)).2)).2)).2 ∧ I1 12 5 = (dkNg (I0 13) (I0 12 1) 1 30 ((dkSg (I0 13) (I0 12 1) 44 ((dkNg (I0 13) (I0 12 1) 3 9 ((dkSg (I0 13) (I0 12 1) 116 (I0 12 2)).2)).2)).2)).1 ∧ I1 14 0 = I0 14 0 ∧ I1 14 4 = I0 14 4 ∧ I1 14 11 = I0 14 11 ∧ True) ∨ (dkN [(0, 0)] r ∧ dkN [(1, 90)] (I1 12 1) ∧ (dkSg (I0 13) (I0 12 1) 116 (I0 12 2)).1 = 0 ∧ (dkNg (I0 13) (I0 12 1) 3 9 ((dkSg (I0 13) (I0 12 1) 116 (I0 12 2)).2)).1 = 0 ∧ (dkNn (I0 13) (I0 12 1) ((dkSg (I0 13) (I0 12 1) 116 (I0 12 2)).2)).toInt ≠ (-1000000 : Int) ∧ (dkSg (I0 13) (I0 12 1) 44 ((dkNg (I0 13) (I0 12 1) 3 9 ((dkSg (I0 13) (I0 12 1) 116 (I0 12 2)).2)).2)).1 ≠ 0 ∧ r = 0 ∧ I1 12 4 = (dkSg (I0 13) (I0 12 1) 44 ((dkNg (I0 13) (I0 12 1) 3 9 ((dkSg (I0 13) (I0 12 1) 116 (I0 12 2)).2)).2)).2 ∧ I1 12 5 = (dkSg (I0 13) (I0 12 1) 44 ((dkNg (I0 13) (I0 12 1) 3 9 ((dkSg (I0 13) (I0 12 1) 116 (I0 12 2)).2)).2)).1 ∧ I1 14 0 = I0 14 0 ∧ I1 14 4 = I0 14 4 ∧ I1 14 11 = I0 14 11 ∧ True) ∨ (dkN [(0, 0)] r ∧ dkN [(1, 90)] (I1 12 1) ∧ (dkSg (I0 13) (I0 12 1) 116 (I0 12 2)).1 = 0 ∧ (dkNg (I0 13) (I0 12 1) 3 9 ((dkSg (I0 13) (I0 12 1) 116 (I0 12 2)).2)).1 ≠ 0 ∧ r = 0 ∧ I1 12 4 = (dkNg (I0 13) (I0 12 1) 3 9 ((dkSg (I0 13) (I0 12 1) 116 (I0 12 2)).2)).2 ∧ I1 12 5 = (dkNg (I0 13) (I0 12 1) 3 9 ((dkSg (I0 13) (I0 12 1) 116 (I0 12 2)).2)).1 ∧ I1 14 0 = I0 14 0 ∧ I1 14 4 = I0 14 4 ∧ I1 14 11 = I0 14 11 ∧ True) ∨ (dkN [(0, 0)] r ∧ (dkSg (I0 13) (I0 12 1) 116 (I0 12 2)).1 ≠ 0 ∧ r = 0 ∧ I1 12 4 = (dkSg (I0 13) (I0 12 1) 116 (I0 12 2)).2 ∧ I1 12 5 = (dkSg (I0 13) (I0 12 1) 116 (I0 12 2)).1 ∧ I1 14 0 = I0 14 0 ∧ I1 14 4 = I0 14 4 ∧ I1 14 11 = I0 14 11 ∧ True)))) 0 0 (dkA z) := by
  refine Met.ofW (cc := cX2_readsLaw) (maxL := 3) (ret := (some .boolean)) (by decide) rfl ?_
  intro p e s m args below meth c s₁ B hml hv
  obtain ⟨ha, hW, hK, hT⟩ := hv
  have hx := B.exec
  have hb := B.bytes
  have hr := B.returns
  have hts := atoms_spec (ws := wsX2_readsLaw) B.pre
  have hown : s.vm.findClass RX2 = some m.cls := findClass_of_methodNamed B.named
  have hlocks := B.notSynchronized
  have hS : va_S (dkA z) s.heap s.heap [] := va_S.rf
  have hF : dkF [(12, 12, 2, 2), (12, 12, 4, 5), (14, 14, 0, 4), (14, 14, 11, 11), (14, 14, 15, 17)] I0 I0 := dkF_rf _ _
  have hl := lv_entry ([.ref (z + 12)]) (n := 3) (Nat.le_of_ble_eq_true rfl)
  have hgo : entryFrame m args 3 = entryFrame m ([.ref (z + 12)] : List Value).toArray 3 := by rw [ha]
  rw [hgo, lg_entry_eq]
  generalize (lg_sl ([.ref (z + 12)]) ++ List.replicate (3 - (lg_sl ([.ref (z + 12)])).length) Slot.unset).toArray = ls at hl ⊢
  have hl : lv_has ls 3 [(0, .ref (z + 12))] := hl
  refine lv_aload_n hx hb dX2_readsLaw_0 rfl (lv_at hl 0 rfl) ?_
  refine lv_bipush (v := 116) hx hb dX2_readsLaw_1 (by decide) ?_
  refine dk_Vi (As := [.int 116]) (rest := []) ⟨hx, hb, hml, hown, hts⟩ (h_X2_takes_0 l g z I0 116 (dkN_lit (x := 116) (116) rfl) hO) (cwV 1 hts gX2_readsLaw_X2_takes rfl rfl rfl (by decide +kernel) ⟨Nat.le_of_ble_eq_true rfl, Nat.le_of_ble_eq_true rfl⟩) (dk_at12 hW) rfl hK hT hW hS rfl hl.1 rfl (Nat.le_of_ble_eq_true rfl) dX2_readsLaw_3 ⟨Nat.zero_le _, Nat.zero_le _⟩ (fun v1 I1 H1 L1 hp1 hW hS => ?_)
  obtain ⟨hF1, hO, hc1⟩ := hp1
  have hF := dkF_call hF hF1 rfl
  rcases hc1 with ⟨dv1, f1_12_1, f1_12_2, x1_0, xr1, xh1_0, xh1_1, -⟩ | hc1
  ·
    have q2 : (dkSg (I0 13) (I0 12 1) 116 (I0 12 2)).1 = 0 := x1_0
    have y3 : I1 12 2 = (dkSg (I0 13) (I0 12 1) 116 (I0 12 2)).2 := by have h := xh1_0; exact h
    have y4 : I1 12 5 = I0 12 5 := by have h := xh1_1; exact h
    have xv1 : v1 = 1 := by have h := xr1; exact h
    refine lv_if_ne (tgt := 11) hx hb dX2_readsLaw_6 (by decide) (fun c5 => ?_) (fun c5 => ?_)
    ·
      refine lv_aload_n hx hb dX2_readsLaw_11 rfl (lv_at hl 0 rfl) ?_
      refine lv_iconst (v := 3) hx hb dX2_readsLaw_12 (by decide) ?_
      refine lv_bipush (v := 9) hx hb dX2_readsLaw_13 (by decide) ?_
      refine dk_Vi (As := [.int 3, .int 9]) (rest := []) ⟨hx, hb, hml, hown, hts⟩ (h_X2_number_0 l g z I1 3 9 (dkN_lit (x := 3) (3) rfl) (dkN_lit (x := 9) (9) rfl) hO) (cwV 2 hts gX2_readsLaw_X2_number rfl rfl rfl (by decide +kernel) ⟨Nat.le_of_ble_eq_true rfl, Nat.le_of_ble_eq_true rfl⟩) (dk_at12 hW) rfl hK hT hW hS rfl hl.1 rfl (Nat.le_of_ble_eq_true rfl) dX2_readsLaw_15 ⟨Nat.zero_le _, Nat.zero_le _⟩ (fun v6 I6 H6 L6 hp6 hW hS => ?_)
      obtain ⟨hF6, hO, hc6⟩ := hp6
      have hF := dkF_call hF hF6 rfl
      rcases hc6 with ⟨dv6, f6_12_1, f6_12_2, x6_0, xr6, xh6_0, xh6_1, -⟩ | hc6
      ·
        have w7 : I1 13 = I0 13 := ((funext fun j => hF1 13 j (dkNin_k rfl (dkNin_k rfl dkNin_nil))).trans rfl)
        have w8 : I1 12 1 = I0 12 1 := ((hF1 12 1 rfl).trans rfl)
        have w9 : I1 12 2 = (dkSg (I0 13) (I0 12 1) 116 (I0 12 2)).2 := y3
        have q10 : (dkNg (I0 13) (I0 12 1) 3 9 ((dkSg (I0 13) (I0 12 1) 116 (I0 12 2)).2)).1 = 0 := by have h := x6_0; rw [w7, w8, w9] at h; exact h
        have y11 : I6 12 2 = (dkNg (I0 13) (I0 12 1) 3 9 ((dkSg (I0 13) (I0 12 1) 116 (I0 12 2)).2)).2 := by have h := xh6_0; rw [w7, w8, w9] at h; exact h
        have w12 : I1 12 5 = I0 12 5 := y4
        have y13 : I6 12 5 = I0 12 5 := by have h := xh6_1; rw [w12] at h; exact h
        have xv6 : v6 = dkNn (I0 13) (I0 12 1) ((dkSg (I0 13) (I0 12 1) 116 (I0 12 2)).2) := by have h := xr6; rw [w7, w8, w9] at h; exact h
        refine lv_istore_n (lv' := [(1, .int v6), (0, .ref (z + 12))]) hx hb dX2_readsLaw_18 rfl hl (by decide) rfl (fun ls hl => ?_)
        refine lv_iload_n hx hb dX2_readsLaw_19 rfl (lv_at hl 0 rfl) ?_
        refine lv_ldc (v := (-1000000)) hx hb hown (hts (.constant RX2 50 (-1000000)) (List.mem_of_getElem? (i := 1) rfl)) dX2_readsLaw_20 ?_
        refine lv_icmp_eq (tgt := 34) hx hb dX2_readsLaw_22 (by decide) (fun c14 => ?_) (fun c14 => ?_)
        ·
          exact (dkN_nil (show dkN [] v6 from dkN_eq1 dv6 (dkN_lit (x := (-1000000)) (-1000000) rfl) (congrArg Int32.toInt c14) rfl)).elim
        ·
          have q15 : (dkNn (I0 13) (I0 12 1) ((dkSg (I0 13) (I0 12 1) 116 (I0 12 2)).2)).toInt ≠ (-1000000 : Int) := by first | (rw [← xv6]; exact (dk_ne c14)) | (subst xv6; exact (dk_ne c14))
          refine lv_aload_n hx hb dX2_readsLaw_25 rfl (lv_at hl 1 rfl) ?_
          refine lv_bipush (v := 44) hx hb dX2_readsLaw_26 (by decide) ?_
          refine dk_Vi (As := [.int 44]) (rest := []) ⟨hx, hb, hml, hown, hts⟩ (h_X2_takes_1 l g z I6 44 (dkN_lit (x := 44) (44) rfl) hO) (cwV 1 hts gX2_readsLaw_X2_takes rfl rfl rfl (by decide +kernel) ⟨Nat.le_of_ble_eq_true rfl, Nat.le_of_ble_eq_true rfl⟩) (dk_at12 hW) rfl hK hT hW hS rfl hl.1 rfl (Nat.le_of_ble_eq_true rfl) dX2_readsLaw_28 ⟨Nat.zero_le _, Nat.zero_le _⟩ (fun v16 I16 H16 L16 hp16 hW hS => ?_)
          obtain ⟨hF16, hO, hc16⟩ := hp16
          have hF := dkF_call hF hF16 rfl
          rcases hc16 with ⟨dv16, f16_12_1, f16_12_2, x16_0, xr16, xh16_0, xh16_1, -⟩ | hc16
          ·
            have w17 : I6 13 = I0 13 := ((funext fun j => hF6 13 j (dkNin_k rfl (dkNin_k rfl dkNin_nil))).trans ((funext fun j => hF1 13 j (dkNin_k rfl (dkNin_k rfl dkNin_nil))).trans rfl))
            have w18 : I6 12 1 = I0 12 1 := ((hF6 12 1 rfl).trans ((hF1 12 1 rfl).trans rfl))
            have w19 : I6 12 2 = (dkNg (I0 13) (I0 12 1) 3 9 ((dkSg (I0 13) (I0 12 1) 116 (I0 12 2)).2)).2 := y11
            have q20 : (dkSg (I0 13) (I0 12 1) 44 ((dkNg (I0 13) (I0 12 1) 3 9 ((dkSg (I0 13) (I0 12 1) 116 (I0 12 2)).2)).2)).1 = 0 := by have h := x16_0; rw [w17, w18, w19] at h; exact h
            have y21 : I16 12 2 = (dkSg (I0 13) (I0 12 1) 44 ((dkNg (I0 13) (I0 12 1) 3 9 ((dkSg (I0 13) (I0 12 1) 116 (I0 12 2)).2)).2)).2 := by have h := xh16_0; rw [w17, w18, w19] at h; exact h
            have w22 : I6 12 5 = I0 12 5 := y13
            have y23 : I16 12 5 = I0 12 5 := by have h := xh16_1; rw [w22] at h; exact h
            have xv16 : v16 = 1 := by have h := xr16; exact h
            refine lv_if_ne (tgt := 36) hx hb dX2_readsLaw_31 (by decide) (fun c24 => ?_) (fun c24 => ?_)
            ·
              refine lv_aload_n hx hb dX2_readsLaw_36 rfl (lv_at hl 1 rfl) ?_
              refine lv_iconst (v := 1) hx hb dX2_readsLaw_37 (by decide) ?_
              refine lv_bipush (v := 30) hx hb dX2_readsLaw_38 (by decide) ?_
              refine dk_Vi (As := [.int 1, .int 30]) (rest := []) ⟨hx, hb, hml, hown, hts⟩ (h_X2_number_1 l g z I16 1 30 (dkN_lit (x := 1) (1) rfl) (dkN_lit (x := 30) (30) rfl) hO) (cwV 2 hts gX2_readsLaw_X2_number rfl rfl rfl (by decide +kernel) ⟨Nat.le_of_ble_eq_true rfl, Nat.le_of_ble_eq_true rfl⟩) (dk_at12 hW) rfl hK hT hW hS rfl hl.1 rfl (Nat.le_of_ble_eq_true rfl) dX2_readsLaw_40 ⟨Nat.zero_le _, Nat.zero_le _⟩ (fun v25 I25 H25 L25 hp25 hW hS => ?_)
              obtain ⟨hF25, hO, hc25⟩ := hp25
              have hF := dkF_call hF hF25 rfl
              rcases hc25 with ⟨dv25, f25_12_1, f25_12_2, x25_0, xr25, xh25_0, xh25_1, -⟩ | hc25
              ·
                have w26 : I16 13 = I0 13 := ((funext fun j => hF16 13 j (dkNin_k rfl (dkNin_k rfl dkNin_nil))).trans ((funext fun j => hF6 13 j (dkNin_k rfl (dkNin_k rfl dkNin_nil))).trans ((funext fun j => hF1 13 j (dkNin_k rfl (dkNin_k rfl dkNin_nil))).trans rfl)))
                have w27 : I16 12 1 = I0 12 1 := ((hF16 12 1 rfl).trans ((hF6 12 1 rfl).trans ((hF1 12 1 rfl).trans rfl)))
                have w28 : I16 12 2 = (dkSg (I0 13) (I0 12 1) 44 ((dkNg (I0 13) (I0 12 1) 3 9 ((dkSg (I0 13) (I0 12 1) 116 (I0 12 2)).2)).2)).2 := y21
                have q29 : (dkNg (I0 13) (I0 12 1) 1 30 ((dkSg (I0 13) (I0 12 1) 44 ((dkNg (I0 13) (I0 12 1) 3 9 ((dkSg (I0 13) (I0 12 1) 116 (I0 12 2)).2)).2)).2)).1 = 0 := by have h := x25_0; rw [w26, w27, w28] at h; exact h
                have y30 : I25 12 2 = (dkNg (I0 13) (I0 12 1) 1 30 ((dkSg (I0 13) (I0 12 1) 44 ((dkNg (I0 13) (I0 12 1) 3 9 ((dkSg (I0 13) (I0 12 1) 116 (I0 12 2)).2)).2)).2)).2 := by have h := xh25_0; rw [w26, w27, w28] at h; exact h
                have w31 : I16 12 5 = I0 12 5 := y23
                have y32 : I25 12 5 = I0 12 5 := by have h := xh25_1; rw [w31] at h; exact h
                have xv25 : v25 = dkNn (I0 13) (I0 12 1) ((dkSg (I0 13) (I0 12 1) 44 ((dkNg (I0 13) (I0 12 1) 3 9 ((dkSg (I0 13) (I0 12 1) 116 (I0 12 2)).2)).2)).2) := by have h := xr25; rw [w26, w27, w28] at h; exact h
                refine lv_istore_n (lv' := [(2, .int v25), (1, .int v6), (0, .ref (z + 12))]) hx hb dX2_readsLaw_43 rfl hl (by decide) rfl (fun ls hl => ?_)
                refine lv_iload_n hx hb dX2_readsLaw_44 rfl (lv_at hl 0 rfl) ?_
                refine lv_ldc (v := (-1000000)) hx hb hown (hts (.constant RX2 50 (-1000000)) (List.mem_of_getElem? (i := 1) rfl)) dX2_readsLaw_45 ?_
                refine lv_icmp_eq (tgt := 59) hx hb dX2_readsLaw_47 (by decide) (fun c33 => ?_) (fun c33 => ?_)
                ·
                  exact (dkN_nil (show dkN [] v25 from dkN_eq1 dv25 (dkN_lit (x := (-1000000)) (-1000000) rfl) (congrArg Int32.toInt c33) rfl)).elim
                ·
                  have q34 : (dkNn (I0 13) (I0 12 1) ((dkSg (I0 13) (I0 12 1) 44 ((dkNg (I0 13) (I0 12 1) 3 9 ((dkSg (I0 13) (I0 12 1) 116 (I0 12 2)).2)).2)).2)).toInt ≠ (-1000000 : Int) := by first | (rw [← xv25]; exact (dk_ne c33)) | (subst xv25; exact (dk_ne c33))
                  refine lv_aload_n hx hb dX2_readsLaw_50 rfl (lv_at hl 2 rfl) ?_
                  refine lv_bipush (v := 59) hx hb dX2_readsLaw_51 (by decide) ?_
                  refine dk_Vi (As := [.int 59]) (rest := []) ⟨hx, hb, hml, hown, hts⟩ (h_X2_takes_2 l g z I25 59 (dkN_lit (x := 59) (59) rfl) hO) (cwV 1 hts gX2_readsLaw_X2_takes rfl rfl rfl (by decide +kernel) ⟨Nat.le_of_ble_eq_true rfl, Nat.le_of_ble_eq_true rfl⟩) (dk_at12 hW) rfl hK hT hW hS rfl hl.1 rfl (Nat.le_of_ble_eq_true rfl) dX2_readsLaw_53 ⟨Nat.zero_le _, Nat.zero_le _⟩ (fun v35 I35 H35 L35 hp35 hW hS => ?_)
                  obtain ⟨hF35, hO, hc35⟩ := hp35
                  have hF := dkF_call hF hF35 rfl
                  rcases hc35 with ⟨dv35, f35_12_1, f35_12_2, x35_0, xr35, xh35_0, xh35_1, -⟩ | hc35
                  ·
                    have w36 : I25 13 = I0 13 := ((funext fun j => hF25 13 j (dkNin_k rfl (dkNin_k rfl dkNin_nil))).trans ((funext fun j => hF16 13 j (dkNin_k rfl (dkNin_k rfl dkNin_nil))).trans ((funext fun j => hF6 13 j (dkNin_k rfl (dkNin_k rfl dkNin_nil))).trans ((funext fun j => hF1 13 j (dkNin_k rfl (dkNin_k rfl dkNin_nil))).trans rfl))))
                    have w37 : I25 12 1 = I0 12 1 := ((hF25 12 1 rfl).trans ((hF16 12 1 rfl).trans ((hF6 12 1 rfl).trans ((hF1 12 1 rfl).trans rfl))))
                    have w38 : I25 12 2 = (dkNg (I0 13) (I0 12 1) 1 30 ((dkSg (I0 13) (I0 12 1) 44 ((dkNg (I0 13) (I0 12 1) 3 9 ((dkSg (I0 13) (I0 12 1) 116 (I0 12 2)).2)).2)).2)).2 := y30
                    have q39 : (dkSg (I0 13) (I0 12 1) 59 ((dkNg (I0 13) (I0 12 1) 1 30 ((dkSg (I0 13) (I0 12 1) 44 ((dkNg (I0 13) (I0 12 1) 3 9 ((dkSg (I0 13) (I0 12 1) 116 (I0 12 2)).2)).2)).2)).2)).1 = 0 := by have h := x35_0; rw [w36, w37, w38] at h; exact h
                    have y40 : I35 12 2 = (dkSg (I0 13) (I0 12 1) 59 ((dkNg (I0 13) (I0 12 1) 1 30 ((dkSg (I0 13) (I0 12 1) 44 ((dkNg (I0 13) (I0 12 1) 3 9 ((dkSg (I0 13) (I0 12 1) 116 (I0 12 2)).2)).2)).2)).2)).2 := by have h := xh35_0; rw [w36, w37, w38] at h; exact h
                    have w41 : I25 12 5 = I0 12 5 := y32
                    have y42 : I35 12 5 = I0 12 5 := by have h := xh35_1; rw [w41] at h; exact h
                    have xv35 : v35 = 1 := by have h := xr35; exact h
                    refine lv_if_ne (tgt := 61) hx hb dX2_readsLaw_56 (by decide) (fun c43 => ?_) (fun c43 => ?_)
                    ·
                      refine lv_aload_n hx hb dX2_readsLaw_61 rfl (lv_at hl 2 rfl) ?_
                      refine dk_get (k := 12) hx hb hts iX2_readsLaw_2 hown hK (dk_at12 hW) rfl 3 (by decide) (hts (.fieldLink RX2 18 "DogKings$Reader" "draft" "LDogKings$Town;") (List.mem_of_getElem? (i := 2) rfl)) rfl dX2_readsLaw_62 ?_
                      refine lv_iload_n hx hb dX2_readsLaw_65 rfl (lv_at hl 1 rfl) ?_
                      refine lv_iload_n hx hb dX2_readsLaw_66 rfl (lv_at hl 0 rfl) ?_
                      refine dk_Vv (As := [.int v6, .int v25]) (rest := []) ⟨hx, hb, hml, hown, hts⟩ (fx_X4_begin_1 l g z I35 (14) (by unfold dkT; omega) v6 v25 dv6 dv25 hO) (cwV 2 hts gX2_readsLaw_X4_begin rfl rfl rfl (by decide +kernel) ⟨Nat.le_of_ble_eq_true rfl, Nat.le_of_ble_eq_true rfl⟩) (dk_at14 hW) rfl hK hT hW hS rfl hl.1 rfl (Nat.le_of_ble_eq_true rfl) dX2_readsLaw_67 ⟨Nat.zero_le _, Nat.zero_le _⟩ (fun I44 H44 L44 hp44 hW hS => ?_)
                      obtain ⟨hF44, hO, hc44⟩ := hp44
                      have hF := dkF_call hF hF44 rfl
                      obtain ⟨f44_14_0, f44_14_1, f44_14_11, f44_14_15, f44_14_16, f44_14_17, f44_14_2, f44_14_3, f44_14_4, xh44_0, xh44_1, xh44_2, -⟩ := hc44
                      have y45 : I44 14 0 = (dkNn (I0 13) (I0 12 1) ((dkSg (I0 13) (I0 12 1) 116 (I0 12 2)).2)) := by have h := xh44_0; rw [xv6] at h; exact h
                      have y46 : I44 14 4 = 0 := by have h := xh44_1; exact h
                      have y47 : I44 14 11 = 0 := by have h := xh44_2; exact h
                      refine lv_iconst (v := 1) hx hb dX2_readsLaw_70 (by decide) ?_
                      exact W.zret (v := 1) (ty := .boolean) hx hb hr rfl (fun t ht hW9 => ⟨⟨1, I44, rfl, ⟨hF, hO, Or.inl ⟨dkN_sub (dkN_lit (x := 1) (1) rfl) rfl, (show dkN [(1, 90)] (I44 12 1) from dkN_sub (by rw [hF44 12 1 rfl]; exact f35_12_1) rfl), (show dkN [(1, 90)] (I44 12 2) from dkN_sub (by rw [hF44 12 2 rfl]; exact f35_12_2) rfl), (show dkN [(3, 9)] (I44 14 0) from dkN_sub f44_14_0 rfl), (show dkN [(1, 30)] (I44 14 1) from dkN_sub f44_14_1 rfl), (show dkN [(0, 0)] (I44 14 11) from dkN_sub f44_14_11 rfl), (show dkN [(0, 0)] (I44 14 15) from dkN_sub f44_14_15 rfl), (show dkN [(0, 0)] (I44 14 16) from dkN_sub f44_14_16 rfl), (show dkN [(0, 0)] (I44 14 17) from dkN_sub f44_14_17 rfl), (show dkN [(0, 0)] (I44 14 2) from dkN_sub f44_14_2 rfl), (show dkN [(0, 0)] (I44 14 3) from dkN_sub f44_14_3 rfl), (show dkN [(0, 0)] (I44 14 4) from dkN_sub f44_14_4 rfl), q2, q10, q15, q20, q29, q34, q39, rfl, ((hF44 12 2 rfl).trans y40), ((hF44 12 5 rfl).trans y42), y45, y46, y47, trivial⟩⟩, dkW_eq ht hW⟩, hS.F ht⟩) hS.2.2 dX2_readsLaw_71
                    ·
                      exact (dkN_nil (show dkN [] v35 from dkN_eq1 dv35 (dkN_lit (x := 0) (0) rfl) (congrArg Int32.toInt c43) rfl)).elim
                  ·
                    obtain ⟨dv35, x35_0, xr35, xh35_0, xh35_1, -⟩ := hc35
                    have w48 : I25 13 = I0 13 := ((funext fun j => hF25 13 j (dkNin_k rfl (dkNin_k rfl dkNin_nil))).trans ((funext fun j => hF16 13 j (dkNin_k rfl (dkNin_k rfl dkNin_nil))).trans ((funext fun j => hF6 13 j (dkNin_k rfl (dkNin_k rfl dkNin_nil))).trans ((funext fun j => hF1 13 j (dkNin_k rfl (dkNin_k rfl dkNin_nil))).trans rfl))))
                    have w49 : I25 12 1 = I0 12 1 := ((hF25 12 1 rfl).trans ((hF16 12 1 rfl).trans ((hF6 12 1 rfl).trans ((hF1 12 1 rfl).trans rfl))))
                    have w50 : I25 12 2 = (dkNg (I0 13) (I0 12 1) 1 30 ((dkSg (I0 13) (I0 12 1) 44 ((dkNg (I0 13) (I0 12 1) 3 9 ((dkSg (I0 13) (I0 12 1) 116 (I0 12 2)).2)).2)).2)).2 := y30
                    have q51 : (dkSg (I0 13) (I0 12 1) 59 ((dkNg (I0 13) (I0 12 1) 1 30 ((dkSg (I0 13) (I0 12 1) 44 ((dkNg (I0 13) (I0 12 1) 3 9 ((dkSg (I0 13) (I0 12 1) 116 (I0 12 2)).2)).2)).2)).2)).1 ≠ 0 := by have h := x35_0; rw [w48, w49, w50] at h; exact h
                    have y52 : I35 12 4 = (dkSg (I0 13) (I0 12 1) 59 ((dkNg (I0 13) (I0 12 1) 1 30 ((dkSg (I0 13) (I0 12 1) 44 ((dkNg (I0 13) (I0 12 1) 3 9 ((dkSg (I0 13) (I0 12 1) 116 (I0 12 2)).2)).2)).2)).2)).2 := by have h := xh35_0; rw [w48, w49, w50] at h; exact h
                    have y53 : I35 12 5 = (dkSg (I0 13) (I0 12 1) 59 ((dkNg (I0 13) (I0 12 1) 1 30 ((dkSg (I0 13) (I0 12 1) 44 ((dkNg (I0 13) (I0 12 1) 3 9 ((dkSg (I0 13) (I0 12 1) 116 (I0 12 2)).2)).2)).2)).2)).1 := by have h := xh35_1; rw [w48, w49, w50] at h; exact h
                    have xv35 : v35 = 0 := by have h := xr35; exact h
                    refine lv_if_ne (tgt := 61) hx hb dX2_readsLaw_56 (by decide) (fun c54 => ?_) (fun c54 => ?_)
                    ·
                      exact absurd ((xv35).trans (rfl).symm) c54
                    ·
                      refine lv_iconst (v := 0) hx hb dX2_readsLaw_59 (by decide) ?_
                      exact W.zret (v := 0) (ty := .boolean) hx hb hr rfl (fun t ht hW9 => ⟨⟨0, I35, rfl, ⟨hF, hO, Or.inr (Or.inl ⟨dkN_sub (dkN_lit (x := 0) (0) rfl) rfl, (show dkN [(1, 90)] (I35 12 1) from dkN_sub (by rw [hF35 12 1 rfl]; exact f25_12_1) rfl), q2, q10, q15, q20, q29, q34, q51, rfl, y52, y53, ((hF35 14 0 rfl).trans ((hF25 14 0 rfl).trans ((hF16 14 0 rfl).trans ((hF6 14 0 rfl).trans ((hF1 14 0 rfl).trans rfl))))), ((hF35 14 4 rfl).trans ((hF25 14 4 rfl).trans ((hF16 14 4 rfl).trans ((hF6 14 4 rfl).trans ((hF1 14 4 rfl).trans rfl))))), ((hF35 14 11 rfl).trans ((hF25 14 11 rfl).trans ((hF16 14 11 rfl).trans ((hF6 14 11 rfl).trans ((hF1 14 11 rfl).trans rfl))))), trivial⟩)⟩, dkW_eq ht hW⟩, hS.F ht⟩) hS.2.2 dX2_readsLaw_60
              ·
                obtain ⟨dv25, x25_0, xr25, xh25_0, xh25_1, -⟩ := hc25
                have w55 : I16 13 = I0 13 := ((funext fun j => hF16 13 j (dkNin_k rfl (dkNin_k rfl dkNin_nil))).trans ((funext fun j => hF6 13 j (dkNin_k rfl (dkNin_k rfl dkNin_nil))).trans ((funext fun j => hF1 13 j (dkNin_k rfl (dkNin_k rfl dkNin_nil))).trans rfl)))
                have w56 : I16 12 1 = I0 12 1 := ((hF16 12 1 rfl).trans ((hF6 12 1 rfl).trans ((hF1 12 1 rfl).trans rfl)))
                have w57 : I16 12 2 = (dkSg (I0 13) (I0 12 1) 44 ((dkNg (I0 13) (I0 12 1) 3 9 ((dkSg (I0 13) (I0 12 1) 116 (I0 12 2)).2)).2)).2 := y21
                have q58 : (dkNg (I0 13) (I0 12 1) 1 30 ((dkSg (I0 13) (I0 12 1) 44 ((dkNg (I0 13) (I0 12 1) 3 9 ((dkSg (I0 13) (I0 12 1) 116 (I0 12 2)).2)).2)).2)).1 ≠ 0 := by have h := x25_0; rw [w55, w56, w57] at h; exact h
                have y59 : I25 12 4 = (dkNg (I0 13) (I0 12 1) 1 30 ((dkSg (I0 13) (I0 12 1) 44 ((dkNg (I0 13) (I0 12 1) 3 9 ((dkSg (I0 13) (I0 12 1) 116 (I0 12 2)).2)).2)).2)).2 := by have h := xh25_0; rw [w55, w56, w57] at h; exact h
                have y60 : I25 12 5 = (dkNg (I0 13) (I0 12 1) 1 30 ((dkSg (I0 13) (I0 12 1) 44 ((dkNg (I0 13) (I0 12 1) 3 9 ((dkSg (I0 13) (I0 12 1) 116 (I0 12 2)).2)).2)).2)).1 := by have h := xh25_1; rw [w55, w56, w57] at h; exact h
                have xv25 : v25 = (-1000000) := by have h := xr25; exact h
                refine lv_istore_n (lv' := [(2, .int v25), (1, .int v6), (0, .ref (z + 12))]) hx hb dX2_readsLaw_43 rfl hl (by decide) rfl (fun ls hl => ?_)
                refine lv_iload_n hx hb dX2_readsLaw_44 rfl (lv_at hl 0 rfl) ?_
                refine lv_ldc (v := (-1000000)) hx hb hown (hts (.constant RX2 50 (-1000000)) (List.mem_of_getElem? (i := 1) rfl)) dX2_readsLaw_45 ?_
                refine lv_icmp_eq (tgt := 59) hx hb dX2_readsLaw_47 (by decide) (fun c61 => ?_) (fun c61 => ?_)
                ·
                  refine lv_iconst (v := 0) hx hb dX2_readsLaw_59 (by decide) ?_
                  exact W.zret (v := 0) (ty := .boolean) hx hb hr rfl (fun t ht hW9 => ⟨⟨0, I25, rfl, ⟨hF, hO, Or.inr (Or.inr (Or.inl ⟨dkN_sub (dkN_lit (x := 0) (0) rfl) rfl, (show dkN [(1, 90)] (I25 12 1) from dkN_sub (by rw [hF25 12 1 rfl]; exact f16_12_1) rfl), q2, q10, q15, q20, q58, rfl, y59, y60, ((hF25 14 0 rfl).trans ((hF16 14 0 rfl).trans ((hF6 14 0 rfl).trans ((hF1 14 0 rfl).trans rfl)))), ((hF25 14 4 rfl).trans ((hF16 14 4 rfl).trans ((hF6 14 4 rfl).trans ((hF1 14 4 rfl).trans rfl)))), ((hF25 14 11 rfl).trans ((hF16 14 11 rfl).trans ((hF6 14 11 rfl).trans ((hF1 14 11 rfl).trans rfl)))), trivial⟩))⟩, dkW_eq ht hW⟩, hS.F ht⟩) hS.2.2 dX2_readsLaw_60
                ·
                  exact absurd ((xv25).trans (rfl).symm) c61
            ·
              exact (dkN_nil (show dkN [] v16 from dkN_eq1 dv16 (dkN_lit (x := 0) (0) rfl) (congrArg Int32.toInt c24) rfl)).elim
          ·
            obtain ⟨dv16, x16_0, xr16, xh16_0, xh16_1, -⟩ := hc16
            have w62 : I6 13 = I0 13 := ((funext fun j => hF6 13 j (dkNin_k rfl (dkNin_k rfl dkNin_nil))).trans ((funext fun j => hF1 13 j (dkNin_k rfl (dkNin_k rfl dkNin_nil))).trans rfl))
            have w63 : I6 12 1 = I0 12 1 := ((hF6 12 1 rfl).trans ((hF1 12 1 rfl).trans rfl))
            have w64 : I6 12 2 = (dkNg (I0 13) (I0 12 1) 3 9 ((dkSg (I0 13) (I0 12 1) 116 (I0 12 2)).2)).2 := y11
            have q65 : (dkSg (I0 13) (I0 12 1) 44 ((dkNg (I0 13) (I0 12 1) 3 9 ((dkSg (I0 13) (I0 12 1) 116 (I0 12 2)).2)).2)).1 ≠ 0 := by have h := x16_0; rw [w62, w63, w64] at h; exact h
            have y66 : I16 12 4 = (dkSg (I0 13) (I0 12 1) 44 ((dkNg (I0 13) (I0 12 1) 3 9 ((dkSg (I0 13) (I0 12 1) 116 (I0 12 2)).2)).2)).2 := by have h := xh16_0; rw [w62, w63, w64] at h; exact h
            have y67 : I16 12 5 = (dkSg (I0 13) (I0 12 1) 44 ((dkNg (I0 13) (I0 12 1) 3 9 ((dkSg (I0 13) (I0 12 1) 116 (I0 12 2)).2)).2)).1 := by have h := xh16_1; rw [w62, w63, w64] at h; exact h
            have xv16 : v16 = 0 := by have h := xr16; exact h
            refine lv_if_ne (tgt := 36) hx hb dX2_readsLaw_31 (by decide) (fun c68 => ?_) (fun c68 => ?_)
            ·
              exact absurd ((xv16).trans (rfl).symm) c68
            ·
              refine lv_iconst (v := 0) hx hb dX2_readsLaw_34 (by decide) ?_
              exact W.zret (v := 0) (ty := .boolean) hx hb hr rfl (fun t ht hW9 => ⟨⟨0, I16, rfl, ⟨hF, hO, Or.inr (Or.inr (Or.inr (Or.inl ⟨dkN_sub (dkN_lit (x := 0) (0) rfl) rfl, (show dkN [(1, 90)] (I16 12 1) from dkN_sub (by rw [hF16 12 1 rfl]; exact f6_12_1) rfl), q2, q10, q15, q65, rfl, y66, y67, ((hF16 14 0 rfl).trans ((hF6 14 0 rfl).trans ((hF1 14 0 rfl).trans rfl))), ((hF16 14 4 rfl).trans ((hF6 14 4 rfl).trans ((hF1 14 4 rfl).trans rfl))), ((hF16 14 11 rfl).trans ((hF6 14 11 rfl).trans ((hF1 14 11 rfl).trans rfl))), trivial⟩)))⟩, dkW_eq ht hW⟩, hS.F ht⟩) hS.2.2 dX2_readsLaw_35
      ·
        obtain ⟨dv6, x6_0, xr6, xh6_0, xh6_1, -⟩ := hc6
        have w69 : I1 13 = I0 13 := ((funext fun j => hF1 13 j (dkNin_k rfl (dkNin_k rfl dkNin_nil))).trans rfl)
        have w70 : I1 12 1 = I0 12 1 := ((hF1 12 1 rfl).trans rfl)
        have w71 : I1 12 2 = (dkSg (I0 13) (I0 12 1) 116 (I0 12 2)).2 := y3
        have q72 : (dkNg (I0 13) (I0 12 1) 3 9 ((dkSg (I0 13) (I0 12 1) 116 (I0 12 2)).2)).1 ≠ 0 := by have h := x6_0; rw [w69, w70, w71] at h; exact h
        have y73 : I6 12 4 = (dkNg (I0 13) (I0 12 1) 3 9 ((dkSg (I0 13) (I0 12 1) 116 (I0 12 2)).2)).2 := by have h := xh6_0; rw [w69, w70, w71] at h; exact h
        have y74 : I6 12 5 = (dkNg (I0 13) (I0 12 1) 3 9 ((dkSg (I0 13) (I0 12 1) 116 (I0 12 2)).2)).1 := by have h := xh6_1; rw [w69, w70, w71] at h; exact h
        have xv6 : v6 = (-1000000) := by have h := xr6; exact h
        refine lv_istore_n (lv' := [(1, .int v6), (0, .ref (z + 12))]) hx hb dX2_readsLaw_18 rfl hl (by decide) rfl (fun ls hl => ?_)
        refine lv_iload_n hx hb dX2_readsLaw_19 rfl (lv_at hl 0 rfl) ?_
        refine lv_ldc (v := (-1000000)) hx hb hown (hts (.constant RX2 50 (-1000000)) (List.mem_of_getElem? (i := 1) rfl)) dX2_readsLaw_20 ?_
        refine lv_icmp_eq (tgt := 34) hx hb dX2_readsLaw_22 (by decide) (fun c75 => ?_) (fun c75 => ?_)
        ·
          refine lv_iconst (v := 0) hx hb dX2_readsLaw_34 (by decide) ?_
          exact W.zret (v := 0) (ty := .boolean) hx hb hr rfl (fun t ht hW9 => ⟨⟨0, I6, rfl, ⟨hF, hO, Or.inr (Or.inr (Or.inr (Or.inr (Or.inl ⟨dkN_sub (dkN_lit (x := 0) (0) rfl) rfl, (show dkN [(1, 90)] (I6 12 1) from dkN_sub (by rw [hF6 12 1 rfl]; exact f1_12_1) rfl), q2, q72, rfl, y73, y74, ((hF6 14 0 rfl).trans ((hF1 14 0 rfl).trans rfl)), ((hF6 14 4 rfl).trans ((hF1 14 4 rfl).trans rfl)), ((hF6 14 11 rfl).trans ((hF1 14 11 rfl).trans rfl)), trivial⟩))))⟩, dkW_eq ht hW⟩, hS.F ht⟩) hS.2.2 dX2_readsLaw_35
        ·
          exact absurd ((xv6).trans (rfl).symm) c75
    ·
      exact (dkN_nil (show dkN [] v1 from dkN_eq1 dv1 (dkN_lit (x := 0) (0) rfl) (congrArg Int32.toInt c5) rfl)).elim
  ·
    obtain ⟨dv1, x1_0, xr1, xh1_0, xh1_1, -⟩ := hc1
    have q76 : (dkSg (I0 13) (I0 12 1) 116 (I0 12 2)).1 ≠ 0 := x1_0
    have y77 : I1 12 4 = (dkSg (I0 13) (I0 12 1) 116 (I0 12 2)).2 := by have h := xh1_0; exact h
    have y78 : I1 12 5 = (dkSg (I0 13) (I0 12 1) 116 (I0 12 2)).1 := by have h := xh1_1; exact h
    have xv1 : v1 = 0 := by have h := xr1; exact h
    refine lv_if_ne (tgt := 11) hx hb dX2_readsLaw_6 (by decide) (fun c79 => ?_) (fun c79 => ?_)
    ·
      exact absurd ((xv1).trans (rfl).symm) c79
    ·
      refine lv_iconst (v := 0) hx hb dX2_readsLaw_9 (by decide) ?_
      exact W.zret (v := 0) (ty := .boolean) hx hb hr rfl (fun t ht hW9 => ⟨⟨0, I1, rfl, ⟨hF, hO, Or.inr (Or.inr (Or.inr (Or.inr (Or.inr (⟨dkN_sub (dkN_lit (x := 0) (0) rfl) rfl, q76, rfl, y77, y78, ((hF1 14 0 rfl).trans rfl), ((hF1 14 4 rfl).trans rfl), ((hF1 14 11 rfl).trans rfl), trivial⟩)))))⟩, dkW_eq ht hW⟩, hS.F ht⟩) hS.2.2 dX2_readsLaw_10
set_option maxHeartbeats 4000000 in
set_option maxRecDepth 100000 in
theorem h_X2_readsLaw_0 (l : Launch) (g : dkG) (z : Nat) (I0 : dkI) (hO : dkOk I0) : Met l yX2_readsLaw wsX2_readsLaw (dkR 2) (dkPc g z [.ref (z + 12)] I0) (dkQi g z (fun r I1 => dkF [(12, 12, 2, 2), (12, 12, 4, 5), (14, 14, 0, 4), (14, 14, 11, 11), (14, 14, 15, 17)] I0 I1 ∧ dkOk I1 ∧ ((dkN [(1, 1)] r ∧ dkN [(1, 90)] (I1 12 1) ∧ dkN [(1, 90)] (I1 12 2) ∧ dkN [(3, 9)] (I1 14 0) ∧ dkN [(1, 30)] (I1 14 1) ∧ dkN [(0, 0)] (I1 14 11) ∧ dkN [(0, 0)] (I1 14 15) ∧ dkN [(0, 0)] (I1 14 16) ∧ dkN [(0, 0)] (I1 14 17) ∧ dkN [(0, 0)] (I1 14 2) ∧ dkN [(0, 0)] (I1 14 3) ∧ dkN [(0, 0)] (I1 14 4) ∧ (dkLw (I0 13) (I0 12 1) (I0 12 2)).1 = 0 ∧ r = 1 ∧ I1 12 2 = (dkLw (I0 13) (I0 12 1) (I0 12 2)).2 ∧ I1 12 5 = I0 12 5 ∧ I1 14 0 = dkNn (I0 13) (I0 12 1) (dkSg (I0 13) (I0 12 1) 116 (I0 12 2)).2 ∧ I1 14 4 = 0 ∧ I1 14 11 = 0 ∧ True) ∨ (dkN [(0, 0)] r ∧ (dkLw (I0 13) (I0 12 1) (I0 12 2)).1 ≠ 0 ∧ r = 0 ∧ I1 12 4 = (dkLw (I0 13) (I0 12 1) (I0 12 2)).2 ∧ I1 12 5 = (dkLw (I0 13) (I0 12 1) (I0 12 2)).1 ∧ True)))) 0 0 (dkA z) := by
  refine dk_weakI (fx_X2_readsLaw_1 l g z I0  hO) (fun r I1 h => ?_)
  obtain ⟨hF, hO1, hc⟩ := h
  refine ⟨hF, hO1, ?_⟩
  rcases hc with ⟨d, G0, G1, G2, G3, G4, G5, G6, G7, G8, G9, G10, u0, u1, u2, u3, u4, u5, u6, ER, H12_2, H12_5, H14_0, H14_4, H14_11, -⟩ | ⟨d, G0, u0, u1, u2, u3, u4, u5, u6, ER, H12_4, H12_5, H14_0, H14_4, H14_11, -⟩ | ⟨d, G0, u0, u1, u2, u3, u4, ER, H12_4, H12_5, H14_0, H14_4, H14_11, -⟩ | ⟨d, G0, u0, u1, u2, u3, ER, H12_4, H12_5, H14_0, H14_4, H14_11, -⟩ | ⟨d, G0, u0, u1, ER, H12_4, H12_5, H14_0, H14_4, H14_11, -⟩ | ⟨d, u0, ER, H12_4, H12_5, H14_0, H14_4, H14_11, -⟩
  ·
    have e := (show dkLw (I0 13) (I0 12 1) (I0 12 2) = _ from ((dkTh_0 u0).trans ((dkTh_0 u1).trans ((dkTh_0 u3).trans (dkTh_0 u4)))))
    exact Or.inl ⟨dkN_sub d rfl, dkN_sub G0 rfl, dkN_sub G1 rfl, dkN_sub G2 rfl, dkN_sub G3 rfl, dkN_sub G4 rfl, dkN_sub G5 rfl, dkN_sub G6 rfl, dkN_sub G7 rfl, dkN_sub G8 rfl, dkN_sub G9 rfl, dkN_sub G10 rfl, ((congrArg Prod.fst e).trans u6), ER, (H12_2.trans (congrArg Prod.snd e).symm), H12_5, H14_0, H14_4, H14_11, trivial⟩
  ·
    have e := (show dkLw (I0 13) (I0 12 1) (I0 12 2) = _ from ((dkTh_0 u0).trans ((dkTh_0 u1).trans ((dkTh_0 u3).trans (dkTh_0 u4)))))
    exact Or.inr ⟨dkN_sub d rfl, (fun q => u6 ((congrArg Prod.fst e).symm.trans q)), ER, (H12_4.trans (congrArg Prod.snd e).symm), (H12_5.trans (congrArg Prod.fst e).symm), trivial⟩
  ·
    have e := (show dkLw (I0 13) (I0 12 1) (I0 12 2) = _ from ((dkTh_0 u0).trans ((dkTh_0 u1).trans ((dkTh_0 u3).trans (dkTh_n u4)))))
    exact Or.inr ⟨dkN_sub d rfl, (fun q => u4 ((congrArg Prod.fst e).symm.trans q)), ER, (H12_4.trans (congrArg Prod.snd e).symm), (H12_5.trans (congrArg Prod.fst e).symm), trivial⟩
  ·
    have e := (show dkLw (I0 13) (I0 12 1) (I0 12 2) = _ from ((dkTh_0 u0).trans ((dkTh_0 u1).trans (dkTh_n u3))))
    exact Or.inr ⟨dkN_sub d rfl, (fun q => u3 ((congrArg Prod.fst e).symm.trans q)), ER, (H12_4.trans (congrArg Prod.snd e).symm), (H12_5.trans (congrArg Prod.fst e).symm), trivial⟩
  ·
    have e := (show dkLw (I0 13) (I0 12 1) (I0 12 2) = _ from ((dkTh_0 u0).trans (dkTh_n u1)))
    exact Or.inr ⟨dkN_sub d rfl, (fun q => u1 ((congrArg Prod.fst e).symm.trans q)), ER, (H12_4.trans (congrArg Prod.snd e).symm), (H12_5.trans (congrArg Prod.fst e).symm), trivial⟩
  ·
    have e := (show dkLw (I0 13) (I0 12 1) (I0 12 2) = _ from (dkTh_n u0))
    exact Or.inr ⟨dkN_sub d rfl, (fun q => u0 ((congrArg Prod.fst e).symm.trans q)), ER, (H12_4.trans (congrArg Prod.snd e).symm), (H12_5.trans (congrArg Prod.fst e).symm), trivial⟩
set_option maxHeartbeats 4000000 in
set_option maxRecDepth 100000 in
theorem fx_X2_takes_7 (l : Launch) (g : dkG) (z : Nat) (I0 : dkI) (p0 : Int32) (dp0 : dkN [(109, 109)] p0)  (hO : dkOk I0) : Met l yX2_takes wsX2_takes (dkR 1) (dkPc g z [.ref (z + 12), .int p0] I0) (dkQi g z (fun r I1 => dkF [(12, 12, 2, 2), (12, 12, 4, 5)] I0 I1 ∧ dkOk I1 ∧ ((dkN [(0, 0)] r ∧ dkN [(0, 90)] (I1 12 4) ∧ dkN [(1, 1)] (I1 12 5) ∧ (I0 12 1).toInt + 0 ≤ (I0 12 2).toInt ∧ (-1000000 : Int) ≠ p0.toInt ∧ r = 0 ∧ I1 12 2 = I0 12 2 ∧ I1 12 4 = I0 12 2 ∧ I1 12 5 = 1 ∧ True) ∨ (dkN [(1, 1)] r ∧ dkN [(1, 90)] (I1 12 1) ∧ dkN [(1, 90)] (I1 12 2) ∧ (I0 12 2).toInt + 1 ≤ (I0 12 1).toInt ∧ (I0 13 (Int32.toNatClampNeg (I0 12 2))).toInt = p0.toInt ∧ ((I0 12 2) + (1 : Int32)).toInt = (I0 12 2).toInt + (1 : Int) ∧ r = 1 ∧ I1 12 2 = (I0 12 2) + (1 : Int32) ∧ I1 12 4 = I0 12 4 ∧ I1 12 5 = I0 12 5 ∧ True) ∨ (dkN [(0, 0)] r ∧ dkN [(1, 90)] (I1 12 1) ∧ dkN [(0, 89)] (I1 12 2) ∧ dkN [(0, 90)] (I1 12 4) ∧ dkN [(1, 1)] (I1 12 5) ∧ (I0 12 2).toInt + 1 ≤ (I0 12 1).toInt ∧ (I0 13 (Int32.toNatClampNeg (I0 12 2))).toInt ≠ p0.toInt ∧ r = 0 ∧ I1 12 2 = I0 12 2 ∧ I1 12 4 = I0 12 2 ∧ I1 12 5 = 1 ∧ True)))) 0 0 (dkA z) := by
  refine Met.ofW (cc := cX2_takes) (maxL := 2) (ret := (some .boolean)) (by decide) rfl ?_
  intro p e s m args below meth c s₁ B hml hv
  obtain ⟨ha, hW, hK, hT⟩ := hv
  have hx := B.exec
  have hb := B.bytes
  have hr := B.returns
  have hts := atoms_spec (ws := wsX2_takes) B.pre
  have hown : s.vm.findClass RX2 = some m.cls := findClass_of_methodNamed B.named
  have hlocks := B.notSynchronized
  have hS : va_S (dkA z) s.heap s.heap [] := va_S.rf
  have hF : dkF [(12, 12, 2, 2), (12, 12, 4, 5)] I0 I0 := dkF_rf _ _
  have hl := lv_entry ([.ref (z + 12), .int p0]) (n := 2) (Nat.le_of_ble_eq_true rfl)
  have hgo : entryFrame m args 2 = entryFrame m ([.ref (z + 12), .int p0] : List Value).toArray 2 := by rw [ha]
  rw [hgo, lg_entry_eq]
  generalize (lg_sl ([.ref (z + 12), .int p0]) ++ List.replicate (2 - (lg_sl ([.ref (z + 12), .int p0])).length) Slot.unset).toArray = ls at hl ⊢
  have hl : lv_has ls 2 [(0, .ref (z + 12)), (1, .int p0)] := hl
  refine lv_aload_n hx hb dX2_takes_0 rfl (lv_at hl 0 rfl) ?_
  refine dk_Vi (As := []) (rest := []) ⟨hx, hb, hml, hown, hts⟩ (fx_X2_coming_1 l g z I0 hO) (cwV 0 hts gX2_takes_X2_coming rfl rfl rfl (by decide +kernel) ⟨Nat.le_of_ble_eq_true rfl, Nat.le_of_ble_eq_true rfl⟩) (dk_at12 hW) rfl hK hT hW hS rfl hl.1 rfl (Nat.le_of_ble_eq_true rfl) dX2_takes_1 ⟨Nat.zero_le _, Nat.zero_le _⟩ (fun v1 I1 H1 L1 hp1 hW hS => ?_)
  obtain ⟨hF1, hO, hc1⟩ := hp1
  have hF := dkF_call hF hF1 rfl
  have eI1 : I0 = I1 := (dkF_nil hF1).symm
  subst eI1
  rcases hc1 with ⟨dv1, x1_0, xr1, -⟩ | hc1
  ·
    have q2 : (I0 12 1).toInt + 0 ≤ (I0 12 2).toInt := x1_0
    have xv1 : v1 = (-1000000) := by have h := xr1; exact h
    refine lv_iload_n hx hb dX2_takes_4 rfl (lv_at hl 1 rfl) ?_
    refine lv_icmp_eq (tgt := 14) hx hb dX2_takes_5 (by decide) (fun c3 => ?_) (fun c3 => ?_)
    ·
      exact (dkN_nil (show dkN [] v1 from dkN_eq1 dv1 dp0 (congrArg Int32.toInt c3) rfl)).elim
    ·
      have q4 : (-1000000 : Int) ≠ p0.toInt := by first | (rw [← xv1]; exact (dk_ne c3)) | (subst xv1; exact (dk_ne c3))
      refine lv_aload_n hx hb dX2_takes_8 rfl (lv_at hl 0 rfl) ?_
      refine lv_iconst (v := 1) hx hb dX2_takes_9 (by decide) ?_
      refine dk_Vi (As := [.int 1]) (rest := []) ⟨hx, hb, hml, hown, hts⟩ (fx_X2_meets_3 l g z I0 1 (dkN_lit (x := 1) (1) rfl) hO) (cwV 1 hts gX2_takes_X2_meets rfl rfl rfl (by decide +kernel) ⟨Nat.le_of_ble_eq_true rfl, Nat.le_of_ble_eq_true rfl⟩) (dk_at12 hW) rfl hK hT hW hS rfl hl.1 rfl (Nat.le_of_ble_eq_true rfl) dX2_takes_10 ⟨Nat.zero_le _, Nat.zero_le _⟩ (fun v5 I5 H5 L5 hp5 hW hS => ?_)
      obtain ⟨hF5, hO, hc5⟩ := hp5
      have hF := dkF_call hF hF5 rfl
      obtain ⟨dv5, f5_12_4, f5_12_5, xr5, xh5_0, xh5_1, xh5_2, -⟩ := hc5
      have y6 : I5 12 2 = I0 12 2 := by have h := xh5_0; exact h
      have y7 : I5 12 4 = I0 12 2 := by have h := xh5_1; exact h
      have y8 : I5 12 5 = 1 := by have h := xh5_2; exact h
      have xv5 : v5 = 0 := by have h := xr5; exact h
      exact W.zret (v := v5) (ty := .boolean) hx hb hr (dkN_zr dv5 rfl) (fun t ht hW9 => ⟨⟨v5, I5, rfl, ⟨hF, hO, Or.inl ⟨dkN_sub dv5 rfl, (show dkN [(0, 90)] (I5 12 4) from dkN_sub f5_12_4 rfl), (show dkN [(1, 1)] (I5 12 5) from dkN_sub f5_12_5 rfl), q2, q4, xv5, y6, y7, y8, trivial⟩⟩, dkW_eq ht hW⟩, hS.F ht⟩) hS.2.2 dX2_takes_13
  ·
    obtain ⟨dv1, f1_12_1, f1_12_2, x1_0, xr1, -⟩ := hc1
    have q9 : (I0 12 2).toInt + 1 ≤ (I0 12 1).toInt := x1_0
    have xv1 : v1 = I0 13 (Int32.toNatClampNeg (I0 12 2)) := by have h := xr1; exact h
    refine lv_iload_n hx hb dX2_takes_4 rfl (lv_at hl 1 rfl) ?_
    refine lv_icmp_eq (tgt := 14) hx hb dX2_takes_5 (by decide) (fun c10 => ?_) (fun c10 => ?_)
    ·
      have q11 : (I0 13 (Int32.toNatClampNeg (I0 12 2))).toInt = p0.toInt := by first | (rw [← xv1]; exact (congrArg Int32.toInt c10)) | (subst xv1; exact (congrArg Int32.toInt c10))
      have d12 : dkN [(109, 109)] v1 := dkN_eq1 dv1 dp0 (congrArg Int32.toInt c10) rfl
      refine lv_aload_n hx hb dX2_takes_14 rfl (lv_at hl 0 rfl) ?_
      refine lv_dup hx hb dX2_takes_15 rfl ?_
      refine dk_get (k := 12) hx hb hts iX2_takes_2 hown hK (dk_at12 hW) rfl 2 (by decide) (hts (.fieldLink RX2 30 "DogKings$Reader" "at" "I") (List.mem_of_getElem? (i := 1) rfl)) rfl dX2_takes_16 ?_
      refine lv_topi (fun v13 ev13 => ?_)
      have dv13 : dkN [(0, 89)] v13 := by rw [ev13]; exact f1_12_2
      have xv13 : v13 = I0 12 2 := ev13.trans rfl
      refine lv_iconst (v := 1) hx hb dX2_takes_19 (by decide) ?_
      refine lv_iadd hx hb dX2_takes_20 ?_
      refine lv_topi (fun v14 ev14 => ?_)
      have dv14 : dkN [(1, 90)] v14 := by rw [ev14]; exact dkN_add dv13 (dkN_lit (x := 1) (1) rfl) rfl
      have xv14 : v14 = (I0 12 2) + (1 : Int32) := by rw [ev14, xv13]
      have q15 : ((I0 12 2) + (1 : Int32)).toInt = (I0 12 2).toInt + (1 : Int) := by first | (rw [← xv14, ← xv13]; exact (by rw [ev14]; exact dk_addE dv13 (dkN_lit (x := 1) (1) rfl) rfl)) | (subst xv14 xv13; exact (by rw [ev14]; exact dk_addE dv13 (dkN_lit (x := 1) (1) rfl) rfl))
      refine dk_put (k := 12) hx hb hts iX2_takes_2 tyX2 tyX2_ok nmX2 hown hK hW (dk_at12 hW) hS rfl 2 (by decide) (hts (.fieldLink RX2 30 "DogKings$Reader" "at" "I") (List.mem_of_getElem? (i := 1) rfl)) rfl rfl (Nat.le_of_ble_eq_true rfl) rfl dX2_takes_21 (fun I16 H16 L16 eI16 hW hS => ?_)
      have eI16 : I16 = dkU I0 12 2 v14 := eI16
      have hO := dkO_set hO eI16 (dkN_sub dv14 rfl)
      have hF := dkF_set hF eI16 rfl
      refine lv_iconst (v := 1) hx hb dX2_takes_24 (by decide) ?_
      exact W.zret (v := 1) (ty := .boolean) hx hb hr rfl (fun t ht hW9 => ⟨⟨1, I16, rfl, ⟨hF, hO, Or.inr (Or.inl ⟨dkN_sub (dkN_lit (x := 1) (1) rfl) rfl, (show dkN [(1, 90)] (I16 12 1) from dkN_sub (by rw [eI16, dkU_sn (by decide)]; exact f1_12_1) rfl), (show dkN [(1, 90)] (I16 12 2) from dkN_sub (by rw [eI16, dkU_ss]; exact dv14) rfl), q9, q11, q15, rfl, (by rw [eI16, dkU_ss, xv14]), ((by rw [eI16, dkU_sn (by decide)] : I16 12 4 = _).trans rfl), ((by rw [eI16, dkU_sn (by decide)] : I16 12 5 = _).trans rfl), trivial⟩)⟩, dkW_eq ht hW⟩, hS.F ht⟩) hS.2.2 dX2_takes_25
    ·
      have q17 : (I0 13 (Int32.toNatClampNeg (I0 12 2))).toInt ≠ p0.toInt := by first | (rw [← xv1]; exact (dk_ne c10)) | (subst xv1; exact (dk_ne c10))
      have d18 : dkN [(0, 108), (110, 255)] v1 := dkN_ne1 (109) dv1 dp0 (dk_ne c10) rfl
      refine lv_aload_n hx hb dX2_takes_8 rfl (lv_at hl 0 rfl) ?_
      refine lv_iconst (v := 1) hx hb dX2_takes_9 (by decide) ?_
      refine dk_Vi (As := [.int 1]) (rest := []) ⟨hx, hb, hml, hown, hts⟩ (fx_X2_meets_3 l g z I0 1 (dkN_lit (x := 1) (1) rfl) hO) (cwV 1 hts gX2_takes_X2_meets rfl rfl rfl (by decide +kernel) ⟨Nat.le_of_ble_eq_true rfl, Nat.le_of_ble_eq_true rfl⟩) (dk_at12 hW) rfl hK hT hW hS rfl hl.1 rfl (Nat.le_of_ble_eq_true rfl) dX2_takes_10 ⟨Nat.zero_le _, Nat.zero_le _⟩ (fun v19 I19 H19 L19 hp19 hW hS => ?_)
      obtain ⟨hF19, hO, hc19⟩ := hp19
      have hF := dkF_call hF hF19 rfl
      obtain ⟨dv19, f19_12_4, f19_12_5, xr19, xh19_0, xh19_1, xh19_2, -⟩ := hc19
      have y20 : I19 12 2 = I0 12 2 := by have h := xh19_0; exact h
      have y21 : I19 12 4 = I0 12 2 := by have h := xh19_1; exact h
      have y22 : I19 12 5 = 1 := by have h := xh19_2; exact h
      have xv19 : v19 = 0 := by have h := xr19; exact h
      exact W.zret (v := v19) (ty := .boolean) hx hb hr (dkN_zr dv19 rfl) (fun t ht hW9 => ⟨⟨v19, I19, rfl, ⟨hF, hO, Or.inr (Or.inr (⟨dkN_sub dv19 rfl, (show dkN [(1, 90)] (I19 12 1) from dkN_sub (by rw [hF19 12 1 rfl]; exact f1_12_1) rfl), (show dkN [(0, 89)] (I19 12 2) from dkN_sub (by rw [hF19 12 2 rfl]; exact f1_12_2) rfl), (show dkN [(0, 90)] (I19 12 4) from dkN_sub f19_12_4 rfl), (show dkN [(1, 1)] (I19 12 5) from dkN_sub f19_12_5 rfl), q9, q17, xv19, y20, y21, y22, trivial⟩))⟩, dkW_eq ht hW⟩, hS.F ht⟩) hS.2.2 dX2_takes_13
set_option maxHeartbeats 4000000 in
set_option maxRecDepth 100000 in
theorem h_X2_takes_3 (l : Launch) (g : dkG) (z : Nat) (I0 : dkI) (p0 : Int32) (dp0 : dkN [(109, 109)] p0) (hO : dkOk I0) : Met l yX2_takes wsX2_takes (dkR 1) (dkPc g z [.ref (z + 12), .int p0] I0) (dkQi g z (fun r I1 => dkF [(12, 12, 2, 2), (12, 12, 4, 5)] I0 I1 ∧ dkOk I1 ∧ ((dkN [(1, 1)] r ∧ dkN [(1, 90)] (I1 12 1) ∧ dkN [(1, 90)] (I1 12 2) ∧ (dkSg (I0 13) (I0 12 1) p0 (I0 12 2)).1 = 0 ∧ r = 1 ∧ I1 12 2 = (dkSg (I0 13) (I0 12 1) p0 (I0 12 2)).2 ∧ I1 12 5 = I0 12 5 ∧ True) ∨ (dkN [(0, 0)] r ∧ (dkSg (I0 13) (I0 12 1) p0 (I0 12 2)).1 ≠ 0 ∧ r = 0 ∧ I1 12 4 = (dkSg (I0 13) (I0 12 1) p0 (I0 12 2)).2 ∧ I1 12 5 = (dkSg (I0 13) (I0 12 1) p0 (I0 12 2)).1 ∧ True)))) 0 0 (dkA z) := by
  refine dk_weakI (fx_X2_takes_7 l g z I0 p0 dp0 hO) (fun r I1 h => ?_)
  obtain ⟨hF, hO1, hc⟩ := h
  refine ⟨hF, hO1, ?_⟩
  rcases hc with ⟨d, G0, G1, u0, u1, ER, H12_2, H12_4, H12_5, -⟩ | ⟨d, G0, G1, u0, u1, u2, ER, H12_2, H12_4, H12_5, -⟩ | ⟨d, G0, G1, G2, G3, u0, u1, ER, H12_2, H12_4, H12_5, -⟩
  ·
    have e : dkSg (I0 13) (I0 12 1) p0 (I0 12 2) = (1, I0 12 2) := dkSg_f (by omega)
    exact Or.inr ⟨dkN_sub d rfl, (dkE_k e (by decide)), ER, (H12_4.trans (congrArg Prod.snd e).symm), (H12_5.trans (congrArg Prod.fst e).symm), trivial⟩
  ·
    have e : dkSg (I0 13) (I0 12 1) p0 (I0 12 2) = (0, (I0 12 2) + (1 : Int32)) := dkSg_t (by omega) (by omega)
    exact Or.inl ⟨dkN_sub d rfl, dkN_sub G0 rfl, dkN_sub G1 rfl, (congrArg Prod.fst e), ER, (H12_2.trans (congrArg Prod.snd e).symm), H12_5, trivial⟩
  ·
    have e : dkSg (I0 13) (I0 12 1) p0 (I0 12 2) = (1, I0 12 2) := dkSg_f (by omega)
    exact Or.inr ⟨dkN_sub d rfl, (dkE_k e (by decide)), ER, (H12_4.trans (congrArg Prod.snd e).symm), (H12_5.trans (congrArg Prod.fst e).symm), trivial⟩
