set_option maxHeartbeats 4000000 in
set_option maxRecDepth 100000 in
theorem h_X2_number_0 (l : Launch) (g : dkG) (z : Nat) (I0 : dkI) (p0 : Int32) (p1 : Int32) (dp0 : dkN [(3, 3)] p0) (dp1 : dkN [(9, 9)] p1) (hO : dkOk I0) : Met l yX2_number wsX2_number (dkR 1) (dkPc g z [.ref (z + 12), .int p0, .int p1] I0) (dkQi g z (fun r I1 => dkF [(12, 12, 2, 2), (12, 12, 4, 5)] I0 I1 ∧ dkOk I1 ∧ ((dkN [(3, 9)] r ∧ dkN [(1, 90)] (I1 12 1) ∧ dkN [(1, 90)] (I1 12 2) ∧ (dkNg (I0 13) (I0 12 1) p0 p1 (I0 12 2)).1 = 0 ∧ r = dkNn (I0 13) (I0 12 1) (I0 12 2) ∧ I1 12 2 = (dkNg (I0 13) (I0 12 1) p0 p1 (I0 12 2)).2 ∧ I1 12 5 = I0 12 5 ∧ True) ∨ (dkN [(-1000000, -1000000)] r ∧ (dkNg (I0 13) (I0 12 1) p0 p1 (I0 12 2)).1 ≠ 0 ∧ r = (-1000000) ∧ I1 12 4 = (dkNg (I0 13) (I0 12 1) p0 p1 (I0 12 2)).2 ∧ I1 12 5 = (dkNg (I0 13) (I0 12 1) p0 p1 (I0 12 2)).1 ∧ True)))) 0 0 (dkA z) := by
  refine dk_weakI (fx_X2_number_5 l g z I0 p0 p1 dp0 dp1 hO) (fun r I1 h => ?_)
  obtain ⟨hF, hO1, hc⟩ := h
  have b0 : dkN [(0, 90)] (I0 12 2) := hO 12 2
  have b1 : dkN [(0, 90)] (I0 12 1) := hO 12 1
  obtain ⟨p0_, hp0_, a1, a2⟩ := b0
  rw [List.mem_singleton] at hp0_
  subst hp0_
  simp only at a1 a2
  obtain ⟨p1_, hp1_, a3, a4⟩ := b1
  rw [List.mem_singleton] at hp1_
  subst hp1_
  simp only at a3 a4
  have e1 : (I0 12 2 + 1).toInt = (I0 12 2).toInt + 1 := by rw [Int32.toInt_add]; exact dk_bm (by show _ ≤ (I0 12 2).toInt + 1; omega) (by show (I0 12 2).toInt + 1 ≤ _; omega)
  have e2 : (I0 12 2 + 1 + 1).toInt = (I0 12 2).toInt + 2 := (show (I0 12 2 + 1 + 1).toInt = (I0 12 2).toInt + 1 + 1 by rw [Int32.toInt_add, e1]; exact dk_bm (by show _ ≤ (I0 12 2).toInt + 1 + 1; omega) (by show (I0 12 2).toInt + 1 + 1 ≤ _; omega)).trans (by omega)
  have k0 : Int32.toNatClampNeg (I0 12 2) = (I0 12 2).toInt.toNat := rfl
  have k1 : Int32.toNatClampNeg (I0 12 2 + 1) = ((I0 12 2).toInt + 1).toNat := by show (I0 12 2 + 1).toInt.toNat = _; rw [e1]
  have k2 : Int32.toNatClampNeg (I0 12 2 + 1 + 1) = ((I0 12 2).toInt + 2).toNat := by show (I0 12 2 + 1 + 1).toInt.toNat = _; rw [e2]
  simp only [k0, k1, k2] at hc
  refine ⟨hF, hO1, ?_⟩
  rcases hc with ⟨d, G0, G1, u0, ER, H12_2, H12_4, H12_5, -⟩ | ⟨d, G0, G1, G2, G3, u0, u1, ER, H12_2, H12_4, H12_5, -⟩ | ⟨d, G0, G1, G2, G3, u0, u1, u2, ER, H12_2, H12_4, H12_5, -⟩ | ⟨d, G0, G1, G2, G3, u0, u1, u2, u3, u4, u5, u6, u7, u8, u9, u10, u11, u12, ER, H12_2, H12_4, H12_5, -⟩ | ⟨d, G0, G1, u0, u1, u2, u3, u4, u5, u6, u7, u8, u9, u10, u11, u12, u13, ER, H12_2, H12_4, H12_5, -⟩ | ⟨d, G0, G1, G2, G3, u0, u1, u2, u3, u4, u5, u6, u7, u8, u9, u10, u11, u12, u13, ER, H12_2, H12_4, H12_5, -⟩ | ⟨d, G0, G1, G2, G3, u0, u1, u2, u3, u4, u5, u6, u7, u8, u9, u10, u11, u12, u13, ER, H12_2, H12_4, H12_5, -⟩ | ⟨d, G0, G1, u0, u1, u2, u3, u4, u5, u6, u7, u8, u9, u10, u11, u12, u13, u14, ER, H12_2, H12_4, H12_5, -⟩ | ⟨d, G0, G1, G2, G3, u0, u1, u2, u3, u4, u5, u6, u7, u8, u9, u10, u11, u12, u13, u14, ER, H12_2, H12_4, H12_5, -⟩ | ⟨d, G0, G1, G2, G3, u0, u1, u2, u3, u4, u5, u6, u7, u8, u9, u10, u11, u12, u13, u14, ER, H12_2, H12_4, H12_5, -⟩ | ⟨d, G0, G1, u0, u1, u2, u3, u4, u5, u6, u7, u8, u9, u10, u11, u12, u13, u14, u15, ER, H12_2, H12_4, H12_5, -⟩ | ⟨d, G0, G1, G2, G3, u0, u1, u2, u3, u4, u5, u6, u7, u8, u9, u10, u11, u12, u13, u14, u15, ER, H12_2, H12_4, H12_5, -⟩ | ⟨d, G0, G1, G2, G3, u0, u1, u2, u3, u4, u5, u6, u7, u8, u9, u10, u11, u12, u13, u14, u15, u16, u17, u18, u19, u20, u21, ER, H12_2, H12_4, H12_5, -⟩ | ⟨d, G0, G1, u0, u1, u2, u3, u4, u5, u6, u7, u8, u9, u10, u11, u12, u13, u14, u15, u16, u17, u18, u19, u20, u21, u22, ER, H12_2, H12_4, H12_5, -⟩ | ⟨d, G0, G1, G2, G3, u0, u1, u2, u3, u4, u5, u6, u7, u8, u9, u10, u11, u12, u13, u14, u15, u16, u17, u18, u19, u20, u21, u22, ER, H12_2, H12_4, H12_5, -⟩ | ⟨d, G0, G1, G2, G3, u0, u1, u2, u3, u4, u5, u6, u7, u8, u9, u10, u11, u12, u13, u14, u15, u16, u17, u18, u19, u20, u21, u22, ER, H12_2, H12_4, H12_5, -⟩ | ⟨d, G0, G1, u0, u1, u2, u3, u4, u5, u6, u7, u8, u9, u10, u11, u12, u13, u14, u15, u16, u17, u18, u19, u20, u21, u22, u23, ER, H12_2, H12_4, H12_5, -⟩ | ⟨d, G0, G1, G2, G3, u0, u1, u2, u3, u4, u5, u6, u7, u8, u9, u10, u11, u12, u13, u14, u15, u16, u17, u18, u19, u20, u21, u22, u23, ER, H12_2, H12_4, H12_5, -⟩ | ⟨d, G0, G1, G2, G3, u0, u1, u2, u3, u4, u5, u6, u7, u8, u9, u10, u11, u12, u13, u14, u15, u16, u17, u18, u19, u20, u21, u22, u23, ER, H12_2, H12_4, H12_5, -⟩ | ⟨d, G0, G1, u0, u1, u2, u3, u4, u5, u6, u7, u8, u9, u10, u11, u12, u13, u14, u15, u16, u17, u18, u19, u20, u21, u22, u23, u24, ER, H12_2, H12_4, H12_5, -⟩ | ⟨d, G0, G1, G2, G3, u0, u1, u2, u3, u4, u5, u6, u7, u8, u9, u10, u11, u12, u13, u14, u15, u16, u17, u18, u19, u20, u21, u22, u23, u24, ER, H12_2, H12_4, H12_5, -⟩ | ⟨d, G0, G1, G2, G3, u0, u1, u2, u3, u4, u5, u6, u7, u8, u9, u10, u11, u12, u13, u14, u15, u16, u17, u18, u19, u20, u21, u22, u23, u24, u25, u26, u27, u28, u29, ER, H12_2, H12_4, H12_5, -⟩ | ⟨d, G0, G1, G2, G3, u0, u1, u2, u3, u4, u5, u6, u7, u8, u9, u10, u11, u12, u13, u14, u15, u16, u17, u18, u19, u20, u21, u22, u23, u24, u25, u26, u27, u28, u29, u30, ER, H12_2, H12_4, H12_5, -⟩ | ⟨d, G0, G1, G2, G3, u0, u1, u2, u3, u4, u5, u6, u7, u8, u9, u10, u11, u12, u13, u14, u15, u16, u17, u18, u19, u20, u21, u22, u23, u24, u25, u26, u27, u28, u29, u30, u31, ER, H12_2, H12_4, H12_5, -⟩ | ⟨d, G0, G1, G2, G3, u0, u1, u2, u3, u4, u5, u6, u7, u8, u9, u10, u11, u12, u13, u14, u15, u16, u17, u18, u19, u20, u21, u22, u23, u24, u25, u26, u27, u28, u29, u30, u31, u32, ER, H12_2, H12_4, H12_5, -⟩
  ·
    have e : dkNg (I0 13) (I0 12 1) p0 p1 (I0 12 2) = (1, I0 12 2) := dkNg_1 (by first | (rw [(dkNv_0 (T := I0 13) (n := (I0 12 1).toInt) (a := (I0 12 2).toInt) (by unfold dkDg; omega))]; decide) | (rw [(dkNv_3 (T := I0 13) (n := (I0 12 1).toInt) (a := (I0 12 2).toInt) (by unfold dkDg; omega) (by unfold dkDg; omega) (by unfold dkDg; omega))]; decide))
    exact Or.inr ⟨dkN_sub d rfl, (dkE_k e (by decide)), ER, (H12_4.trans (congrArg Prod.snd e).symm), (H12_5.trans (congrArg Prod.fst e).symm), trivial⟩
  ·
    have e : dkNg (I0 13) (I0 12 1) p0 p1 (I0 12 2) = (1, I0 12 2) := dkNg_1 (by first | (rw [(dkNv_0 (T := I0 13) (n := (I0 12 1).toInt) (a := (I0 12 2).toInt) (by unfold dkDg; omega))]; decide) | (rw [(dkNv_3 (T := I0 13) (n := (I0 12 1).toInt) (a := (I0 12 2).toInt) (by unfold dkDg; omega) (by unfold dkDg; omega) (by unfold dkDg; omega))]; decide))
    exact Or.inr ⟨dkN_sub d rfl, (dkE_k e (by decide)), ER, (H12_4.trans (congrArg Prod.snd e).symm), (H12_5.trans (congrArg Prod.fst e).symm), trivial⟩
  ·
    have e : dkNg (I0 13) (I0 12 1) p0 p1 (I0 12 2) = (1, I0 12 2) := dkNg_1 (by first | (rw [(dkNv_0 (T := I0 13) (n := (I0 12 1).toInt) (a := (I0 12 2).toInt) (by unfold dkDg; omega))]; decide) | (rw [(dkNv_3 (T := I0 13) (n := (I0 12 1).toInt) (a := (I0 12 2).toInt) (by unfold dkDg; omega) (by unfold dkDg; omega) (by unfold dkDg; omega))]; decide))
    exact Or.inr ⟨dkN_sub d rfl, (dkE_k e (by decide)), ER, (H12_4.trans (congrArg Prod.snd e).symm), (H12_5.trans (congrArg Prod.fst e).symm), trivial⟩
  ·
    have e : dkNg (I0 13) (I0 12 1) p0 p1 (I0 12 2) = (2, I0 12 2) := by
      first | exact dkNg_2 (by rw [(dkNv_1 (T := I0 13) (n := (I0 12 1).toInt) (a := (I0 12 2).toInt) (by unfold dkDg; omega) (by unfold dkDg; omega)).1]; omega) (by rw [(dkNv_1 (T := I0 13) (n := (I0 12 1).toInt) (a := (I0 12 2).toInt) (by unfold dkDg; omega) (by unfold dkDg; omega)).1]; omega) | exact dkNg_2 (by rw [(dkNv_2 (T := I0 13) (n := (I0 12 1).toInt) (a := (I0 12 2).toInt) (by unfold dkDg; omega) (by unfold dkDg; omega) (by unfold dkDg; omega)).1]; omega) (by rw [(dkNv_2 (T := I0 13) (n := (I0 12 1).toInt) (a := (I0 12 2).toInt) (by unfold dkDg; omega) (by unfold dkDg; omega) (by unfold dkDg; omega)).1]; omega)
    exact Or.inr ⟨dkN_sub d rfl, (dkE_k e (by decide)), ER, (H12_4.trans (congrArg Prod.snd e).symm), (H12_5.trans (congrArg Prod.fst e).symm), trivial⟩
  ·
    have hv : 0 ≤ dkNv (I0 13) (I0 12 1).toInt (I0 12 2).toInt ∧ dkNv (I0 13) (I0 12 1).toInt (I0 12 2).toInt = r.toInt ∧ (I1 12 2).toInt = dkNe (I0 13) (I0 12 1).toInt (I0 12 2).toInt := by
      first | (rw [(dkNv_1 (T := I0 13) (n := (I0 12 1).toInt) (a := (I0 12 2).toInt) (by unfold dkDg; omega) (by unfold dkDg; omega)).1, (dkNv_1 (T := I0 13) (n := (I0 12 1).toInt) (a := (I0 12 2).toInt) (by unfold dkDg; omega) (by unfold dkDg; omega)).2]; rw [ER, H12_2]; refine ⟨?_, ?_, ?_⟩ <;> omega) | (rw [(dkNv_2 (T := I0 13) (n := (I0 12 1).toInt) (a := (I0 12 2).toInt) (by unfold dkDg; omega) (by unfold dkDg; omega) (by unfold dkDg; omega)).1, (dkNv_2 (T := I0 13) (n := (I0 12 1).toInt) (a := (I0 12 2).toInt) (by unfold dkDg; omega) (by unfold dkDg; omega) (by unfold dkDg; omega)).2]; rw [ER, H12_2]; refine ⟨?_, ?_, ?_⟩ <;> omega)
    have e : dkNg (I0 13) (I0 12 1) p0 p1 (I0 12 2) = (0, I1 12 2) := (dkNg_0 (by omega) (by rw [hv.2.1, ER]; omega) (by rw [hv.2.1, ER]; omega)).trans (by rw [dk_isI hv.2.2])
    have e : dkNg (I0 13) (I0 12 1) p0 p1 (I0 12 2) = (0, (I0 12 2) + 1) := e.trans (by rw [H12_2])
    exact Or.inl ⟨dkN_sub d rfl, dkN_sub G0 rfl, dkN_sub G1 rfl, (congrArg Prod.fst e), (dk_isI hv.2.1.symm), (H12_2.trans (congrArg Prod.snd e).symm), H12_5, trivial⟩
  ·
    have e : dkNg (I0 13) (I0 12 1) p0 p1 (I0 12 2) = (2, I0 12 2) := by
      first | exact dkNg_2 (by rw [(dkNv_1 (T := I0 13) (n := (I0 12 1).toInt) (a := (I0 12 2).toInt) (by unfold dkDg; omega) (by unfold dkDg; omega)).1]; omega) (by rw [(dkNv_1 (T := I0 13) (n := (I0 12 1).toInt) (a := (I0 12 2).toInt) (by unfold dkDg; omega) (by unfold dkDg; omega)).1]; omega) | exact dkNg_2 (by rw [(dkNv_2 (T := I0 13) (n := (I0 12 1).toInt) (a := (I0 12 2).toInt) (by unfold dkDg; omega) (by unfold dkDg; omega) (by unfold dkDg; omega)).1]; omega) (by rw [(dkNv_2 (T := I0 13) (n := (I0 12 1).toInt) (a := (I0 12 2).toInt) (by unfold dkDg; omega) (by unfold dkDg; omega) (by unfold dkDg; omega)).1]; omega)
    exact Or.inr ⟨dkN_sub d rfl, (dkE_k e (by decide)), ER, (H12_4.trans (congrArg Prod.snd e).symm), (H12_5.trans (congrArg Prod.fst e).symm), trivial⟩
  ·
    have e : dkNg (I0 13) (I0 12 1) p0 p1 (I0 12 2) = (2, I0 12 2) := by
      first | exact dkNg_2 (by rw [(dkNv_1 (T := I0 13) (n := (I0 12 1).toInt) (a := (I0 12 2).toInt) (by unfold dkDg; omega) (by unfold dkDg; omega)).1]; omega) (by rw [(dkNv_1 (T := I0 13) (n := (I0 12 1).toInt) (a := (I0 12 2).toInt) (by unfold dkDg; omega) (by unfold dkDg; omega)).1]; omega) | exact dkNg_2 (by rw [(dkNv_2 (T := I0 13) (n := (I0 12 1).toInt) (a := (I0 12 2).toInt) (by unfold dkDg; omega) (by unfold dkDg; omega) (by unfold dkDg; omega)).1]; omega) (by rw [(dkNv_2 (T := I0 13) (n := (I0 12 1).toInt) (a := (I0 12 2).toInt) (by unfold dkDg; omega) (by unfold dkDg; omega) (by unfold dkDg; omega)).1]; omega)
    exact Or.inr ⟨dkN_sub d rfl, (dkE_k e (by decide)), ER, (H12_4.trans (congrArg Prod.snd e).symm), (H12_5.trans (congrArg Prod.fst e).symm), trivial⟩
  ·
    have hv : 0 ≤ dkNv (I0 13) (I0 12 1).toInt (I0 12 2).toInt ∧ dkNv (I0 13) (I0 12 1).toInt (I0 12 2).toInt = r.toInt ∧ (I1 12 2).toInt = dkNe (I0 13) (I0 12 1).toInt (I0 12 2).toInt := by
      first | (rw [(dkNv_1 (T := I0 13) (n := (I0 12 1).toInt) (a := (I0 12 2).toInt) (by unfold dkDg; omega) (by unfold dkDg; omega)).1, (dkNv_1 (T := I0 13) (n := (I0 12 1).toInt) (a := (I0 12 2).toInt) (by unfold dkDg; omega) (by unfold dkDg; omega)).2]; rw [ER, H12_2]; refine ⟨?_, ?_, ?_⟩ <;> omega) | (rw [(dkNv_2 (T := I0 13) (n := (I0 12 1).toInt) (a := (I0 12 2).toInt) (by unfold dkDg; omega) (by unfold dkDg; omega) (by unfold dkDg; omega)).1, (dkNv_2 (T := I0 13) (n := (I0 12 1).toInt) (a := (I0 12 2).toInt) (by unfold dkDg; omega) (by unfold dkDg; omega) (by unfold dkDg; omega)).2]; rw [ER, H12_2]; refine ⟨?_, ?_, ?_⟩ <;> omega)
    have e : dkNg (I0 13) (I0 12 1) p0 p1 (I0 12 2) = (0, I1 12 2) := (dkNg_0 (by omega) (by rw [hv.2.1, ER]; omega) (by rw [hv.2.1, ER]; omega)).trans (by rw [dk_isI hv.2.2])
    have e : dkNg (I0 13) (I0 12 1) p0 p1 (I0 12 2) = (0, (I0 12 2) + 1) := e.trans (by rw [H12_2])
    exact Or.inl ⟨dkN_sub d rfl, dkN_sub G0 rfl, dkN_sub G1 rfl, (congrArg Prod.fst e), (dk_isI hv.2.1.symm), (H12_2.trans (congrArg Prod.snd e).symm), H12_5, trivial⟩
  ·
    have e : dkNg (I0 13) (I0 12 1) p0 p1 (I0 12 2) = (2, I0 12 2) := by
      first | exact dkNg_2 (by rw [(dkNv_1 (T := I0 13) (n := (I0 12 1).toInt) (a := (I0 12 2).toInt) (by unfold dkDg; omega) (by unfold dkDg; omega)).1]; omega) (by rw [(dkNv_1 (T := I0 13) (n := (I0 12 1).toInt) (a := (I0 12 2).toInt) (by unfold dkDg; omega) (by unfold dkDg; omega)).1]; omega) | exact dkNg_2 (by rw [(dkNv_2 (T := I0 13) (n := (I0 12 1).toInt) (a := (I0 12 2).toInt) (by unfold dkDg; omega) (by unfold dkDg; omega) (by unfold dkDg; omega)).1]; omega) (by rw [(dkNv_2 (T := I0 13) (n := (I0 12 1).toInt) (a := (I0 12 2).toInt) (by unfold dkDg; omega) (by unfold dkDg; omega) (by unfold dkDg; omega)).1]; omega)
    exact Or.inr ⟨dkN_sub d rfl, (dkE_k e (by decide)), ER, (H12_4.trans (congrArg Prod.snd e).symm), (H12_5.trans (congrArg Prod.fst e).symm), trivial⟩
  ·
    have e : dkNg (I0 13) (I0 12 1) p0 p1 (I0 12 2) = (2, I0 12 2) := by
      first | exact dkNg_2 (by rw [(dkNv_1 (T := I0 13) (n := (I0 12 1).toInt) (a := (I0 12 2).toInt) (by unfold dkDg; omega) (by unfold dkDg; omega)).1]; omega) (by rw [(dkNv_1 (T := I0 13) (n := (I0 12 1).toInt) (a := (I0 12 2).toInt) (by unfold dkDg; omega) (by unfold dkDg; omega)).1]; omega) | exact dkNg_2 (by rw [(dkNv_2 (T := I0 13) (n := (I0 12 1).toInt) (a := (I0 12 2).toInt) (by unfold dkDg; omega) (by unfold dkDg; omega) (by unfold dkDg; omega)).1]; omega) (by rw [(dkNv_2 (T := I0 13) (n := (I0 12 1).toInt) (a := (I0 12 2).toInt) (by unfold dkDg; omega) (by unfold dkDg; omega) (by unfold dkDg; omega)).1]; omega)
    exact Or.inr ⟨dkN_sub d rfl, (dkE_k e (by decide)), ER, (H12_4.trans (congrArg Prod.snd e).symm), (H12_5.trans (congrArg Prod.fst e).symm), trivial⟩
  ·
    have hv : 0 ≤ dkNv (I0 13) (I0 12 1).toInt (I0 12 2).toInt ∧ dkNv (I0 13) (I0 12 1).toInt (I0 12 2).toInt = r.toInt ∧ (I1 12 2).toInt = dkNe (I0 13) (I0 12 1).toInt (I0 12 2).toInt := by
      first | (rw [(dkNv_1 (T := I0 13) (n := (I0 12 1).toInt) (a := (I0 12 2).toInt) (by unfold dkDg; omega) (by unfold dkDg; omega)).1, (dkNv_1 (T := I0 13) (n := (I0 12 1).toInt) (a := (I0 12 2).toInt) (by unfold dkDg; omega) (by unfold dkDg; omega)).2]; rw [ER, H12_2]; refine ⟨?_, ?_, ?_⟩ <;> omega) | (rw [(dkNv_2 (T := I0 13) (n := (I0 12 1).toInt) (a := (I0 12 2).toInt) (by unfold dkDg; omega) (by unfold dkDg; omega) (by unfold dkDg; omega)).1, (dkNv_2 (T := I0 13) (n := (I0 12 1).toInt) (a := (I0 12 2).toInt) (by unfold dkDg; omega) (by unfold dkDg; omega) (by unfold dkDg; omega)).2]; rw [ER, H12_2]; refine ⟨?_, ?_, ?_⟩ <;> omega)
    have e : dkNg (I0 13) (I0 12 1) p0 p1 (I0 12 2) = (0, I1 12 2) := (dkNg_0 (by omega) (by rw [hv.2.1, ER]; omega) (by rw [hv.2.1, ER]; omega)).trans (by rw [dk_isI hv.2.2])
    have e : dkNg (I0 13) (I0 12 1) p0 p1 (I0 12 2) = (0, (I0 12 2) + 1) := e.trans (by rw [H12_2])
    exact Or.inl ⟨dkN_sub d rfl, dkN_sub G0 rfl, dkN_sub G1 rfl, (congrArg Prod.fst e), (dk_isI hv.2.1.symm), (H12_2.trans (congrArg Prod.snd e).symm), H12_5, trivial⟩
  ·
    have e : dkNg (I0 13) (I0 12 1) p0 p1 (I0 12 2) = (2, I0 12 2) := by
      first | exact dkNg_2 (by rw [(dkNv_1 (T := I0 13) (n := (I0 12 1).toInt) (a := (I0 12 2).toInt) (by unfold dkDg; omega) (by unfold dkDg; omega)).1]; omega) (by rw [(dkNv_1 (T := I0 13) (n := (I0 12 1).toInt) (a := (I0 12 2).toInt) (by unfold dkDg; omega) (by unfold dkDg; omega)).1]; omega) | exact dkNg_2 (by rw [(dkNv_2 (T := I0 13) (n := (I0 12 1).toInt) (a := (I0 12 2).toInt) (by unfold dkDg; omega) (by unfold dkDg; omega) (by unfold dkDg; omega)).1]; omega) (by rw [(dkNv_2 (T := I0 13) (n := (I0 12 1).toInt) (a := (I0 12 2).toInt) (by unfold dkDg; omega) (by unfold dkDg; omega) (by unfold dkDg; omega)).1]; omega)
    exact Or.inr ⟨dkN_sub d rfl, (dkE_k e (by decide)), ER, (H12_4.trans (congrArg Prod.snd e).symm), (H12_5.trans (congrArg Prod.fst e).symm), trivial⟩
  ·
    have e : dkNg (I0 13) (I0 12 1) p0 p1 (I0 12 2) = (2, I0 12 2) := by
      first | exact dkNg_2 (by rw [(dkNv_1 (T := I0 13) (n := (I0 12 1).toInt) (a := (I0 12 2).toInt) (by unfold dkDg; omega) (by unfold dkDg; omega)).1]; omega) (by rw [(dkNv_1 (T := I0 13) (n := (I0 12 1).toInt) (a := (I0 12 2).toInt) (by unfold dkDg; omega) (by unfold dkDg; omega)).1]; omega) | exact dkNg_2 (by rw [(dkNv_2 (T := I0 13) (n := (I0 12 1).toInt) (a := (I0 12 2).toInt) (by unfold dkDg; omega) (by unfold dkDg; omega) (by unfold dkDg; omega)).1]; omega) (by rw [(dkNv_2 (T := I0 13) (n := (I0 12 1).toInt) (a := (I0 12 2).toInt) (by unfold dkDg; omega) (by unfold dkDg; omega) (by unfold dkDg; omega)).1]; omega)
    exact Or.inr ⟨dkN_sub d rfl, (dkE_k e (by decide)), ER, (H12_4.trans (congrArg Prod.snd e).symm), (H12_5.trans (congrArg Prod.fst e).symm), trivial⟩
  ·
    have hv : 0 ≤ dkNv (I0 13) (I0 12 1).toInt (I0 12 2).toInt ∧ dkNv (I0 13) (I0 12 1).toInt (I0 12 2).toInt = r.toInt ∧ (I1 12 2).toInt = dkNe (I0 13) (I0 12 1).toInt (I0 12 2).toInt := by
      first | (rw [(dkNv_1 (T := I0 13) (n := (I0 12 1).toInt) (a := (I0 12 2).toInt) (by unfold dkDg; omega) (by unfold dkDg; omega)).1, (dkNv_1 (T := I0 13) (n := (I0 12 1).toInt) (a := (I0 12 2).toInt) (by unfold dkDg; omega) (by unfold dkDg; omega)).2]; rw [ER, H12_2]; refine ⟨?_, ?_, ?_⟩ <;> omega) | (rw [(dkNv_2 (T := I0 13) (n := (I0 12 1).toInt) (a := (I0 12 2).toInt) (by unfold dkDg; omega) (by unfold dkDg; omega) (by unfold dkDg; omega)).1, (dkNv_2 (T := I0 13) (n := (I0 12 1).toInt) (a := (I0 12 2).toInt) (by unfold dkDg; omega) (by unfold dkDg; omega) (by unfold dkDg; omega)).2]; rw [ER, H12_2]; refine ⟨?_, ?_, ?_⟩ <;> omega)
    have e : dkNg (I0 13) (I0 12 1) p0 p1 (I0 12 2) = (0, I1 12 2) := (dkNg_0 (by omega) (by rw [hv.2.1, ER]; omega) (by rw [hv.2.1, ER]; omega)).trans (by rw [dk_isI hv.2.2])
    have e : dkNg (I0 13) (I0 12 1) p0 p1 (I0 12 2) = (0, ((I0 12 2) + 1) + 1) := e.trans (by rw [H12_2])
    exact Or.inl ⟨dkN_sub d rfl, dkN_sub G0 rfl, dkN_sub G1 rfl, (congrArg Prod.fst e), (dk_isI hv.2.1.symm), (H12_2.trans (congrArg Prod.snd e).symm), H12_5, trivial⟩
  ·
    have e : dkNg (I0 13) (I0 12 1) p0 p1 (I0 12 2) = (2, I0 12 2) := by
      first | exact dkNg_2 (by rw [(dkNv_1 (T := I0 13) (n := (I0 12 1).toInt) (a := (I0 12 2).toInt) (by unfold dkDg; omega) (by unfold dkDg; omega)).1]; omega) (by rw [(dkNv_1 (T := I0 13) (n := (I0 12 1).toInt) (a := (I0 12 2).toInt) (by unfold dkDg; omega) (by unfold dkDg; omega)).1]; omega) | exact dkNg_2 (by rw [(dkNv_2 (T := I0 13) (n := (I0 12 1).toInt) (a := (I0 12 2).toInt) (by unfold dkDg; omega) (by unfold dkDg; omega) (by unfold dkDg; omega)).1]; omega) (by rw [(dkNv_2 (T := I0 13) (n := (I0 12 1).toInt) (a := (I0 12 2).toInt) (by unfold dkDg; omega) (by unfold dkDg; omega) (by unfold dkDg; omega)).1]; omega)
    exact Or.inr ⟨dkN_sub d rfl, (dkE_k e (by decide)), ER, (H12_4.trans (congrArg Prod.snd e).symm), (H12_5.trans (congrArg Prod.fst e).symm), trivial⟩
  ·
    have e : dkNg (I0 13) (I0 12 1) p0 p1 (I0 12 2) = (2, I0 12 2) := by
      first | exact dkNg_2 (by rw [(dkNv_1 (T := I0 13) (n := (I0 12 1).toInt) (a := (I0 12 2).toInt) (by unfold dkDg; omega) (by unfold dkDg; omega)).1]; omega) (by rw [(dkNv_1 (T := I0 13) (n := (I0 12 1).toInt) (a := (I0 12 2).toInt) (by unfold dkDg; omega) (by unfold dkDg; omega)).1]; omega) | exact dkNg_2 (by rw [(dkNv_2 (T := I0 13) (n := (I0 12 1).toInt) (a := (I0 12 2).toInt) (by unfold dkDg; omega) (by unfold dkDg; omega) (by unfold dkDg; omega)).1]; omega) (by rw [(dkNv_2 (T := I0 13) (n := (I0 12 1).toInt) (a := (I0 12 2).toInt) (by unfold dkDg; omega) (by unfold dkDg; omega) (by unfold dkDg; omega)).1]; omega)
    exact Or.inr ⟨dkN_sub d rfl, (dkE_k e (by decide)), ER, (H12_4.trans (congrArg Prod.snd e).symm), (H12_5.trans (congrArg Prod.fst e).symm), trivial⟩
  ·
    have hv : 0 ≤ dkNv (I0 13) (I0 12 1).toInt (I0 12 2).toInt ∧ dkNv (I0 13) (I0 12 1).toInt (I0 12 2).toInt = r.toInt ∧ (I1 12 2).toInt = dkNe (I0 13) (I0 12 1).toInt (I0 12 2).toInt := by
      first | (rw [(dkNv_1 (T := I0 13) (n := (I0 12 1).toInt) (a := (I0 12 2).toInt) (by unfold dkDg; omega) (by unfold dkDg; omega)).1, (dkNv_1 (T := I0 13) (n := (I0 12 1).toInt) (a := (I0 12 2).toInt) (by unfold dkDg; omega) (by unfold dkDg; omega)).2]; rw [ER, H12_2]; refine ⟨?_, ?_, ?_⟩ <;> omega) | (rw [(dkNv_2 (T := I0 13) (n := (I0 12 1).toInt) (a := (I0 12 2).toInt) (by unfold dkDg; omega) (by unfold dkDg; omega) (by unfold dkDg; omega)).1, (dkNv_2 (T := I0 13) (n := (I0 12 1).toInt) (a := (I0 12 2).toInt) (by unfold dkDg; omega) (by unfold dkDg; omega) (by unfold dkDg; omega)).2]; rw [ER, H12_2]; refine ⟨?_, ?_, ?_⟩ <;> omega)
    have e : dkNg (I0 13) (I0 12 1) p0 p1 (I0 12 2) = (0, I1 12 2) := (dkNg_0 (by omega) (by rw [hv.2.1, ER]; omega) (by rw [hv.2.1, ER]; omega)).trans (by rw [dk_isI hv.2.2])
    have e : dkNg (I0 13) (I0 12 1) p0 p1 (I0 12 2) = (0, ((I0 12 2) + 1) + 1) := e.trans (by rw [H12_2])
    exact Or.inl ⟨dkN_sub d rfl, dkN_sub G0 rfl, dkN_sub G1 rfl, (congrArg Prod.fst e), (dk_isI hv.2.1.symm), (H12_2.trans (congrArg Prod.snd e).symm), H12_5, trivial⟩
  ·
    have e : dkNg (I0 13) (I0 12 1) p0 p1 (I0 12 2) = (2, I0 12 2) := by
      first | exact dkNg_2 (by rw [(dkNv_1 (T := I0 13) (n := (I0 12 1).toInt) (a := (I0 12 2).toInt) (by unfold dkDg; omega) (by unfold dkDg; omega)).1]; omega) (by rw [(dkNv_1 (T := I0 13) (n := (I0 12 1).toInt) (a := (I0 12 2).toInt) (by unfold dkDg; omega) (by unfold dkDg; omega)).1]; omega) | exact dkNg_2 (by rw [(dkNv_2 (T := I0 13) (n := (I0 12 1).toInt) (a := (I0 12 2).toInt) (by unfold dkDg; omega) (by unfold dkDg; omega) (by unfold dkDg; omega)).1]; omega) (by rw [(dkNv_2 (T := I0 13) (n := (I0 12 1).toInt) (a := (I0 12 2).toInt) (by unfold dkDg; omega) (by unfold dkDg; omega) (by unfold dkDg; omega)).1]; omega)
    exact Or.inr ⟨dkN_sub d rfl, (dkE_k e (by decide)), ER, (H12_4.trans (congrArg Prod.snd e).symm), (H12_5.trans (congrArg Prod.fst e).symm), trivial⟩
  ·
    have e : dkNg (I0 13) (I0 12 1) p0 p1 (I0 12 2) = (2, I0 12 2) := by
      first | exact dkNg_2 (by rw [(dkNv_1 (T := I0 13) (n := (I0 12 1).toInt) (a := (I0 12 2).toInt) (by unfold dkDg; omega) (by unfold dkDg; omega)).1]; omega) (by rw [(dkNv_1 (T := I0 13) (n := (I0 12 1).toInt) (a := (I0 12 2).toInt) (by unfold dkDg; omega) (by unfold dkDg; omega)).1]; omega) | exact dkNg_2 (by rw [(dkNv_2 (T := I0 13) (n := (I0 12 1).toInt) (a := (I0 12 2).toInt) (by unfold dkDg; omega) (by unfold dkDg; omega) (by unfold dkDg; omega)).1]; omega) (by rw [(dkNv_2 (T := I0 13) (n := (I0 12 1).toInt) (a := (I0 12 2).toInt) (by unfold dkDg; omega) (by unfold dkDg; omega) (by unfold dkDg; omega)).1]; omega)
    exact Or.inr ⟨dkN_sub d rfl, (dkE_k e (by decide)), ER, (H12_4.trans (congrArg Prod.snd e).symm), (H12_5.trans (congrArg Prod.fst e).symm), trivial⟩
  ·
    have hv : 0 ≤ dkNv (I0 13) (I0 12 1).toInt (I0 12 2).toInt ∧ dkNv (I0 13) (I0 12 1).toInt (I0 12 2).toInt = r.toInt ∧ (I1 12 2).toInt = dkNe (I0 13) (I0 12 1).toInt (I0 12 2).toInt := by
      first | (rw [(dkNv_1 (T := I0 13) (n := (I0 12 1).toInt) (a := (I0 12 2).toInt) (by unfold dkDg; omega) (by unfold dkDg; omega)).1, (dkNv_1 (T := I0 13) (n := (I0 12 1).toInt) (a := (I0 12 2).toInt) (by unfold dkDg; omega) (by unfold dkDg; omega)).2]; rw [ER, H12_2]; refine ⟨?_, ?_, ?_⟩ <;> omega) | (rw [(dkNv_2 (T := I0 13) (n := (I0 12 1).toInt) (a := (I0 12 2).toInt) (by unfold dkDg; omega) (by unfold dkDg; omega) (by unfold dkDg; omega)).1, (dkNv_2 (T := I0 13) (n := (I0 12 1).toInt) (a := (I0 12 2).toInt) (by unfold dkDg; omega) (by unfold dkDg; omega) (by unfold dkDg; omega)).2]; rw [ER, H12_2]; refine ⟨?_, ?_, ?_⟩ <;> omega)
    have e : dkNg (I0 13) (I0 12 1) p0 p1 (I0 12 2) = (0, I1 12 2) := (dkNg_0 (by omega) (by rw [hv.2.1, ER]; omega) (by rw [hv.2.1, ER]; omega)).trans (by rw [dk_isI hv.2.2])
    have e : dkNg (I0 13) (I0 12 1) p0 p1 (I0 12 2) = (0, ((I0 12 2) + 1) + 1) := e.trans (by rw [H12_2])
    exact Or.inl ⟨dkN_sub d rfl, dkN_sub G0 rfl, dkN_sub G1 rfl, (congrArg Prod.fst e), (dk_isI hv.2.1.symm), (H12_2.trans (congrArg Prod.snd e).symm), H12_5, trivial⟩
  ·
    have e : dkNg (I0 13) (I0 12 1) p0 p1 (I0 12 2) = (2, I0 12 2) := by
      first | exact dkNg_2 (by rw [(dkNv_1 (T := I0 13) (n := (I0 12 1).toInt) (a := (I0 12 2).toInt) (by unfold dkDg; omega) (by unfold dkDg; omega)).1]; omega) (by rw [(dkNv_1 (T := I0 13) (n := (I0 12 1).toInt) (a := (I0 12 2).toInt) (by unfold dkDg; omega) (by unfold dkDg; omega)).1]; omega) | exact dkNg_2 (by rw [(dkNv_2 (T := I0 13) (n := (I0 12 1).toInt) (a := (I0 12 2).toInt) (by unfold dkDg; omega) (by unfold dkDg; omega) (by unfold dkDg; omega)).1]; omega) (by rw [(dkNv_2 (T := I0 13) (n := (I0 12 1).toInt) (a := (I0 12 2).toInt) (by unfold dkDg; omega) (by unfold dkDg; omega) (by unfold dkDg; omega)).1]; omega)
    exact Or.inr ⟨dkN_sub d rfl, (dkE_k e (by decide)), ER, (H12_4.trans (congrArg Prod.snd e).symm), (H12_5.trans (congrArg Prod.fst e).symm), trivial⟩
  ·
    have e : dkNg (I0 13) (I0 12 1) p0 p1 (I0 12 2) = (1, I0 12 2) := dkNg_1 (by first | (rw [(dkNv_0 (T := I0 13) (n := (I0 12 1).toInt) (a := (I0 12 2).toInt) (by unfold dkDg; omega))]; decide) | (rw [(dkNv_3 (T := I0 13) (n := (I0 12 1).toInt) (a := (I0 12 2).toInt) (by unfold dkDg; omega) (by unfold dkDg; omega) (by unfold dkDg; omega))]; decide))
    exact Or.inr ⟨dkN_sub d rfl, (dkE_k e (by decide)), ER, (H12_4.trans (congrArg Prod.snd e).symm), (H12_5.trans (congrArg Prod.fst e).symm), trivial⟩
  ·
    have e : dkNg (I0 13) (I0 12 1) p0 p1 (I0 12 2) = (1, I0 12 2) := dkNg_1 (by first | (rw [(dkNv_0 (T := I0 13) (n := (I0 12 1).toInt) (a := (I0 12 2).toInt) (by unfold dkDg; omega))]; decide) | (rw [(dkNv_3 (T := I0 13) (n := (I0 12 1).toInt) (a := (I0 12 2).toInt) (by unfold dkDg; omega) (by unfold dkDg; omega) (by unfold dkDg; omega))]; decide))
    exact Or.inr ⟨dkN_sub d rfl, (dkE_k e (by decide)), ER, (H12_4.trans (congrArg Prod.snd e).symm), (H12_5.trans (congrArg Prod.fst e).symm), trivial⟩
  ·
    have e : dkNg (I0 13) (I0 12 1) p0 p1 (I0 12 2) = (1, I0 12 2) := dkNg_1 (by first | (rw [(dkNv_0 (T := I0 13) (n := (I0 12 1).toInt) (a := (I0 12 2).toInt) (by unfold dkDg; omega))]; decide) | (rw [(dkNv_3 (T := I0 13) (n := (I0 12 1).toInt) (a := (I0 12 2).toInt) (by unfold dkDg; omega) (by unfold dkDg; omega) (by unfold dkDg; omega))]; decide))
    exact Or.inr ⟨dkN_sub d rfl, (dkE_k e (by decide)), ER, (H12_4.trans (congrArg Prod.snd e).symm), (H12_5.trans (congrArg Prod.fst e).symm), trivial⟩
  ·
    have e : dkNg (I0 13) (I0 12 1) p0 p1 (I0 12 2) = (1, I0 12 2) := dkNg_1 (by first | (rw [(dkNv_0 (T := I0 13) (n := (I0 12 1).toInt) (a := (I0 12 2).toInt) (by unfold dkDg; omega))]; decide) | (rw [(dkNv_3 (T := I0 13) (n := (I0 12 1).toInt) (a := (I0 12 2).toInt) (by unfold dkDg; omega) (by unfold dkDg; omega) (by unfold dkDg; omega))]; decide))
    exact Or.inr ⟨dkN_sub d rfl, (dkE_k e (by decide)), ER, (H12_4.trans (congrArg Prod.snd e).symm), (H12_5.trans (congrArg Prod.fst e).symm), trivial⟩
set_option maxHeartbeats 4000000 in
set_option maxRecDepth 100000 in
theorem fx_X2_takes_5 (l : Launch) (g : dkG) (z : Nat) (I0 : dkI) (p0 : Int32) (dp0 : dkN [(44, 44)] p0)  (hO : dkOk I0) : Met l yX2_takes wsX2_takes (dkR 1) (dkPc g z [.ref (z + 12), .int p0] I0) (dkQi g z (fun r I1 => dkF [(12, 12, 2, 2), (12, 12, 4, 5)] I0 I1 ∧ dkOk I1 ∧ ((dkN [(0, 0)] r ∧ dkN [(0, 90)] (I1 12 4) ∧ dkN [(1, 1)] (I1 12 5) ∧ (I0 12 1).toInt + 0 ≤ (I0 12 2).toInt ∧ (-1000000 : Int) ≠ p0.toInt ∧ r = 0 ∧ I1 12 2 = I0 12 2 ∧ I1 12 4 = I0 12 2 ∧ I1 12 5 = 1 ∧ True) ∨ (dkN [(1, 1)] r ∧ dkN [(1, 90)] (I1 12 1) ∧ dkN [(1, 90)] (I1 12 2) ∧ (I0 12 2).toInt + 1 ≤ (I0 12 1).toInt ∧ (I0 13 (Int32.toNatClampNeg (I0 12 2))).toInt = p0.toInt ∧ ((I0 12 2) + (1 : Int32)).toInt = (I0 12 2).toInt + (1 : Int) ∧ r = 1 ∧ I1 12 2 = (I0 12 2) + (1 : Int32) ∧ I1 12 4 = I0 12 4 ∧ I1 12 5 = I0 12 5 ∧ True) ∨ (dkN [(0, 0)] r ∧ dkN [(1, 90)] (I1 12 1) ∧ dkN [(0, 89)] (I1 12 2) ∧ dkN [(0, 90)] (I1 12 4) ∧ dkN [(1, 1)] (I1 12 5) ∧ (I0 12 2).toInt + 1 ≤ (I0 12 1).toInt ∧ (I0 13 (Int32.toNatClampNeg (I0 12 2))).toInt ≠ p0.toInt ∧ r = 0 ∧ I1 12 2 = I0 12 2 ∧ I1 12 4 = I0 12 2 ∧ I1 12 5 = 1 ∧ True)))) 0 0 (dkA z) := by
  refine Met.ofW (cc := cX2_takes) (maxL := 2) (ret := (some .boolean)) (by decide) rfl ?_
  intro p e s m args below meth c s₁ B hml hv
  obtain ⟨ha, hW, hK, hT⟩ := hv
  have hx := B.exec
  have hb := B.bytes
  have hr := B.returns
  have hts := atoms_spec (ws := wsX2_takes) B.pre
  have hown : s.vm.findClass RX2 = some m.cls := findClass_of_methodNamed B.named
  have hlocks := B.notSynchronized
  have hS : va_S (dkA z) s.heap s.heap [] := va_S.rf
  have hF : dkF [(12, 12, 2, 2), (12, 12, 4, 5)] I0 I0 := dkF_rf _ _
  have hl := lv_entry ([.ref (z + 12), .int p0]) (n := 2) (Nat.le_of_ble_eq_true rfl)
  have hgo : entryFrame m args 2 = entryFrame m ([.ref (z + 12), .int p0] : List Value).toArray 2 := by rw [ha]
  rw [hgo, lg_entry_eq]
  generalize (lg_sl ([.ref (z + 12), .int p0]) ++ List.replicate (2 - (lg_sl ([.ref (z + 12), .int p0])).length) Slot.unset).toArray = ls at hl ⊢
  have hl : lv_has ls 2 [(0, .ref (z + 12)), (1, .int p0)] := hl
  refine lv_aload_n hx hb dX2_takes_0 rfl (lv_at hl 0 rfl) ?_
  refine dk_Vi (As := []) (rest := []) ⟨hx, hb, hml, hown, hts⟩ (fx_X2_coming_1 l g z I0 hO) (cwV 0 hts gX2_takes_X2_coming rfl rfl rfl (by decide +kernel) ⟨Nat.le_of_ble_eq_true rfl, Nat.le_of_ble_eq_true rfl⟩) (dk_at12 hW) rfl hK hT hW hS rfl hl.1 rfl (Nat.le_of_ble_eq_true rfl) dX2_takes_1 ⟨Nat.zero_le _, Nat.zero_le _⟩ (fun v1 I1 H1 L1 hp1 hW hS => ?_)
  obtain ⟨hF1, hO, hc1⟩ := hp1
  have hF := dkF_call hF hF1 rfl
  have eI1 : I0 = I1 := (dkF_nil hF1).symm
  subst eI1
  rcases hc1 with ⟨dv1, x1_0, xr1, -⟩ | hc1
  ·
    have q2 : (I0 12 1).toInt + 0 ≤ (I0 12 2).toInt := x1_0
    have xv1 : v1 = (-1000000) := by have h := xr1; exact h
    refine lv_iload_n hx hb dX2_takes_4 rfl (lv_at hl 1 rfl) ?_
    refine lv_icmp_eq (tgt := 14) hx hb dX2_takes_5 (by decide) (fun c3 => ?_) (fun c3 => ?_)
    ·
      exact (dkN_nil (show dkN [] v1 from dkN_eq1 dv1 dp0 (congrArg Int32.toInt c3) rfl)).elim
    ·
      have q4 : (-1000000 : Int) ≠ p0.toInt := by first | (rw [← xv1]; exact (dk_ne c3)) | (subst xv1; exact (dk_ne c3))
      refine lv_aload_n hx hb dX2_takes_8 rfl (lv_at hl 0 rfl) ?_
      refine lv_iconst (v := 1) hx hb dX2_takes_9 (by decide) ?_
      refine dk_Vi (As := [.int 1]) (rest := []) ⟨hx, hb, hml, hown, hts⟩ (fx_X2_meets_3 l g z I0 1 (dkN_lit (x := 1) (1) rfl) hO) (cwV 1 hts gX2_takes_X2_meets rfl rfl rfl (by decide +kernel) ⟨Nat.le_of_ble_eq_true rfl, Nat.le_of_ble_eq_true rfl⟩) (dk_at12 hW) rfl hK hT hW hS rfl hl.1 rfl (Nat.le_of_ble_eq_true rfl) dX2_takes_10 ⟨Nat.zero_le _, Nat.zero_le _⟩ (fun v5 I5 H5 L5 hp5 hW hS => ?_)
      obtain ⟨hF5, hO, hc5⟩ := hp5
      have hF := dkF_call hF hF5 rfl
      obtain ⟨dv5, f5_12_4, f5_12_5, xr5, xh5_0, xh5_1, xh5_2, -⟩ := hc5
      have y6 : I5 12 2 = I0 12 2 := by have h := xh5_0; exact h
      have y7 : I5 12 4 = I0 12 2 := by have h := xh5_1; exact h
      have y8 : I5 12 5 = 1 := by have h := xh5_2; exact h
      have xv5 : v5 = 0 := by have h := xr5; exact h
      exact W.zret (v := v5) (ty := .boolean) hx hb hr (dkN_zr dv5 rfl) (fun t ht hW9 => ⟨⟨v5, I5, rfl, ⟨hF, hO, Or.inl ⟨dkN_sub dv5 rfl, (show dkN [(0, 90)] (I5 12 4) from dkN_sub f5_12_4 rfl), (show dkN [(1, 1)] (I5 12 5) from dkN_sub f5_12_5 rfl), q2, q4, xv5, y6, y7, y8, trivial⟩⟩, dkW_eq ht hW⟩, hS.F ht⟩) hS.2.2 dX2_takes_13
  ·
    obtain ⟨dv1, f1_12_1, f1_12_2, x1_0, xr1, -⟩ := hc1
    have q9 : (I0 12 2).toInt + 1 ≤ (I0 12 1).toInt := x1_0
    have xv1 : v1 = I0 13 (Int32.toNatClampNeg (I0 12 2)) := by have h := xr1; exact h
    refine lv_iload_n hx hb dX2_takes_4 rfl (lv_at hl 1 rfl) ?_
    refine lv_icmp_eq (tgt := 14) hx hb dX2_takes_5 (by decide) (fun c10 => ?_) (fun c10 => ?_)
    ·
      have q11 : (I0 13 (Int32.toNatClampNeg (I0 12 2))).toInt = p0.toInt := by first | (rw [← xv1]; exact (congrArg Int32.toInt c10)) | (subst xv1; exact (congrArg Int32.toInt c10))
      have d12 : dkN [(44, 44)] v1 := dkN_eq1 dv1 dp0 (congrArg Int32.toInt c10) rfl
      refine lv_aload_n hx hb dX2_takes_14 rfl (lv_at hl 0 rfl) ?_
      refine lv_dup hx hb dX2_takes_15 rfl ?_
      refine dk_get (k := 12) hx hb hts iX2_takes_2 hown hK (dk_at12 hW) rfl 2 (by decide) (hts (.fieldLink RX2 30 "DogKings$Reader" "at" "I") (List.mem_of_getElem? (i := 1) rfl)) rfl dX2_takes_16 ?_
      refine lv_topi (fun v13 ev13 => ?_)
      have dv13 : dkN [(0, 89)] v13 := by rw [ev13]; exact f1_12_2
      have xv13 : v13 = I0 12 2 := ev13.trans rfl
      refine lv_iconst (v := 1) hx hb dX2_takes_19 (by decide) ?_
      refine lv_iadd hx hb dX2_takes_20 ?_
      refine lv_topi (fun v14 ev14 => ?_)
      have dv14 : dkN [(1, 90)] v14 := by rw [ev14]; exact dkN_add dv13 (dkN_lit (x := 1) (1) rfl) rfl
      have xv14 : v14 = (I0 12 2) + (1 : Int32) := by rw [ev14, xv13]
      have q15 : ((I0 12 2) + (1 : Int32)).toInt = (I0 12 2).toInt + (1 : Int) := by first | (rw [← xv14, ← xv13]; exact (by rw [ev14]; exact dk_addE dv13 (dkN_lit (x := 1) (1) rfl) rfl)) | (subst xv14 xv13; exact (by rw [ev14]; exact dk_addE dv13 (dkN_lit (x := 1) (1) rfl) rfl))
      refine dk_put (k := 12) hx hb hts iX2_takes_2 tyX2 tyX2_ok nmX2 hown hK hW (dk_at12 hW) hS rfl 2 (by decide) (hts (.fieldLink RX2 30 "DogKings$Reader" "at" "I") (List.mem_of_getElem? (i := 1) rfl)) rfl rfl (Nat.le_of_ble_eq_true rfl) rfl dX2_takes_21 (fun I16 H16 L16 eI16 hW hS => ?_)
      have eI16 : I16 = dkU I0 12 2 v14 := eI16
      have hO := dkO_set hO eI16 (dkN_sub dv14 rfl)
      have hF := dkF_set hF eI16 rfl
      refine lv_iconst (v := 1) hx hb dX2_takes_24 (by decide) ?_
      exact W.zret (v := 1) (ty := .boolean) hx hb hr rfl (fun t ht hW9 => ⟨⟨1, I16, rfl, ⟨hF, hO, Or.inr (Or.inl ⟨dkN_sub (dkN_lit (x := 1) (1) rfl) rfl, (show dkN [(1, 90)] (I16 12 1) from dkN_sub (by rw [eI16, dkU_sn (by decide)]; exact f1_12_1) rfl), (show dkN [(1, 90)] (I16 12 2) from dkN_sub (by rw [eI16, dkU_ss]; exact dv14) rfl), q9, q11, q15, rfl, (by rw [eI16, dkU_ss, xv14]), ((by rw [eI16, dkU_sn (by decide)] : I16 12 4 = _).trans rfl), ((by rw [eI16, dkU_sn (by decide)] : I16 12 5 = _).trans rfl), trivial⟩)⟩, dkW_eq ht hW⟩, hS.F ht⟩) hS.2.2 dX2_takes_25
    ·
      have q17 : (I0 13 (Int32.toNatClampNeg (I0 12 2))).toInt ≠ p0.toInt := by first | (rw [← xv1]; exact (dk_ne c10)) | (subst xv1; exact (dk_ne c10))
      have d18 : dkN [(0, 43), (45, 255)] v1 := dkN_ne1 (44) dv1 dp0 (dk_ne c10) rfl
      refine lv_aload_n hx hb dX2_takes_8 rfl (lv_at hl 0 rfl) ?_
      refine lv_iconst (v := 1) hx hb dX2_takes_9 (by decide) ?_
      refine dk_Vi (As := [.int 1]) (rest := []) ⟨hx, hb, hml, hown, hts⟩ (fx_X2_meets_3 l g z I0 1 (dkN_lit (x := 1) (1) rfl) hO) (cwV 1 hts gX2_takes_X2_meets rfl rfl rfl (by decide +kernel) ⟨Nat.le_of_ble_eq_true rfl, Nat.le_of_ble_eq_true rfl⟩) (dk_at12 hW) rfl hK hT hW hS rfl hl.1 rfl (Nat.le_of_ble_eq_true rfl) dX2_takes_10 ⟨Nat.zero_le _, Nat.zero_le _⟩ (fun v19 I19 H19 L19 hp19 hW hS => ?_)
      obtain ⟨hF19, hO, hc19⟩ := hp19
      have hF := dkF_call hF hF19 rfl
      obtain ⟨dv19, f19_12_4, f19_12_5, xr19, xh19_0, xh19_1, xh19_2, -⟩ := hc19
      have y20 : I19 12 2 = I0 12 2 := by have h := xh19_0; exact h
      have y21 : I19 12 4 = I0 12 2 := by have h := xh19_1; exact h
      have y22 : I19 12 5 = 1 := by have h := xh19_2; exact h
      have xv19 : v19 = 0 := by have h := xr19; exact h
      exact W.zret (v := v19) (ty := .boolean) hx hb hr (dkN_zr dv19 rfl) (fun t ht hW9 => ⟨⟨v19, I19, rfl, ⟨hF, hO, Or.inr (Or.inr (⟨dkN_sub dv19 rfl, (show dkN [(1, 90)] (I19 12 1) from dkN_sub (by rw [hF19 12 1 rfl]; exact f1_12_1) rfl), (show dkN [(0, 89)] (I19 12 2) from dkN_sub (by rw [hF19 12 2 rfl]; exact f1_12_2) rfl), (show dkN [(0, 90)] (I19 12 4) from dkN_sub f19_12_4 rfl), (show dkN [(1, 1)] (I19 12 5) from dkN_sub f19_12_5 rfl), q9, q17, xv19, y20, y21, y22, trivial⟩))⟩, dkW_eq ht hW⟩, hS.F ht⟩) hS.2.2 dX2_takes_13
set_option maxHeartbeats 4000000 in
set_option maxRecDepth 100000 in
theorem h_X2_takes_1 (l : Launch) (g : dkG) (z : Nat) (I0 : dkI) (p0 : Int32) (dp0 : dkN [(44, 44)] p0) (hO : dkOk I0) : Met l yX2_takes wsX2_takes (dkR 1) (dkPc g z [.ref (z + 12), .int p0] I0) (dkQi g z (fun r I1 => dkF [(12, 12, 2, 2), (12, 12, 4, 5)] I0 I1 ∧ dkOk I1 ∧ ((dkN [(1, 1)] r ∧ dkN [(1, 90)] (I1 12 1) ∧ dkN [(1, 90)] (I1 12 2) ∧ (dkSg (I0 13) (I0 12 1) p0 (I0 12 2)).1 = 0 ∧ r = 1 ∧ I1 12 2 = (dkSg (I0 13) (I0 12 1) p0 (I0 12 2)).2 ∧ I1 12 5 = I0 12 5 ∧ True) ∨ (dkN [(0, 0)] r ∧ (dkSg (I0 13) (I0 12 1) p0 (I0 12 2)).1 ≠ 0 ∧ r = 0 ∧ I1 12 4 = (dkSg (I0 13) (I0 12 1) p0 (I0 12 2)).2 ∧ I1 12 5 = (dkSg (I0 13) (I0 12 1) p0 (I0 12 2)).1 ∧ True)))) 0 0 (dkA z) := by
  refine dk_weakI (fx_X2_takes_5 l g z I0 p0 dp0 hO) (fun r I1 h => ?_)
  obtain ⟨hF, hO1, hc⟩ := h
  refine ⟨hF, hO1, ?_⟩
  rcases hc with ⟨d, G0, G1, u0, u1, ER, H12_2, H12_4, H12_5, -⟩ | ⟨d, G0, G1, u0, u1, u2, ER, H12_2, H12_4, H12_5, -⟩ | ⟨d, G0, G1, G2, G3, u0, u1, ER, H12_2, H12_4, H12_5, -⟩
  ·
    have e : dkSg (I0 13) (I0 12 1) p0 (I0 12 2) = (1, I0 12 2) := dkSg_f (by omega)
    exact Or.inr ⟨dkN_sub d rfl, (dkE_k e (by decide)), ER, (H12_4.trans (congrArg Prod.snd e).symm), (H12_5.trans (congrArg Prod.fst e).symm), trivial⟩
  ·
    have e : dkSg (I0 13) (I0 12 1) p0 (I0 12 2) = (0, (I0 12 2) + (1 : Int32)) := dkSg_t (by omega) (by omega)
    exact Or.inl ⟨dkN_sub d rfl, dkN_sub G0 rfl, dkN_sub G1 rfl, (congrArg Prod.fst e), ER, (H12_2.trans (congrArg Prod.snd e).symm), H12_5, trivial⟩
  ·
    have e : dkSg (I0 13) (I0 12 1) p0 (I0 12 2) = (1, I0 12 2) := dkSg_f (by omega)
    exact Or.inr ⟨dkN_sub d rfl, (dkE_k e (by decide)), ER, (H12_4.trans (congrArg Prod.snd e).symm), (H12_5.trans (congrArg Prod.fst e).symm), trivial⟩
