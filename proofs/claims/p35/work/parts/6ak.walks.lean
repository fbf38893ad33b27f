set_option maxHeartbeats 4000000 in
set_option maxRecDepth 100000 in
theorem h_X2_number_4 (l : Launch) (g : dkG) (z : Nat) (I0 : dkI) (p0 : Int32) (p1 : Int32) (dp0 : dkN [(0, 0)] p0) (dp1 : dkN [(2, 2)] p1) (hO : dkOk I0) : Met l yX2_number wsX2_number (dkR 1) (dkPc g z [.ref (z + 12), .int p0, .int p1] I0) (dkQi g z (fun r I1 => dkF [(12, 12, 2, 2), (12, 12, 4, 5)] I0 I1 ∧ dkOk I1 ∧ ((dkN [(0, 2)] r ∧ dkN [(1, 90)] (I1 12 1) ∧ dkN [(1, 90)] (I1 12 2) ∧ (dkNg (I0 13) (I0 12 1) p0 p1 (I0 12 2)).1 = 0 ∧ r = dkNn (I0 13) (I0 12 1) (I0 12 2) ∧ I1 12 2 = (dkNg (I0 13) (I0 12 1) p0 p1 (I0 12 2)).2 ∧ I1 12 5 = I0 12 5 ∧ True) ∨ (dkN [(-1000000, -1000000)] r ∧ (dkNg (I0 13) (I0 12 1) p0 p1 (I0 12 2)).1 ≠ 0 ∧ r = (-1000000) ∧ I1 12 4 = (dkNg (I0 13) (I0 12 1) p0 p1 (I0 12 2)).2 ∧ I1 12 5 = (dkNg (I0 13) (I0 12 1) p0 p1 (I0 12 2)).1 ∧ True)))) 0 0 (dkA z) := by
  refine dk_weakI (fx_X2_number_9 l g z I0 p0 p1 dp0 dp1 hO) (fun r I1 h => ?_)
  obtain ⟨hF, hO1, hc⟩ := h
  have b0 : dkN [(0, 90)] (I0 12 2) := hO 12 2
  have b1 : dkN [(0, 90)] (I0 12 1) := hO 12 1
  obtain ⟨p0_, hp0_, a1, a2⟩ := b0
  rw [List.mem_singleton] at hp0_
  subst hp0_
  simp only at a1 a2
  obtain ⟨p1_, hp1_, a3, a4⟩ := b1
  rw [List.mem_singleton] at hp1_
  subst hp1_
  simp only at a3 a4
  have e1 : (I0 12 2 + 1).toInt = (I0 12 2).toInt + 1 := by rw [Int32.toInt_add]; exact dk_bm (by show _ ≤ (I0 12 2).toInt + 1; omega) (by show (I0 12 2).toInt + 1 ≤ _; omega)
  have e2 : (I0 12 2 + 1 + 1).toInt = (I0 12 2).toInt + 2 := (show (I0 12 2 + 1 + 1).toInt = (I0 12 2).toInt + 1 + 1 by rw [Int32.toInt_add, e1]; exact dk_bm (by show _ ≤ (I0 12 2).toInt + 1 + 1; omega) (by show (I0 12 2).toInt + 1 + 1 ≤ _; omega)).trans (by omega)
  have k0 : Int32.toNatClampNeg (I0 12 2) = (I0 12 2).toInt.toNat := rfl
  have k1 : Int32.toNatClampNeg (I0 12 2 + 1) = ((I0 12 2).toInt + 1).toNat := by show (I0 12 2 + 1).toInt.toNat = _; rw [e1]
  have k2 : Int32.toNatClampNeg (I0 12 2 + 1 + 1) = ((I0 12 2).toInt + 2).toNat := by show (I0 12 2 + 1 + 1).toInt.toNat = _; rw [e2]
  simp only [k0, k1, k2] at hc
  refine ⟨hF, hO1, ?_⟩
  rcases hc with ⟨d, G0, G1, u0, ER, H12_2, H12_4, H12_5, -⟩ | ⟨d, G0, G1, G2, G3, u0, u1, ER, H12_2, H12_4, H12_5, -⟩ | ⟨d, G0, G1, G2, G3, u0, u1, u2, ER, H12_2, H12_4, H12_5, -⟩ | ⟨d, G0, G1, G2, G3, u0, u1, u2, u3, u4, u5, u6, u7, u8, u9, u10, u11, u12, ER, H12_2, H12_4, H12_5, -⟩ | ⟨d, G0, G1, u0, u1, u2, u3, u4, u5, u6, u7, u8, u9, u10, u11, u12, u13, ER, H12_2, H12_4, H12_5, -⟩ | ⟨d, G0, G1, G2, G3, u0, u1, u2, u3, u4, u5, u6, u7, u8, u9, u10, u11, u12, u13, ER, H12_2, H12_4, H12_5, -⟩ | ⟨d, G0, G1, G2, G3, u0, u1, u2, u3, u4, u5, u6, u7, u8, u9, u10, u11, u12, u13, ER, H12_2, H12_4, H12_5, -⟩ | ⟨d, G0, G1, u0, u1, u2, u3, u4, u5, u6, u7, u8, u9, u10, u11, u12, u13, u14, ER, H12_2, H12_4, H12_5, -⟩ | ⟨d, G0, G1, G2, G3, u0, u1, u2, u3, u4, u5, u6, u7, u8, u9, u10, u11, u12, u13, u14, ER, H12_2, H12_4, H12_5, -⟩ | ⟨d, G0, G1, G2, G3, u0, u1, u2, u3, u4, u5, u6, u7, u8, u9, u10, u11, u12, u13, u14, ER, H12_2, H12_4, H12_5, -⟩ | ⟨d, G0, G1, u0, u1, u2, u3, u4, u5, u6, u7, u8, u9, u10, u11, u12, u13, u14, u15, ER, H12_2, H12_4, H12_5, -⟩ | ⟨d, G0, G1, G2, G3, u0, u1, u2, u3, u4, u5, u6, u7, u8, u9, u10, u11, u12, u13, u14, u15, ER, H12_2, H12_4, H12_5, -⟩ | ⟨d, G0, G1, G2, G3, u0, u1, u2, u3, u4, u5, u6, u7, u8, u9, u10, u11, u12, u13, u14, u15, u16, u17, u18, u19, u20, u21, ER, H12_2, H12_4, H12_5, -⟩ | ⟨d, G0, G1, u0, u1, u2, u3, u4, u5, u6, u7, u8, u9, u10, u11, u12, u13, u14, u15, u16, u17, u18, u19, u20, u21, u22, ER, H12_2, H12_4, H12_5, -⟩ | ⟨d, G0, G1, G2, G3, u0, u1, u2, u3, u4, u5, u6, u7, u8, u9, u10, u11, u12, u13, u14, u15, u16, u17, u18, u19, u20, u21, u22, ER, H12_2, H12_4, H12_5, -⟩ | ⟨d, G0, G1, G2, G3, u0, u1, u2, u3, u4, u5, u6, u7, u8, u9, u10, u11, u12, u13, u14, u15, u16, u17, u18, u19, u20, u21, u22, ER, H12_2, H12_4, H12_5, -⟩ | ⟨d, G0, G1, u0, u1, u2, u3, u4, u5, u6, u7, u8, u9, u10, u11, u12, u13, u14, u15, u16, u17, u18, u19, u20, u21, u22, u23, ER, H12_2, H12_4, H12_5, -⟩ | ⟨d, G0, G1, G2, G3, u0, u1, u2, u3, u4, u5, u6, u7, u8, u9, u10, u11, u12, u13, u14, u15, u16, u17, u18, u19, u20, u21, u22, u23, ER, H12_2, H12_4, H12_5, -⟩ | ⟨d, G0, G1, G2, G3, u0, u1, u2, u3, u4, u5, u6, u7, u8, u9, u10, u11, u12, u13, u14, u15, u16, u17, u18, u19, u20, u21, u22, u23, ER, H12_2, H12_4, H12_5, -⟩ | ⟨d, G0, G1, u0, u1, u2, u3, u4, u5, u6, u7, u8, u9, u10, u11, u12, u13, u14, u15, u16, u17, u18, u19, u20, u21, u22, u23, u24, ER, H12_2, H12_4, H12_5, -⟩ | ⟨d, G0, G1, G2, G3, u0, u1, u2, u3, u4, u5, u6, u7, u8, u9, u10, u11, u12, u13, u14, u15, u16, u17, u18, u19, u20, u21, u22, u23, u24, ER, H12_2, H12_4, H12_5, -⟩ | ⟨d, G0, G1, G2, G3, u0, u1, u2, u3, u4, u5, u6, u7, u8, u9, u10, u11, u12, u13, u14, u15, u16, u17, u18, u19, u20, u21, u22, u23, u24, u25, u26, u27, u28, u29, ER, H12_2, H12_4, H12_5, -⟩ | ⟨d, G0, G1, G2, G3, u0, u1, u2, u3, u4, u5, u6, u7, u8, u9, u10, u11, u12, u13, u14, u15, u16, u17, u18, u19, u20, u21, u22, u23, u24, u25, u26, u27, u28, u29, u30, ER, H12_2, H12_4, H12_5, -⟩ | ⟨d, G0, G1, G2, G3, u0, u1, u2, u3, u4, u5, u6, u7, u8, u9, u10, u11, u12, u13, u14, u15, u16, u17, u18, u19, u20, u21, u22, u23, u24, u25, u26, u27, u28, u29, u30, u31, ER, H12_2, H12_4, H12_5, -⟩ | ⟨d, G0, G1, G2, G3, u0, u1, u2, u3, u4, u5, u6, u7, u8, u9, u10, u11, u12, u13, u14, u15, u16, u17, u18, u19, u20, u21, u22, u23, u24, u25, u26, u27, u28, u29, u30, u31, u32, ER, H12_2, H12_4, H12_5, -⟩
  ·
    have e : dkNg (I0 13) (I0 12 1) p0 p1 (I0 12 2) = (1, I0 12 2) := dkNg_1 (by first | (rw [(dkNv_0 (T := I0 13) (n := (I0 12 1).toInt) (a := (I0 12 2).toInt) (by unfold dkDg; omega))]; decide) | (rw [(dkNv_3 (T := I0 13) (n := (I0 12 1).toInt) (a := (I0 12 2).toInt) (by unfold dkDg; omega) (by unfold dkDg; omega) (by unfold dkDg; omega))]; decide))
    exact Or.inr ⟨dkN_sub d rfl, (dkE_k e (by decide)), ER, (H12_4.trans (congrArg Prod.snd e).symm), (H12_5.trans (congrArg Prod.fst e).symm), trivial⟩
  ·
    have e : dkNg (I0 13) (I0 12 1) p0 p1 (I0 12 2) = (1, I0 12 2) := dkNg_1 (by first | (rw [(dkNv_0 (T := I0 13) (n := (I0 12 1).toInt) (a := (I0 12 2).toInt) (by unfold dkDg; omega))]; decide) | (rw [(dkNv_3 (T := I0 13) (n := (I0 12 1).toInt) (a := (I0 12 2).toInt) (by unfold dkDg; omega) (by unfold dkDg; omega) (by unfold dkDg; omega))]; decide))
    exact Or.inr ⟨dkN_sub d rfl, (dkE_k e (by decide)), ER, (H12_4.trans (congrArg Prod.snd e).symm), (H12_5.trans (congrArg Prod.fst e).symm), trivial⟩
  ·
    have e : dkNg (I0 13) (I0 12 1) p0 p1 (I0 12 2) = (1, I0 12 2) := dkNg_1 (by first | (rw [(dkNv_0 (T := I0 13) (n := (I0 12 1).toInt) (a := (I0 12 2).toInt) (by unfold dkDg; omega))]; decide) | (rw [(dkNv_3 (T := I0 13) (n := (I0 12 1).toInt) (a := (I0 12 2).toInt) (by unfold dkDg; omega) (by unfold dkDg; omega) (by unfold dkDg; omega))]; decide))
    exact Or.inr ⟨dkN_sub d rfl, (dkE_k e (by decide)), ER, (H12_4.trans (congrArg Prod.snd e).symm), (H12_5.trans (congrArg Prod.fst e).symm), trivial⟩
  ·
    have e : dkNg (I0 13) (I0 12 1) p0 p1 (I0 12 2) = (2, I0 12 2) := by
      first | exact dkNg_2 (by rw [(dkNv_1 (T := I0 13) (n := (I0 12 1).toInt) (a := (I0 12 2).toInt) (by unfold dkDg; omega) (by unfold dkDg; omega)).1]; omega) (by rw [(dkNv_1 (T := I0 13) (n := (I0 12 1).toInt) (a := (I0 12 2).toInt) (by unfold dkDg; omega) (by unfold dkDg; omega)).1]; omega) | exact dkNg_2 (by rw [(dkNv_2 (T := I0 13) (n := (I0 12 1).toInt) (a := (I0 12 2).toInt) (by unfold dkDg; omega) (by unfold dkDg; omega) (by unfold dkDg; omega)).1]; omega) (by rw [(dkNv_2 (T := I0 13) (n := (I0 12 1).toInt) (a := (I0 12 2).toInt) (by unfold dkDg; omega) (by unfold dkDg; omega) (by unfold dkDg; omega)).1]; omega)
    exact Or.inr ⟨dkN_sub d rfl, (dkE_k e (by decide)), ER, (H12_4.trans (congrArg Prod.snd e).symm), (H12_5.trans (congrArg Prod.fst e).symm), trivial⟩
  ·
    have hv : 0 ≤ dkNv (I0 13) (I0 12 1).toInt (I0 12 2).toInt ∧ dkNv (I0 13) (I0 12 1).toInt (I0 12 2).toInt = r.toInt ∧ (I1 12 2).toInt = dkNe (I0 13) (I0 12 1).toInt (I0 12 2).toInt := by
      first | (rw [(dkNv_1 (T := I0 13) (n := (I0 12 1).toInt) (a := (I0 12 2).toInt) (by unfold dkDg; omega) (by unfold dkDg; omega)).1, (dkNv_1 (T := I0 13) (n := (I0 12 1).toInt) (a := (I0 12 2).toInt) (by unfold dkDg; omega) (by unfold dkDg; omega)).2]; rw [ER, H12_2]; refine ⟨?_, ?_, ?_⟩ <;> omega) | (rw [(dkNv_2 (T := I0 13) (n := (I0 12 1).toInt) (a := (I0 12 2).toInt) (by unfold dkDg; omega) (by unfold dkDg; omega) (by unfold dkDg; omega)).1, (dkNv_2 (T := I0 13) (n := (I0 12 1).toInt) (a := (I0 12 2).toInt) (by unfold dkDg; omega) (by unfold dkDg; omega) (by unfold dkDg; omega)).2]; rw [ER, H12_2]; refine ⟨?_, ?_, ?_⟩ <;> omega)
    have e : dkNg (I0 13) (I0 12 1) p0 p1 (I0 12 2) = (0, I1 12 2) := (dkNg_0 (by omega) (by rw [hv.2.1, ER]; omega) (by rw [hv.2.1, ER]; omega)).trans (by rw [dk_isI hv.2.2])
    have e : dkNg (I0 13) (I0 12 1) p0 p1 (I0 12 2) = (0, (I0 12 2) + 1) := e.trans (by rw [H12_2])
    exact Or.inl ⟨dkN_sub d rfl, dkN_sub G0 rfl, dkN_sub G1 rfl, (congrArg Prod.fst e), (dk_isI hv.2.1.symm), (H12_2.trans (congrArg Prod.snd e).symm), H12_5, trivial⟩
  ·
    have e : dkNg (I0 13) (I0 12 1) p0 p1 (I0 12 2) = (2, I0 12 2) := by
      first | exact dkNg_2 (by rw [(dkNv_1 (T := I0 13) (n := (I0 12 1).toInt) (a := (I0 12 2).toInt) (by unfold dkDg; omega) (by unfold dkDg; omega)).1]; omega) (by rw [(dkNv_1 (T := I0 13) (n := (I0 12 1).toInt) (a := (I0 12 2).toInt) (by unfold dkDg; omega) (by unfold dkDg; omega)).1]; omega) | exact dkNg_2 (by rw [(dkNv_2 (T := I0 13) (n := (I0 12 1).toInt) (a := (I0 12 2).toInt) (by unfold dkDg; omega) (by unfold dkDg; omega) (by unfold dkDg; omega)).1]; omega) (by rw [(dkNv_2 (T := I0 13) (n := (I0 12 1).toInt) (a := (I0 12 2).toInt) (by unfold dkDg; omega) (by unfold dkDg; omega) (by unfold dkDg; omega)).1]; omega)
    exact Or.inr ⟨dkN_sub d rfl, (dkE_k e (by decide)), ER, (H12_4.trans (congrArg Prod.snd e).symm), (H12_5.trans (congrArg Prod.fst e).symm), trivial⟩
  ·
    have e : dkNg (I0 13) (I0 12 1) p0 p1 (I0 12 2) = (2, I0 12 2) := by
      first | exact dkNg_2 (by rw [(dkNv_1 (T := I0 13) (n := (I0 12 1).toInt) (a := (I0 12 2).toInt) (by unfold dkDg; omega) (by unfold dkDg; omega)).1]; omega) (by rw [(dkNv_1 (T := I0 13) (n := (I0 12 1).toInt) (a := (I0 12 2).toInt) (by unfold dkDg; omega) (by unfold dkDg; omega)).1]; omega) | exact dkNg_2 (by rw [(dkNv_2 (T := I0 13) (n := (I0 12 1).toInt) (a := (I0 12 2).toInt) (by unfold dkDg; omega) (by unfold dkDg; omega) (by unfold dkDg; omega)).1]; omega) (by rw [(dkNv_2 (T := I0 13) (n := (I0 12 1).toInt) (a := (I0 12 2).toInt) (by unfold dkDg; omega) (by unfold dkDg; omega) (by unfold dkDg; omega)).1]; omega)
    exact Or.inr ⟨dkN_sub d rfl, (dkE_k e (by decide)), ER, (H12_4.trans (congrArg Prod.snd e).symm), (H12_5.trans (congrArg Prod.fst e).symm), trivial⟩
  ·
    have hv : 0 ≤ dkNv (I0 13) (I0 12 1).toInt (I0 12 2).toInt ∧ dkNv (I0 13) (I0 12 1).toInt (I0 12 2).toInt = r.toInt ∧ (I1 12 2).toInt = dkNe (I0 13) (I0 12 1).toInt (I0 12 2).toInt := by
      first | (rw [(dkNv_1 (T := I0 13) (n := (I0 12 1).toInt) (a := (I0 12 2).toInt) (by unfold dkDg; omega) (by unfold dkDg; omega)).1, (dkNv_1 (T := I0 13) (n := (I0 12 1).toInt) (a := (I0 12 2).toInt) (by unfold dkDg; omega) (by unfold dkDg; omega)).2]; rw [ER, H12_2]; refine ⟨?_, ?_, ?_⟩ <;> omega) | (rw [(dkNv_2 (T := I0 13) (n := (I0 12 1).toInt) (a := (I0 12 2).toInt) (by unfold dkDg; omega) (by unfold dkDg; omega) (by unfold dkDg; omega)).1, (dkNv_2 (T := I0 13) (n := (I0 12 1).toInt) (a := (I0 12 2).toInt) (by unfold dkDg; omega) (by unfold dkDg; omega) (by unfold dkDg; omega)).2]; rw [ER, H12_2]; refine ⟨?_, ?_, ?_⟩ <;> omega)
    have e : dkNg (I0 13) (I0 12 1) p0 p1 (I0 12 2) = (0, I1 12 2) := (dkNg_0 (by omega) (by rw [hv.2.1, ER]; omega) (by rw [hv.2.1, ER]; omega)).trans (by rw [dk_isI hv.2.2])
    have e : dkNg (I0 13) (I0 12 1) p0 p1 (I0 12 2) = (0, (I0 12 2) + 1) := e.trans (by rw [H12_2])
    exact Or.inl ⟨dkN_sub d rfl, dkN_sub G0 rfl, dkN_sub G1 rfl, (congrArg Prod.fst e), (dk_isI hv.2.1.symm), (H12_2.trans (congrArg Prod.snd e).symm), H12_5, trivial⟩
  ·
    have e : dkNg (I0 13) (I0 12 1) p0 p1 (I0 12 2) = (2, I0 12 2) := by
      first | exact dkNg_2 (by rw [(dkNv_1 (T := I0 13) (n := (I0 12 1).toInt) (a := (I0 12 2).toInt) (by unfold dkDg; omega) (by unfold dkDg; omega)).1]; omega) (by rw [(dkNv_1 (T := I0 13) (n := (I0 12 1).toInt) (a := (I0 12 2).toInt) (by unfold dkDg; omega) (by unfold dkDg; omega)).1]; omega) | exact dkNg_2 (by rw [(dkNv_2 (T := I0 13) (n := (I0 12 1).toInt) (a := (I0 12 2).toInt) (by unfold dkDg; omega) (by unfold dkDg; omega) (by unfold dkDg; omega)).1]; omega) (by rw [(dkNv_2 (T := I0 13) (n := (I0 12 1).toInt) (a := (I0 12 2).toInt) (by unfold dkDg; omega) (by unfold dkDg; omega) (by unfold dkDg; omega)).1]; omega)
    exact Or.inr ⟨dkN_sub d rfl, (dkE_k e (by decide)), ER, (H12_4.trans (congrArg Prod.snd e).symm), (H12_5.trans (congrArg Prod.fst e).symm), trivial⟩
  ·
    have e : dkNg (I0 13) (I0 12 1) p0 p1 (I0 12 2) = (2, I0 12 2) := by
      first | exact dkNg_2 (by rw [(dkNv_1 (T := I0 13) (n := (I0 12 1).toInt) (a := (I0 12 2).toInt) (by unfold dkDg; omega) (by unfold dkDg; omega)).1]; omega) (by rw [(dkNv_1 (T := I0 13) (n := (I0 12 1).toInt) (a := (I0 12 2).toInt) (by unfold dkDg; omega) (by unfold dkDg; omega)).1]; omega) | exact dkNg_2 (by rw [(dkNv_2 (T := I0 13) (n := (I0 12 1).toInt) (a := (I0 12 2).toInt) (by unfold dkDg; omega) (by unfold dkDg; omega) (by unfold dkDg; omega)).1]; omega) (by rw [(dkNv_2 (T := I0 13) (n := (I0 12 1).toInt) (a := (I0 12 2).toInt) (by unfold dkDg; omega) (by unfold dkDg; omega) (by unfold dkDg; omega)).1]; omega)
    exact Or.inr ⟨dkN_sub d rfl, (dkE_k e (by decide)), ER, (H12_4.trans (congrArg Prod.snd e).symm), (H12_5.trans (congrArg Prod.fst e).symm), trivial⟩
  ·
    have hv : 0 ≤ dkNv (I0 13) (I0 12 1).toInt (I0 12 2).toInt ∧ dkNv (I0 13) (I0 12 1).toInt (I0 12 2).toInt = r.toInt ∧ (I1 12 2).toInt = dkNe (I0 13) (I0 12 1).toInt (I0 12 2).toInt := by
      first | (rw [(dkNv_1 (T := I0 13) (n := (I0 12 1).toInt) (a := (I0 12 2).toInt) (by unfold dkDg; omega) (by unfold dkDg; omega)).1, (dkNv_1 (T := I0 13) (n := (I0 12 1).toInt) (a := (I0 12 2).toInt) (by unfold dkDg; omega) (by unfold dkDg; omega)).2]; rw [ER, H12_2]; refine ⟨?_, ?_, ?_⟩ <;> omega) | (rw [(dkNv_2 (T := I0 13) (n := (I0 12 1).toInt) (a := (I0 12 2).toInt) (by unfold dkDg; omega) (by unfold dkDg; omega) (by unfold dkDg; omega)).1, (dkNv_2 (T := I0 13) (n := (I0 12 1).toInt) (a := (I0 12 2).toInt) (by unfold dkDg; omega) (by unfold dkDg; omega) (by unfold dkDg; omega)).2]; rw [ER, H12_2]; refine ⟨?_, ?_, ?_⟩ <;> omega)
    have e : dkNg (I0 13) (I0 12 1) p0 p1 (I0 12 2) = (0, I1 12 2) := (dkNg_0 (by omega) (by rw [hv.2.1, ER]; omega) (by rw [hv.2.1, ER]; omega)).trans (by rw [dk_isI hv.2.2])
    have e : dkNg (I0 13) (I0 12 1) p0 p1 (I0 12 2) = (0, (I0 12 2) + 1) := e.trans (by rw [H12_2])
    exact Or.inl ⟨dkN_sub d rfl, dkN_sub G0 rfl, dkN_sub G1 rfl, (congrArg Prod.fst e), (dk_isI hv.2.1.symm), (H12_2.trans (congrArg Prod.snd e).symm), H12_5, trivial⟩
  ·
    have e : dkNg (I0 13) (I0 12 1) p0 p1 (I0 12 2) = (2, I0 12 2) := by
      first | exact dkNg_2 (by rw [(dkNv_1 (T := I0 13) (n := (I0 12 1).toInt) (a := (I0 12 2).toInt) (by unfold dkDg; omega) (by unfold dkDg; omega)).1]; omega) (by rw [(dkNv_1 (T := I0 13) (n := (I0 12 1).toInt) (a := (I0 12 2).toInt) (by unfold dkDg; omega) (by unfold dkDg; omega)).1]; omega) | exact dkNg_2 (by rw [(dkNv_2 (T := I0 13) (n := (I0 12 1).toInt) (a := (I0 12 2).toInt) (by unfold dkDg; omega) (by unfold dkDg; omega) (by unfold dkDg; omega)).1]; omega) (by rw [(dkNv_2 (T := I0 13) (n := (I0 12 1).toInt) (a := (I0 12 2).toInt) (by unfold dkDg; omega) (by unfold dkDg; omega) (by unfold dkDg; omega)).1]; omega)
    exact Or.inr ⟨dkN_sub d rfl, (dkE_k e (by decide)), ER, (H12_4.trans (congrArg Prod.snd e).symm), (H12_5.trans (congrArg Prod.fst e).symm), trivial⟩
  ·
    have e : dkNg (I0 13) (I0 12 1) p0 p1 (I0 12 2) = (2, I0 12 2) := by
      first | exact dkNg_2 (by rw [(dkNv_1 (T := I0 13) (n := (I0 12 1).toInt) (a := (I0 12 2).toInt) (by unfold dkDg; omega) (by unfold dkDg; omega)).1]; omega) (by rw [(dkNv_1 (T := I0 13) (n := (I0 12 1).toInt) (a := (I0 12 2).toInt) (by unfold dkDg; omega) (by unfold dkDg; omega)).1]; omega) | exact dkNg_2 (by rw [(dkNv_2 (T := I0 13) (n := (I0 12 1).toInt) (a := (I0 12 2).toInt) (by unfold dkDg; omega) (by unfold dkDg; omega) (by unfold dkDg; omega)).1]; omega) (by rw [(dkNv_2 (T := I0 13) (n := (I0 12 1).toInt) (a := (I0 12 2).toInt) (by unfold dkDg; omega) (by unfold dkDg; omega) (by unfold dkDg; omega)).1]; omega)
    exact Or.inr ⟨dkN_sub d rfl, (dkE_k e (by decide)), ER, (H12_4.trans (congrArg Prod.snd e).symm), (H12_5.trans (congrArg Prod.fst e).symm), trivial⟩
  ·
    have hv : 0 ≤ dkNv (I0 13) (I0 12 1).toInt (I0 12 2).toInt ∧ dkNv (I0 13) (I0 12 1).toInt (I0 12 2).toInt = r.toInt ∧ (I1 12 2).toInt = dkNe (I0 13) (I0 12 1).toInt (I0 12 2).toInt := by
      first | (rw [(dkNv_1 (T := I0 13) (n := (I0 12 1).toInt) (a := (I0 12 2).toInt) (by unfold dkDg; omega) (by unfold dkDg; omega)).1, (dkNv_1 (T := I0 13) (n := (I0 12 1).toInt) (a := (I0 12 2).toInt) (by unfold dkDg; omega) (by unfold dkDg; omega)).2]; rw [ER, H12_2]; refine ⟨?_, ?_, ?_⟩ <;> omega) | (rw [(dkNv_2 (T := I0 13) (n := (I0 12 1).toInt) (a := (I0 12 2).toInt) (by unfold dkDg; omega) (by unfold dkDg; omega) (by unfold dkDg; omega)).1, (dkNv_2 (T := I0 13) (n := (I0 12 1).toInt) (a := (I0 12 2).toInt) (by unfold dkDg; omega) (by unfold dkDg; omega) (by unfold dkDg; omega)).2]; rw [ER, H12_2]; refine ⟨?_, ?_, ?_⟩ <;> omega)
    have e : dkNg (I0 13) (I0 12 1) p0 p1 (I0 12 2) = (0, I1 12 2) := (dkNg_0 (by omega) (by rw [hv.2.1, ER]; omega) (by rw [hv.2.1, ER]; omega)).trans (by rw [dk_isI hv.2.2])
    have e : dkNg (I0 13) (I0 12 1) p0 p1 (I0 12 2) = (0, ((I0 12 2) + 1) + 1) := e.trans (by rw [H12_2])
    exact Or.inl ⟨dkN_sub d rfl, dkN_sub G0 rfl, dkN_sub G1 rfl, (congrArg Prod.fst e), (dk_isI hv.2.1.symm), (H12_2.trans (congrArg Prod.snd e).symm), H12_5, trivial⟩
  ·
    have e : dkNg (I0 13) (I0 12 1) p0 p1 (I0 12 2) = (2, I0 12 2) := by
      first | exact dkNg_2 (by rw [(dkNv_1 (T := I0 13) (n := (I0 12 1).toInt) (a := (I0 12 2).toInt) (by unfold dkDg; omega) (by unfold dkDg; omega)).1]; omega) (by rw [(dkNv_1 (T := I0 13) (n := (I0 12 1).toInt) (a := (I0 12 2).toInt) (by unfold dkDg; omega) (by unfold dkDg; omega)).1]; omega) | exact dkNg_2 (by rw [(dkNv_2 (T := I0 13) (n := (I0 12 1).toInt) (a := (I0 12 2).toInt) (by unfold dkDg; omega) (by unfold dkDg; omega) (by unfold dkDg; omega)).1]; omega) (by rw [(dkNv_2 (T := I0 13) (n := (I0 12 1).toInt) (a := (I0 12 2).toInt) (by unfold dkDg; omega) (by unfold dkDg; omega) (by unfold dkDg; omega)).1]; omega)
    exact Or.inr ⟨dkN_sub d rfl, (dkE_k e (by decide)), ER, (H12_4.trans (congrArg Prod.snd e).symm), (H12_5.trans (congrArg Prod.fst e).symm), trivial⟩
  ·
    have e : dkNg (I0 13) (I0 12 1) p0 p1 (I0 12 2) = (2, I0 12 2) := by
      first | exact dkNg_2 (by rw [(dkNv_1 (T := I0 13) (n := (I0 12 1).toInt) (a := (I0 12 2).toInt) (by unfold dkDg; omega) (by unfold dkDg; omega)).1]; omega) (by rw [(dkNv_1 (T := I0 13) (n := (I0 12 1).toInt) (a := (I0 12 2).toInt) (by unfold dkDg; omega) (by unfold dkDg; omega)).1]; omega) | exact dkNg_2 (by rw [(dkNv_2 (T := I0 13) (n := (I0 12 1).toInt) (a := (I0 12 2).toInt) (by unfold dkDg; omega) (by unfold dkDg; omega) (by unfold dkDg; omega)).1]; omega) (by rw [(dkNv_2 (T := I0 13) (n := (I0 12 1).toInt) (a := (I0 12 2).toInt) (by unfold dkDg; omega) (by unfold dkDg; omega) (by unfold dkDg; omega)).1]; omega)
    exact Or.inr ⟨dkN_sub d rfl, (dkE_k e (by decide)), ER, (H12_4.trans (congrArg Prod.snd e).symm), (H12_5.trans (congrArg Prod.fst e).symm), trivial⟩
  ·
    have hv : 0 ≤ dkNv (I0 13) (I0 12 1).toInt (I0 12 2).toInt ∧ dkNv (I0 13) (I0 12 1).toInt (I0 12 2).toInt = r.toInt ∧ (I1 12 2).toInt = dkNe (I0 13) (I0 12 1).toInt (I0 12 2).toInt := by
      first | (rw [(dkNv_1 (T := I0 13) (n := (I0 12 1).toInt) (a := (I0 12 2).toInt) (by unfold dkDg; omega) (by unfold dkDg; omega)).1, (dkNv_1 (T := I0 13) (n := (I0 12 1).toInt) (a := (I0 12 2).toInt) (by unfold dkDg; omega) (by unfold dkDg; omega)).2]; rw [ER, H12_2]; refine ⟨?_, ?_, ?_⟩ <;> omega) | (rw [(dkNv_2 (T := I0 13) (n := (I0 12 1).toInt) (a := (I0 12 2).toInt) (by unfold dkDg; omega) (by unfold dkDg; omega) (by unfold dkDg; omega)).1, (dkNv_2 (T := I0 13) (n := (I0 12 1).toInt) (a := (I0 12 2).toInt) (by unfold dkDg; omega) (by unfold dkDg; omega) (by unfold dkDg; omega)).2]; rw [ER, H12_2]; refine ⟨?_, ?_, ?_⟩ <;> omega)
    have e : dkNg (I0 13) (I0 12 1) p0 p1 (I0 12 2) = (0, I1 12 2) := (dkNg_0 (by omega) (by rw [hv.2.1, ER]; omega) (by rw [hv.2.1, ER]; omega)).trans (by rw [dk_isI hv.2.2])
    have e : dkNg (I0 13) (I0 12 1) p0 p1 (I0 12 2) = (0, ((I0 12 2) + 1) + 1) := e.trans (by rw [H12_2])
    exact Or.inl ⟨dkN_sub d rfl, dkN_sub G0 rfl, dkN_sub G1 rfl, (congrArg Prod.fst e), (dk_isI hv.2.1.symm), (H12_2.trans (congrArg Prod.snd e).symm), H12_5, trivial⟩
  ·
    have e : dkNg (I0 13) (I0 12 1) p0 p1 (I0 12 2) = (2, I0 12 2) := by
      first | exact dkNg_2 (by rw [(dkNv_1 (T := I0 13) (n := (I0 12 1).toInt) (a := (I0 12 2).toInt) (by unfold dkDg; omega) (by unfold dkDg; omega)).1]; omega) (by rw [(dkNv_1 (T := I0 13) (n := (I0 12 1).toInt) (a := (I0 12 2).toInt) (by unfold dkDg; omega) (by unfold dkDg; omega)).1]; omega) | exact dkNg_2 (by rw [(dkNv_2 (T := I0 13) (n := (I0 12 1).toInt) (a := (I0 12 2).toInt) (by unfold dkDg; omega) (by unfold dkDg; omega) (by unfold dkDg; omega)).1]; omega) (by rw [(dkNv_2 (T := I0 13) (n := (I0 12 1).toInt) (a := (I0 12 2).toInt) (by unfold dkDg; omega) (by unfold dkDg; omega) (by unfold dkDg; omega)).1]; omega)
    exact Or.inr ⟨dkN_sub d rfl, (dkE_k e (by decide)), ER, (H12_4.trans (congrArg Prod.snd e).symm), (H12_5.trans (congrArg Prod.fst e).symm), trivial⟩
  ·
    have e : dkNg (I0 13) (I0 12 1) p0 p1 (I0 12 2) = (2, I0 12 2) := by
      first | exact dkNg_2 (by rw [(dkNv_1 (T := I0 13) (n := (I0 12 1).toInt) (a := (I0 12 2).toInt) (by unfold dkDg; omega) (by unfold dkDg; omega)).1]; omega) (by rw [(dkNv_1 (T := I0 13) (n := (I0 12 1).toInt) (a := (I0 12 2).toInt) (by unfold dkDg; omega) (by unfold dkDg; omega)).1]; omega) | exact dkNg_2 (by rw [(dkNv_2 (T := I0 13) (n := (I0 12 1).toInt) (a := (I0 12 2).toInt) (by unfold dkDg; omega) (by unfold dkDg; omega) (by unfold dkDg; omega)).1]; omega) (by rw [(dkNv_2 (T := I0 13) (n := (I0 12 1).toInt) (a := (I0 12 2).toInt) (by unfold dkDg; omega) (by unfold dkDg; omega) (by unfold dkDg; omega)).1]; omega)
    exact Or.inr ⟨dkN_sub d rfl, (dkE_k e (by decide)), ER, (H12_4.trans (congrArg Prod.snd e).symm), (H12_5.trans (congrArg Prod.fst e).symm), trivial⟩
  ·
    have hv : 0 ≤ dkNv (I0 13) (I0 12 1).toInt (I0 12 2).toInt ∧ dkNv (I0 13) (I0 12 1).toInt (I0 12 2).toInt = r.toInt ∧ (I1 12 2).toInt = dkNe (I0 13) (I0 12 1).toInt (I0 12 2).toInt := by
      first | (rw [(dkNv_1 (T := I0 13) (n := (I0 12 1).toInt) (a := (I0 12 2).toInt) (by unfold dkDg; omega) (by unfold dkDg; omega)).1, (dkNv_1 (T := I0 13) (n := (I0 12 1).toInt) (a := (I0 12 2).toInt) (by unfold dkDg; omega) (by unfold dkDg; omega)).2]; rw [ER, H12_2]; refine ⟨?_, ?_, ?_⟩ <;> omega) | (rw [(dkNv_2 (T := I0 13) (n := (I0 12 1).toInt) (a := (I0 12 2).toInt) (by unfold dkDg; omega) (by unfold dkDg; omega) (by unfold dkDg; omega)).1, (dkNv_2 (T := I0 13) (n := (I0 12 1).toInt) (a := (I0 12 2).toInt) (by unfold dkDg; omega) (by unfold dkDg; omega) (by unfold dkDg; omega)).2]; rw [ER, H12_2]; refine ⟨?_, ?_, ?_⟩ <;> omega)
    have e : dkNg (I0 13) (I0 12 1) p0 p1 (I0 12 2) = (0, I1 12 2) := (dkNg_0 (by omega) (by rw [hv.2.1, ER]; omega) (by rw [hv.2.1, ER]; omega)).trans (by rw [dk_isI hv.2.2])
    have e : dkNg (I0 13) (I0 12 1) p0 p1 (I0 12 2) = (0, ((I0 12 2) + 1) + 1) := e.trans (by rw [H12_2])
    exact Or.inl ⟨dkN_sub d rfl, dkN_sub G0 rfl, dkN_sub G1 rfl, (congrArg Prod.fst e), (dk_isI hv.2.1.symm), (H12_2.trans (congrArg Prod.snd e).symm), H12_5, trivial⟩
  ·
    have e : dkNg (I0 13) (I0 12 1) p0 p1 (I0 12 2) = (2, I0 12 2) := by
      first | exact dkNg_2 (by rw [(dkNv_1 (T := I0 13) (n := (I0 12 1).toInt) (a := (I0 12 2).toInt) (by unfold dkDg; omega) (by unfold dkDg; omega)).1]; omega) (by rw [(dkNv_1 (T := I0 13) (n := (I0 12 1).toInt) (a := (I0 12 2).toInt) (by unfold dkDg; omega) (by unfold dkDg; omega)).1]; omega) | exact dkNg_2 (by rw [(dkNv_2 (T := I0 13) (n := (I0 12 1).toInt) (a := (I0 12 2).toInt) (by unfold dkDg; omega) (by unfold dkDg; omega) (by unfold dkDg; omega)).1]; omega) (by rw [(dkNv_2 (T := I0 13) (n := (I0 12 1).toInt) (a := (I0 12 2).toInt) (by unfold dkDg; omega) (by unfold dkDg; omega) (by unfold dkDg; omega)).1]; omega)
    exact Or.inr ⟨dkN_sub d rfl, (dkE_k e (by decide)), ER, (H12_4.trans (congrArg Prod.snd e).symm), (H12_5.trans (congrArg Prod.fst e).symm), trivial⟩
  ·
    have e : dkNg (I0 13) (I0 12 1) p0 p1 (I0 12 2) = (1, I0 12 2) := dkNg_1 (by first | (rw [(dkNv_0 (T := I0 13) (n := (I0 12 1).toInt) (a := (I0 12 2).toInt) (by unfold dkDg; omega))]; decide) | (rw [(dkNv_3 (T := I0 13) (n := (I0 12 1).toInt) (a := (I0 12 2).toInt) (by unfold dkDg; omega) (by unfold dkDg; omega) (by unfold dkDg; omega))]; decide))
    exact Or.inr ⟨dkN_sub d rfl, (dkE_k e (by decide)), ER, (H12_4.trans (congrArg Prod.snd e).symm), (H12_5.trans (congrArg Prod.fst e).symm), trivial⟩
  ·
    have e : dkNg (I0 13) (I0 12 1) p0 p1 (I0 12 2) = (1, I0 12 2) := dkNg_1 (by first | (rw [(dkNv_0 (T := I0 13) (n := (I0 12 1).toInt) (a := (I0 12 2).toInt) (by unfold dkDg; omega))]; decide) | (rw [(dkNv_3 (T := I0 13) (n := (I0 12 1).toInt) (a := (I0 12 2).toInt) (by unfold dkDg; omega) (by unfold dkDg; omega) (by unfold dkDg; omega))]; decide))
    exact Or.inr ⟨dkN_sub d rfl, (dkE_k e (by decide)), ER, (H12_4.trans (congrArg Prod.snd e).symm), (H12_5.trans (congrArg Prod.fst e).symm), trivial⟩
  ·
    have e : dkNg (I0 13) (I0 12 1) p0 p1 (I0 12 2) = (1, I0 12 2) := dkNg_1 (by first | (rw [(dkNv_0 (T := I0 13) (n := (I0 12 1).toInt) (a := (I0 12 2).toInt) (by unfold dkDg; omega))]; decide) | (rw [(dkNv_3 (T := I0 13) (n := (I0 12 1).toInt) (a := (I0 12 2).toInt) (by unfold dkDg; omega) (by unfold dkDg; omega) (by unfold dkDg; omega))]; decide))
    exact Or.inr ⟨dkN_sub d rfl, (dkE_k e (by decide)), ER, (H12_4.trans (congrArg Prod.snd e).symm), (H12_5.trans (congrArg Prod.fst e).symm), trivial⟩
  ·
    have e : dkNg (I0 13) (I0 12 1) p0 p1 (I0 12 2) = (1, I0 12 2) := dkNg_1 (by first | (rw [(dkNv_0 (T := I0 13) (n := (I0 12 1).toInt) (a := (I0 12 2).toInt) (by unfold dkDg; omega))]; decide) | (rw [(dkNv_3 (T := I0 13) (n := (I0 12 1).toInt) (a := (I0 12 2).toInt) (by unfold dkDg; omega) (by unfold dkDg; omega) (by unfold dkDg; omega))]; decide))
    exact Or.inr ⟨dkN_sub d rfl, (dkE_k e (by decide)), ER, (H12_4.trans (congrArg Prod.snd e).symm), (H12_5.trans (congrArg Prod.fst e).symm), trivial⟩
set_option maxHeartbeats 4000000 in
set_option maxRecDepth 100000 in
theorem fx_X4_settle_1 (l : Launch) (g : dkG) (z : Nat) (I0 : dkI) (t0 : Nat) (ht0 : dkT t0) (p0 : Int32) (p1 : Int32) (p2 : Int32) (dp0 : dkN [(0, 8)] p0) (dp1 : dkN [(0, 9)] p1) (dp2 : dkN [(0, 2)] p2)  (hO : dkOk I0) : Met l yX4_settle wsX4_settle (dkR 0) (dkPc g z [.ref (z + t0), .int p0, .int p1, .int p2] I0) (dkQv g z (fun I1 => dkF [(t0, t0, 4, 4), (t0 + 1, t0 + 1, 0, 4), (t0 + 2, t0 + 2, 0, 4), (t0 + 3, t0 + 3, 0, 4), (t0 + 4, t0 + 4, 0, 4), (t0 + 5, t0 + 5, 0, 4), (t0 + 6, t0 + 6, 0, 4)] I0 I1 ∧ dkOk I1 ∧ ((dkN [(1, 5)] (I1 t0 4) ∧ (I0 t0 4).toInt + 1 ≤ (5 : Int) ∧ ((I0 t0 4) + (1 : Int32)).toInt = (I0 t0 4).toInt + (1 : Int) ∧ I1 t0 0 = I0 t0 0 ∧ I1 t0 4 = (I0 t0 4) + (1 : Int32) ∧ I1 t0 11 = I0 t0 11 ∧ True) ∨ (dkN [(5, 5)] (I1 t0 4) ∧ (5 : Int) + 0 ≤ (I0 t0 4).toInt ∧ I1 t0 0 = I0 t0 0 ∧ I1 t0 4 = I0 t0 4 ∧ I1 t0 11 = I0 t0 11 ∧ True)))) 0 0 (dkA z) := by
  refine Met.ofW (cc := cX4_settle) (maxL := 4) (ret := none) (by decide) rfl ?_
  intro p e s m args below meth c s₁ B hml hv
  obtain ⟨ha, hW, hK, hT⟩ := hv
  have hx := B.exec
  have hb := B.bytes
  have hr := B.returns
  have hts := atoms_spec (ws := wsX4_settle) B.pre
  have hown : s.vm.findClass RX4 = some m.cls := findClass_of_methodNamed B.named
  have hlocks := B.notSynchronized
  have hS : va_S (dkA z) s.heap s.heap [] := va_S.rf
  have hF : dkF [(t0, t0, 4, 4), (t0 + 1, t0 + 1, 0, 4), (t0 + 2, t0 + 2, 0, 4), (t0 + 3, t0 + 3, 0, 4), (t0 + 4, t0 + 4, 0, 4), (t0 + 5, t0 + 5, 0, 4), (t0 + 6, t0 + 6, 0, 4)] I0 I0 := dkF_rf _ _
  have hl := lv_entry ([.ref (z + t0), .int p0, .int p1, .int p2]) (n := 4) (Nat.le_of_ble_eq_true rfl)
  have hgo : entryFrame m args 4 = entryFrame m ([.ref (z + t0), .int p0, .int p1, .int p2] : List Value).toArray 4 := by rw [ha]
  rw [hgo, lg_entry_eq]
  generalize (lg_sl ([.ref (z + t0), .int p0, .int p1, .int p2]) ++ List.replicate (4 - (lg_sl ([.ref (z + t0), .int p0, .int p1, .int p2])).length) Slot.unset).toArray = ls at hl ⊢
  have hl : lv_has ls 4 [(0, .ref (z + t0)), (1, .int p0), (2, .int p1), (3, .int p2)] := hl
  refine lv_aload_n hx hb dX4_settle_0 rfl (lv_at hl 0 rfl) ?_
  refine dk_get (k := t0) hx hb hts iX4_settle_4 hown hK (dk_aT0 ht0 hW) rfl 4 (by decide) (hts (.fieldLink RX4 55 "DogKings$Town" "people" "I") (List.mem_of_getElem? (i := 1) rfl)) rfl dX4_settle_1 ?_
  refine lv_topi (fun v1 ev1 => ?_)
  have dv1 : dkN [(0, 5)] v1 := by rw [ev1]; exact (dkO_at hO ht0 (c := 0) (by decide) 4)
  have xv1 : v1 = I0 t0 4 := ev1.trans rfl
  refine lv_iconst (v := 5) hx hb dX4_settle_4 (by decide) ?_
  refine lv_icmp_lt (tgt := 9) hx hb dX4_settle_5 (by decide) (fun c2 => ?_) (fun c2 => ?_)
  ·
    have q3 : (I0 t0 4).toInt + 1 ≤ (5 : Int) := by first | (rw [← xv1]; exact (dkc_lt c2)) | (subst xv1; exact (dkc_lt c2))
    have d4 : dkN [(0, 4)] v1 := dkN_le1 1 dv1 (dkN_lit (x := 5) (5) rfl) (dkc_lt c2) rfl
    have f5 : dkN [(0, 4)] (I0 t0 4) := by rw [← ev1]; exact d4
    refine lv_aload_n hx hb dX4_settle_9 rfl (lv_at hl 0 rfl) ?_
    refine dk_get (k := t0) hx hb hts iX4_settle_4 hown hK (dk_aT0 ht0 hW) rfl 5 (by decide) (hts (.fieldLink RX4 9 "DogKings$Town" "personHome" "[I") (List.mem_of_getElem? (i := 2) rfl)) rfl dX4_settle_10 ?_
    refine lv_aload_n hx hb dX4_settle_13 rfl (lv_at hl 0 rfl) ?_
    refine dk_get (k := t0) hx hb hts iX4_settle_4 hown hK (dk_aT0 ht0 hW) rfl 4 (by decide) (hts (.fieldLink RX4 55 "DogKings$Town" "people" "I") (List.mem_of_getElem? (i := 1) rfl)) rfl dX4_settle_14 ?_
    refine lv_topi (fun v6 ev6 => ?_)
    have dv6 : dkN [(0, 4)] v6 := by rw [ev6]; exact f5
    have xv6 : v6 = I0 t0 4 := ev6.trans rfl
    refine lv_iload_n hx hb dX4_settle_17 rfl (lv_at hl 1 rfl) ?_
    refine dk_ist (k := (t0 + 1)) hx hb hK hW (fun _ => dkC_T g z ht0 (c := 1) (by decide) _) (by have := dkT_lt ht0; omega) hS (dkN_in (n := 5) dv6 rfl) dX4_settle_18 (fun I7 H7 L7 eI7 hW hS => ?_)
    have hO := dkO_setT hO ht0 (c := 1) (by decide) eI7 (dkN_sub dp0 rfl)
    have hF := dkF_set hF eI7 (dkIn_atv (i := 1) rfl (Nat.le_refl _) (Nat.le_refl _) dv6 rfl)
    refine lv_aload_n hx hb dX4_settle_19 rfl (lv_at hl 0 rfl) ?_
    refine dk_get (k := t0) hx hb hts iX4_settle_4 hown hK (dk_aT0 ht0 hW) rfl 6 (by decide) (hts (.fieldLink RX4 15 "DogKings$Town" "smell" "[I") (List.mem_of_getElem? (i := 3) rfl)) rfl dX4_settle_20 ?_
    refine lv_aload_n hx hb dX4_settle_23 rfl (lv_at hl 0 rfl) ?_
    refine dk_get (k := t0) hx hb hts iX4_settle_4 hown hK (dk_aT0 ht0 hW) rfl 4 (by decide) (hts (.fieldLink RX4 55 "DogKings$Town" "people" "I") (List.mem_of_getElem? (i := 1) rfl)) rfl dX4_settle_24 ?_
    refine lv_topi (fun v8 ev8 => ?_)
    have dv8 : dkN [(0, 4)] v8 := by rw [ev8]; exact (by rw [eI7, dkU_n (by omega)]; exact f5)
    have xv8 : v8 = I0 t0 4 := ev8.trans ((by rw [eI7, dkU_n (by omega)] : I7 t0 4 = _).trans rfl)
    refine lv_iload_n hx hb dX4_settle_27 rfl (lv_at hl 2 rfl) ?_
    refine dk_ist (k := (t0 + 2)) hx hb hK hW (fun _ => dkC_T g z ht0 (c := 2) (by decide) _) (by have := dkT_lt ht0; omega) hS (dkN_in (n := 5) dv8 rfl) dX4_settle_28 (fun I9 H9 L9 eI9 hW hS => ?_)
    have hO := dkO_setT hO ht0 (c := 2) (by decide) eI9 (dkN_sub dp1 rfl)
    have hF := dkF_set hF eI9 (dkIn_atv (i := 2) rfl (Nat.le_refl _) (Nat.le_refl _) dv8 rfl)
    refine lv_aload_n hx hb dX4_settle_29 rfl (lv_at hl 0 rfl) ?_
    refine dk_get (k := t0) hx hb hts iX4_settle_4 hown hK (dk_aT0 ht0 hW) rfl 7 (by decide) (hts (.fieldLink RX4 18 "DogKings$Town" "personAt" "[I") (List.mem_of_getElem? (i := 4) rfl)) rfl dX4_settle_30 ?_
    refine lv_aload_n hx hb dX4_settle_33 rfl (lv_at hl 0 rfl) ?_
    refine dk_get (k := t0) hx hb hts iX4_settle_4 hown hK (dk_aT0 ht0 hW) rfl 4 (by decide) (hts (.fieldLink RX4 55 "DogKings$Town" "people" "I") (List.mem_of_getElem? (i := 1) rfl)) rfl dX4_settle_34 ?_
    refine lv_topi (fun v10 ev10 => ?_)
    have dv10 : dkN [(0, 4)] v10 := by rw [ev10]; exact (by rw [eI9, dkU_n (by omega)]; exact (by rw [eI7, dkU_n (by omega)]; exact f5))
    have xv10 : v10 = I0 t0 4 := ev10.trans ((by rw [eI9, dkU_n (by omega)] : I9 t0 4 = _).trans ((by rw [eI7, dkU_n (by omega)] : I7 t0 4 = _).trans rfl))
    refine lv_iload_n hx hb dX4_settle_37 rfl (lv_at hl 1 rfl) ?_
    refine dk_ist (k := (t0 + 3)) hx hb hK hW (fun _ => dkC_T g z ht0 (c := 3) (by decide) _) (by have := dkT_lt ht0; omega) hS (dkN_in (n := 5) dv10 rfl) dX4_settle_38 (fun I11 H11 L11 eI11 hW hS => ?_)
    have hO := dkO_setT hO ht0 (c := 3) (by decide) eI11 (dkN_sub dp0 rfl)
    have hF := dkF_set hF eI11 (dkIn_atv (i := 3) rfl (Nat.le_refl _) (Nat.le_refl _) dv10 rfl)
    refine lv_aload_n hx hb dX4_settle_39 rfl (lv_at hl 0 rfl) ?_
    refine dk_get (k := t0) hx hb hts iX4_settle_4 hown hK (dk_aT0 ht0 hW) rfl 8 (by decide) (hts (.fieldLink RX4 21 "DogKings$Town" "bones" "[I") (List.mem_of_getElem? (i := 5) rfl)) rfl dX4_settle_40 ?_
    refine lv_aload_n hx hb dX4_settle_43 rfl (lv_at hl 0 rfl) ?_
    refine dk_get (k := t0) hx hb hts iX4_settle_4 hown hK (dk_aT0 ht0 hW) rfl 4 (by decide) (hts (.fieldLink RX4 55 "DogKings$Town" "people" "I") (List.mem_of_getElem? (i := 1) rfl)) rfl dX4_settle_44 ?_
    refine lv_topi (fun v12 ev12 => ?_)
    have dv12 : dkN [(0, 4)] v12 := by rw [ev12]; exact (by rw [eI11, dkU_n (by omega)]; exact (by rw [eI9, dkU_n (by omega)]; exact (by rw [eI7, dkU_n (by omega)]; exact f5)))
    have xv12 : v12 = I0 t0 4 := ev12.trans ((by rw [eI11, dkU_n (by omega)] : I11 t0 4 = _).trans ((by rw [eI9, dkU_n (by omega)] : I9 t0 4 = _).trans ((by rw [eI7, dkU_n (by omega)] : I7 t0 4 = _).trans rfl)))
    refine lv_iconst (v := 0) hx hb dX4_settle_47 (by decide) ?_
    refine dk_ist (k := (t0 + 4)) hx hb hK hW (fun _ => dkC_T g z ht0 (c := 4) (by decide) _) (by have := dkT_lt ht0; omega) hS (dkN_in (n := 5) dv12 rfl) dX4_settle_48 (fun I13 H13 L13 eI13 hW hS => ?_)
    have hO := dkO_setT hO ht0 (c := 4) (by decide) eI13 (dkN_sub (dkN_lit (x := 0) (0) rfl) rfl)
    have hF := dkF_set hF eI13 (dkIn_atv (i := 4) rfl (Nat.le_refl _) (Nat.le_refl _) dv12 rfl)
    refine lv_aload_n hx hb dX4_settle_49 rfl (lv_at hl 0 rfl) ?_
    refine dk_get (k := t0) hx hb hts iX4_settle_4 hown hK (dk_aT0 ht0 hW) rfl 9 (by decide) (hts (.fieldLink RX4 24 "DogKings$Town" "gait" "[I") (List.mem_of_getElem? (i := 6) rfl)) rfl dX4_settle_50 ?_
    refine lv_aload_n hx hb dX4_settle_53 rfl (lv_at hl 0 rfl) ?_
    refine dk_get (k := t0) hx hb hts iX4_settle_4 hown hK (dk_aT0 ht0 hW) rfl 4 (by decide) (hts (.fieldLink RX4 55 "DogKings$Town" "people" "I") (List.mem_of_getElem? (i := 1) rfl)) rfl dX4_settle_54 ?_
    refine lv_topi (fun v14 ev14 => ?_)
    have dv14 : dkN [(0, 4)] v14 := by rw [ev14]; exact (by rw [eI13, dkU_n (by omega)]; exact (by rw [eI11, dkU_n (by omega)]; exact (by rw [eI9, dkU_n (by omega)]; exact (by rw [eI7, dkU_n (by omega)]; exact f5))))
    have xv14 : v14 = I0 t0 4 := ev14.trans ((by rw [eI13, dkU_n (by omega)] : I13 t0 4 = _).trans ((by rw [eI11, dkU_n (by omega)] : I11 t0 4 = _).trans ((by rw [eI9, dkU_n (by omega)] : I9 t0 4 = _).trans ((by rw [eI7, dkU_n (by omega)] : I7 t0 4 = _).trans rfl))))
    refine lv_iload_n hx hb dX4_settle_57 rfl (lv_at hl 3 rfl) ?_
    refine dk_ist (k := (t0 + 5)) hx hb hK hW (fun _ => dkC_T g z ht0 (c := 5) (by decide) _) (by have := dkT_lt ht0; omega) hS (dkN_in (n := 5) dv14 rfl) dX4_settle_58 (fun I15 H15 L15 eI15 hW hS => ?_)
    have hO := dkO_setT hO ht0 (c := 5) (by decide) eI15 (dkN_sub dp2 rfl)
    have hF := dkF_set hF eI15 (dkIn_atv (i := 5) rfl (Nat.le_refl _) (Nat.le_refl _) dv14 rfl)
    refine lv_aload_n hx hb dX4_settle_59 rfl (lv_at hl 0 rfl) ?_
    refine dk_get (k := t0) hx hb hts iX4_settle_4 hown hK (dk_aT0 ht0 hW) rfl 10 (by decide) (hts (.fieldLink RX4 27 "DogKings$Town" "reigns" "[I") (List.mem_of_getElem? (i := 7) rfl)) rfl dX4_settle_60 ?_
    refine lv_aload_n hx hb dX4_settle_63 rfl (lv_at hl 0 rfl) ?_
    refine dk_get (k := t0) hx hb hts iX4_settle_4 hown hK (dk_aT0 ht0 hW) rfl 4 (by decide) (hts (.fieldLink RX4 55 "DogKings$Town" "people" "I") (List.mem_of_getElem? (i := 1) rfl)) rfl dX4_settle_64 ?_
    refine lv_topi (fun v16 ev16 => ?_)
    have dv16 : dkN [(0, 4)] v16 := by rw [ev16]; exact (by rw [eI15, dkU_n (by omega)]; exact (by rw [eI13, dkU_n (by omega)]; exact (by rw [eI11, dkU_n (by omega)]; exact (by rw [eI9, dkU_n (by omega)]; exact (by rw [eI7, dkU_n (by omega)]; exact f5)))))
    have xv16 : v16 = I0 t0 4 := ev16.trans ((by rw [eI15, dkU_n (by omega)] : I15 t0 4 = _).trans ((by rw [eI13, dkU_n (by omega)] : I13 t0 4 = _).trans ((by rw [eI11, dkU_n (by omega)] : I11 t0 4 = _).trans ((by rw [eI9, dkU_n (by omega)] : I9 t0 4 = _).trans ((by rw [eI7, dkU_n (by omega)] : I7 t0 4 = _).trans rfl)))))
    refine lv_iconst (v := 0) hx hb dX4_settle_67 (by decide) ?_
    refine dk_ist (k := (t0 + 6)) hx hb hK hW (fun _ => dkC_T g z ht0 (c := 6) (by decide) _) (by have := dkT_lt ht0; omega) hS (dkN_in (n := 5) dv16 rfl) dX4_settle_68 (fun I17 H17 L17 eI17 hW hS => ?_)
    have hO := dkO_setT hO ht0 (c := 6) (by decide) eI17 (dkN_sub (dkN_lit (x := 0) (0) rfl) rfl)
    have hF := dkF_set hF eI17 (dkIn_atv (i := 6) rfl (Nat.le_refl _) (Nat.le_refl _) dv16 rfl)
    refine lv_aload_n hx hb dX4_settle_69 rfl (lv_at hl 0 rfl) ?_
    refine lv_dup hx hb dX4_settle_70 rfl ?_
    refine dk_get (k := t0) hx hb hts iX4_settle_4 hown hK (dk_aT0 ht0 hW) rfl 4 (by decide) (hts (.fieldLink RX4 55 "DogKings$Town" "people" "I") (List.mem_of_getElem? (i := 1) rfl)) rfl dX4_settle_71 ?_
    refine lv_topi (fun v18 ev18 => ?_)
    have dv18 : dkN [(0, 4)] v18 := by rw [ev18]; exact (by rw [eI17, dkU_n (by omega)]; exact (by rw [eI15, dkU_n (by omega)]; exact (by rw [eI13, dkU_n (by omega)]; exact (by rw [eI11, dkU_n (by omega)]; exact (by rw [eI9, dkU_n (by omega)]; exact (by rw [eI7, dkU_n (by omega)]; exact f5))))))
    have xv18 : v18 = I0 t0 4 := ev18.trans ((by rw [eI17, dkU_n (by omega)] : I17 t0 4 = _).trans ((by rw [eI15, dkU_n (by omega)] : I15 t0 4 = _).trans ((by rw [eI13, dkU_n (by omega)] : I13 t0 4 = _).trans ((by rw [eI11, dkU_n (by omega)] : I11 t0 4 = _).trans ((by rw [eI9, dkU_n (by omega)] : I9 t0 4 = _).trans ((by rw [eI7, dkU_n (by omega)] : I7 t0 4 = _).trans rfl))))))
    refine lv_iconst (v := 1) hx hb dX4_settle_74 (by decide) ?_
    refine lv_iadd hx hb dX4_settle_75 ?_
    refine lv_topi (fun v19 ev19 => ?_)
    have dv19 : dkN [(1, 5)] v19 := by rw [ev19]; exact dkN_add dv18 (dkN_lit (x := 1) (1) rfl) rfl
    have xv19 : v19 = (I0 t0 4) + (1 : Int32) := by rw [ev19, xv18]
    have q20 : ((I0 t0 4) + (1 : Int32)).toInt = (I0 t0 4).toInt + (1 : Int) := by first | (rw [← xv19, ← xv18]; exact (by rw [ev19]; exact dk_addE dv18 (dkN_lit (x := 1) (1) rfl) rfl)) | (subst xv19 xv18; exact (by rw [ev19]; exact dk_addE dv18 (dkN_lit (x := 1) (1) rfl) rfl))
    refine dk_put (k := t0) hx hb hts iX4_settle_4 tyX4 tyX4_ok nmX4 hown hK hW (dk_aT0 ht0 hW) hS rfl 4 (by decide) (hts (.fieldLink RX4 55 "DogKings$Town" "people" "I") (List.mem_of_getElem? (i := 1) rfl)) rfl rfl (Nat.le_of_ble_eq_true rfl) (dk_eT4 ht0) dX4_settle_76 (fun I21 H21 L21 eI21 hW hS => ?_)
    have eI21 : I21 = dkU I17 t0 4 v19 := eI21
    have hO := dkO_setT hO ht0 (c := 0) (by decide) eI21 (dkN_sub dv19 rfl)
    have hF := dkF_set hF eI21 (dkIn_at (i := 0) rfl (Nat.le_refl _) (Nat.le_refl _) (by decide) (by decide))
    exact W.vret hx hb hr (fun t ht hW9 => ⟨⟨I21, rfl, ⟨hF, hO, Or.inl ⟨(show dkN [(1, 5)] (I21 t0 4) from dkN_sub (by rw [eI21, dkU_ss]; exact dv19) rfl), q3, q20, ((by rw [eI21, dkU_sn (by decide)] : I21 t0 0 = _).trans ((by rw [eI17, dkU_n (by omega)] : I17 t0 0 = _).trans ((by rw [eI15, dkU_n (by omega)] : I15 t0 0 = _).trans ((by rw [eI13, dkU_n (by omega)] : I13 t0 0 = _).trans ((by rw [eI11, dkU_n (by omega)] : I11 t0 0 = _).trans ((by rw [eI9, dkU_n (by omega)] : I9 t0 0 = _).trans ((by rw [eI7, dkU_n (by omega)] : I7 t0 0 = _).trans rfl))))))), (by rw [eI21, dkU_ss, xv19]), ((by rw [eI21, dkU_sn (by decide)] : I21 t0 11 = _).trans ((by rw [eI17, dkU_n (by omega)] : I17 t0 11 = _).trans ((by rw [eI15, dkU_n (by omega)] : I15 t0 11 = _).trans ((by rw [eI13, dkU_n (by omega)] : I13 t0 11 = _).trans ((by rw [eI11, dkU_n (by omega)] : I11 t0 11 = _).trans ((by rw [eI9, dkU_n (by omega)] : I9 t0 11 = _).trans ((by rw [eI7, dkU_n (by omega)] : I7 t0 11 = _).trans rfl))))))), trivial⟩⟩, dkW_eq ht hW⟩, hS.F ht⟩) hS.2.2 dX4_settle_79
  ·
    have q22 : (5 : Int) + 0 ≤ (I0 t0 4).toInt := by first | (rw [← xv1]; exact (dkc_nlt c2)) | (subst xv1; exact (dkc_nlt c2))
    have d23 : dkN [(5, 5)] v1 := dkN_le2 0 (dkN_lit (x := 5) (5) rfl) dv1 (dkc_nlt c2) rfl
    have f24 : dkN [(5, 5)] (I0 t0 4) := by rw [← ev1]; exact d23
    exact W.vret hx hb hr (fun t ht hW9 => ⟨⟨I0, rfl, ⟨hF, hO, Or.inr (⟨(show dkN [(5, 5)] (I0 t0 4) from dkN_sub f24 rfl), q22, rfl, rfl, rfl, trivial⟩)⟩, dkW_eq ht hW⟩, hS.F ht⟩) hS.2.2 dX4_settle_8
set_option maxHeartbeats 4000000 in
set_option maxRecDepth 100000 in
theorem fx_X2_readsPerson_1 (l : Launch) (g : dkG) (z : Nat) (I0 : dkI) (np0 : dkN [(3, 9)] (I0 14 0)) (np1 : dkN [(0, 4)] (I0 14 4))  (hO : dkOk I0) : Met l yX2_readsPerson wsX2_readsPerson (dkR 2) (dkPc g z [.ref (z + 12)] I0) (dkQi g z (fun r I1 => dkF [(12, 12, 2, 2), (12, 12, 4, 5), (14, 14, 4, 4), (15, 15, 0, 4), (16, 16, 0, 4), (17, 17, 0, 4), (18, 18, 0, 4), (19, 19, 0, 4), (20, 20, 0, 4)] I0 I1 ∧ dkOk I1 ∧ ((dkN [(1, 1)] r ∧ dkN [(1, 90)] (I1 12 1) ∧ dkN [(1, 90)] (I1 12 2) ∧ dkN [(3, 9)] (I1 14 0) ∧ dkN [(1, 5)] (I1 14 4) ∧ (dkSg (I0 13) (I0 12 1) 109 (I0 12 2)).1 = 0 ∧ ((I0 14 0) - (1 : Int32)).toInt = (I0 14 0).toInt - (1 : Int) ∧ (dkNg (I0 13) (I0 12 1) 0 ((I0 14 0) - (1 : Int32)) ((dkSg (I0 13) (I0 12 1) 109 (I0 12 2)).2)).1 = 0 ∧ (dkNn (I0 13) (I0 12 1) ((dkSg (I0 13) (I0 12 1) 109 (I0 12 2)).2)).toInt ≠ (-1000000 : Int) ∧ (dkSg (I0 13) (I0 12 1) 44 ((dkNg (I0 13) (I0 12 1) 0 ((I0 14 0) - (1 : Int32)) ((dkSg (I0 13) (I0 12 1) 109 (I0 12 2)).2)).2)).1 = 0 ∧ (dkNg (I0 13) (I0 12 1) 0 9 ((dkSg (I0 13) (I0 12 1) 44 ((dkNg (I0 13) (I0 12 1) 0 ((I0 14 0) - (1 : Int32)) ((dkSg (I0 13) (I0 12 1) 109 (I0 12 2)).2)).2)).2)).1 = 0 ∧ (dkNn (I0 13) (I0 12 1) ((dkSg (I0 13) (I0 12 1) 44 ((dkNg (I0 13) (I0 12 1) 0 ((I0 14 0) - (1 : Int32)) ((dkSg (I0 13) (I0 12 1) 109 (I0 12 2)).2)).2)).2)).toInt ≠ (-1000000 : Int) ∧ (dkSg (I0 13) (I0 12 1) 44 ((dkNg (I0 13) (I0 12 1) 0 9 ((dkSg (I0 13) (I0 12 1) 44 ((dkNg (I0 13) (I0 12 1) 0 ((I0 14 0) - (1 : Int32)) ((dkSg (I0 13) (I0 12 1) 109 (I0 12 2)).2)).2)).2)).2)).1 = 0 ∧ (dkNg (I0 13) (I0 12 1) 0 2 ((dkSg (I0 13) (I0 12 1) 44 ((dkNg (I0 13) (I0 12 1) 0 9 ((dkSg (I0 13) (I0 12 1) 44 ((dkNg (I0 13) (I0 12 1) 0 ((I0 14 0) - (1 : Int32)) ((dkSg (I0 13) (I0 12 1) 109 (I0 12 2)).2)).2)).2)).2)).2)).1 = 0 ∧ (dkNn (I0 13) (I0 12 1) ((dkSg (I0 13) (I0 12 1) 44 ((dkNg (I0 13) (I0 12 1) 0 9 ((dkSg (I0 13) (I0 12 1) 44 ((dkNg (I0 13) (I0 12 1) 0 ((I0 14 0) - (1 : Int32)) ((dkSg (I0 13) (I0 12 1) 109 (I0 12 2)).2)).2)).2)).2)).2)).toInt ≠ (-1000000 : Int) ∧ (dkSg (I0 13) (I0 12 1) 59 ((dkNg (I0 13) (I0 12 1) 0 2 ((dkSg (I0 13) (I0 12 1) 44 ((dkNg (I0 13) (I0 12 1) 0 9 ((dkSg (I0 13) (I0 12 1) 44 ((dkNg (I0 13) (I0 12 1) 0 ((I0 14 0) - (1 : Int32)) ((dkSg (I0 13) (I0 12 1) 109 (I0 12 2)).2)).2)).2)).2)).2)).2)).1 = 0 ∧ (I0 14 4).toInt + 1 ≤ (5 : Int) ∧ ((I0 14 4) + (1 : Int32)).toInt = (I0 14 4).toInt + (1 : Int) ∧ r = 1 ∧ I1 12 2 = (dkSg (I0 13) (I0 12 1) 59 ((dkNg (I0 13) (I0 12 1) 0 2 ((dkSg (I0 13) (I0 12 1) 44 ((dkNg (I0 13) (I0 12 1) 0 9 ((dkSg (I0 13) (I0 12 1) 44 ((dkNg (I0 13) (I0 12 1) 0 ((I0 14 0) - (1 : Int32)) ((dkSg (I0 13) (I0 12 1) 109 (I0 12 2)).2)).2)).2)).2)).2)).2)).2 ∧ I1 12 5 = I0 12 5 ∧ I1 14 0 = I0 14 0 ∧ I1 14 4 = (I0 14 4) + (1 : Int32) ∧ I1 14 11 = I0 14 11 ∧ True) ∨ (dkN [(1, 1)] r ∧ dkN [(1, 90)] (I1 12 1) ∧ dkN [(1, 90)] (I1 12 2) ∧ dkN [(3, 9)] (I1 14 0) ∧ dkN [(5, 5)] (I1 14 4) ∧ (dkSg (I0 13) (I0 12 1) 109 (I0 12 2)).1 = 0 ∧ ((I0 14 0) - (1 : Int32)).toInt = (I0 14 0).toInt - (1 : Int) ∧ (dkNg (I0 13) (I0 12 1) 0 ((I0 14 0) - (1 : Int32)) ((dkSg (I0 13) (I0 12 1) 109 (I0 12 2)).2)).1 = 0 ∧ (dkNn (I0 13) (I0 12 1) ((dkSg (I0 13) (I0 12 1) 109 (I0 12 2)).2)).toInt ≠ (-1000000 : Int) ∧ (dkSg (I0 13) (I0 12 1) 44 ((dkNg (I0 13) (I0 12 1) 0 ((I0 14 0) - (1 : Int32)) ((dkSg (I0 13) (I0 12 1) 109 (I0 12 2)).2)).2)).1 = 0 ∧ (dkNg (I0 13) (I0 12 1) 0 9 ((dkSg (I0 13) (I0 12 1) 44 ((dkNg (I0 13) (I0 12 1) 0 ((I0 14 0) - (1 : Int32)) ((dkSg (I0 13) (I0 12 1) 109 (I0 12 2)).2)).2)).2)).1 = 0 ∧ (dkNn (I0 13) (I0 12 1) ((dkSg (I0 13) (I0 12 1) 44 ((dkNg (I0 13) (I0 12 1) 0 ((I0 14 0) - (1 : Int32)) ((dkSg (I0 13) (I0 12 1) 109 (I0 12 2)).2)).2)).2)).toInt ≠ (-1000000 : Int) ∧ (dkSg (I0 13) (I0 12 1) 44 ((dkNg (I0 13) (I0 12 1) 0 9 ((dkSg (I0 13) (I0 12 1) 44 ((dkNg (I0 13) (I0 12 1) 0 ((I0 14 0) - (1 : Int32)) ((dkSg (I0 13) (I0 12 1) 109 (I0 12 2)).2)).2)).2)).2)).1 = 0 ∧ (dkNg (I0 13) (I0 12 1) 0 2 ((dkSg (I0 13) (I0 12 1) 44 ((dkNg (I0 13) (I0 12 1) 0 9 ((dkSg (I0 13) (I0 12 1) 44 ((dkNg (I0 13) (I0 12 1) 0 ((I0 14 0) - (1 : Int32)) ((dkSg (I0 13) (I0 12 1) 109 (I0 12 2)).2)).2)).2)).2)).2)).1 = 0 ∧ (dkNn (I0 13) (I0 12 1) ((dkSg (I0 13) (I0 12 1) 44 ((dkNg (I0 13) (I0 12 1) 0 9 ((dkSg (I0 13) (I0 12 1) 44 ((dkNg (I0 13) (I0 12 1) 0 ((I0 14 0) - (1 : Int32)) ((dkSg (I0 13) (I0 12 1) 109 (I0 12 2)).2)).2)).2)).2)).2)).toInt ≠ (-1000000 : Int) ∧ (dkSg (I0 13) (I0 12 1) 59 ((dkNg (I0 13) (I0 12 1) 0 2 ((dkSg (I0 13) (I0 12 1) 44 ((dkNg (I0 13) (I0 12 1) 0 9 ((dkSg (I0 13) (I0 12 1) 44 ((dkNg (I0 13) (I0 12 1) 0 ((I0 14 0) - (1 : Int32)) ((dkSg (I0 13) (I0 12 1) 109 (I0 12 2)).2)).2)).2)).2)).2)).2)).1 = 0 ∧ (5 : Int) + 0 ≤ (I0 14 4).toInt ∧ r = 1 ∧ I1 12 2 = (dkSg (I0 13) (I0 12 1) 59 ((dkNg (I0 13) (I0 12 1) 0 2 ((dkSg (I0 13) (I0 12 1) 44 ((dkNg (I0 13) (I0 12 1) 0 9 ((dkSg (I0 13) (I0 12 1) 44 ((dkNg (I0 13) (I0 12 1) 0 ((I0 14 0) - (1 : Int32)) ((dkSg (I0 13) (I0 12 1) 109 (I0 12 2)).2)).2)).2)).2)).2)).2)).2 ∧ I1 12 5 = I0 12 5 ∧ I1 14 0 = I0 14 0 ∧ I1 14 4 = I0 14 4 ∧ I1 14 11 = I0 14 11 ∧ True) ∨ (dkN [(0, 0)] r ∧ dkN [(1, 90)] (I1 12 1) ∧ dkN [(3, 9)] (I1 14 0) ∧ dkN [(0, 4)] (I1 14 4) ∧ (dkSg (I0 13) (I0 12 1) 109 (I0 12 2)).1 = 0 ∧ ((I0 14 0) - (1 : Int32)).toInt = (I0 14 0).toInt - (1 : Int) ∧ (dkNg (I0 13) (I0 12 1) 0 ((I0 14 0) - (1 : Int32)) ((dkSg (I0 13) (I0 12 1) 109 (I0 12 2)).2)).1 = 0 ∧ (dkNn (I0 13) (I0 12 1) ((dkSg (I0 13) (I0 12 1) 109 (I0 12 2)).2)).toInt ≠ (-1000000 : Int) ∧ (dkSg (I0 13) (I0 12 1) 44 ((dkNg (I0 13) (I0 12 1) 0 ((I0 14 0) - (1 : Int32)) ((dkSg (I0 13) (I0 12 1) 109 (I0 12 2)).2)).2)).1 = 0 ∧ (dkNg (I0 13) (I0 12 1) 0 9 ((dkSg (I0 13) (I0 12 1) 44 ((dkNg (I0 13) (I0 12 1) 0 ((I0 14 0) - (1 : Int32)) ((dkSg (I0 13) (I0 12 1) 109 (I0 12 2)).2)).2)).2)).1 = 0 ∧ (dkNn (I0 13) (I0 12 1) ((dkSg (I0 13) (I0 12 1) 44 ((dkNg (I0 13) (I0 12 1) 0 ((I0 14 0) - (1 : Int32)) ((dkSg (I0 13) (I0 12 1) 109 (I0 12 2)).2)).2)).2)).toInt ≠ (-1000000 : Int) ∧ (dkSg (I0 13) (I0 12 1) 44 ((dkNg (I0 13) (I0 12 1) 0 9 ((dkSg (I0 13) (I0 12 1) 44 ((dkNg (I0 13) (I0 12 1) 0 ((I0 14 0) - (1 : Int32)) ((dkSg (I0 13) (I0 12 1) 109 (I0 12 2)).2)).2)).2)).2)).1 = 0 ∧ (dkNg (I0 13) (I0 12 1) 0 2 ((dkSg (I0 13) (I0 12 1) 44 ((dkNg (I0 13) (I0 12 1) 0 9 ((dkSg (I0 13) (I0 12 1) 44 ((dkNg (I0 13) (I0 12 1) 0 ((I0 14 0) - (1 : Int32)) ((dkSg (I0 13) (I0 12 1) 109 (I0 12 2)).2)).2)).2)).2)).2)).1 = 0 ∧ (dkNn (I0 13) (I0 12 1) ((dkSg (I0 13) (I0 12 1) 44 ((dkNg (I0 13) (I0 12 1) 0 9 ((dkSg (I0 13) (I0 12 1) 44 ((dkNg (I0 13) (I0 12 1) 0 ((I0 14 0) - (1 : Int32)) ((dkSg (I0 13) (I0 12 1) 109 (I0 12 2)).2)).2)).2)).2)).2)).toInt ≠ (-1000000 : Int) ∧ (dkSg (I0 13) (I0 12 1) 59 ((dkNg (I0 13) (I0 12 1) 0 2 ((dkSg (I0 13) (I0 12 1) 44 ((dkNg (I0 13) (I0 12 1) 0 9 ((dkSg (I0 13) (I0 12 1) 44 ((dkNg (I0 13) (I0 12 1) 0 ((I0 14 0) - (1 : Int32)) ((dkSg (I0 13) (I0 12 1) 109 (I0 12 2)).2)).2)).2)).2)).2)).2)).1 ≠ 0 ∧ r = 0 ∧ I1 12 4 = (dkSg (I0 13) (I0 12 1) 59 ((dkNg (I0 13) (I0 12 1) 0 2 ((dkSg (I0 13) (I0 12 1) 44 ((dkNg (I0 13) (I0 12 1) 0 9 ((dkSg (I0 13) (I0 12 1) 44 ((dkNg (I0 13) (I0 12 1) 0 ((I0 14 0) - (1 : Int32)) ((dkSg (I0 13) (I0 12 1) 109 (I0 12 2)).2)).2)).2)).2)).2)).2)).2 ∧ I1 12 5 = (dkSg (I0 13) (I0 12 1) 59 ((dkNg (I0 13) (I0 12 1) 0 2 ((dkSg (I0 13) (I0 12 1) 44 ((dkNg (I0 13) (I0 12 1) 0 9 ((dkSg (I0 13) (I0 12 1) 44 ((dkNg (I0 13) (I0 12 1) 0 ((I0 14 0) - (1 : Int32)) ((dkSg (I0 13) (I0 12 1) 109 (I0 12 2)).2)).2)).2)).2)).2)).2)).1 ∧ I1 14 0 = I0 14 0 ∧ I1 14 4 = I0 14 4 ∧ I1 14 11 = I0 14 11 ∧ True) ∨ (dkN [(0, 0)] r ∧ dkN [(1, 90)] (I1 12 1) ∧ dkN [(3, 9)] (I1 14 0) ∧ dkN [(0, 4)] (I1 14 4) ∧ (dkSg (I0 13) (I0 12 1) 109 (I0 12 2)).1 = 0 ∧ ((I0 14 0) - (1 : Int32)).toInt = (I0 14 0).toInt - (1 : Int) ∧ (dkNg (I0 13) (I0 12 1) 0 ((I0 14 0) - (1 : Int32)) ((dkSg (I0 13) (I0 12 1) 109 (I0 12 2)).2)).1 = 0 ∧ (dkNn (I0 13) (I0 12 1) ((dkSg (I0 13) (I0 12 1) 109 (I0 12 2)).2)).toInt ≠ (-1000000 : Int) ∧ (dkSg (I0 13) (I0 12 1) 44 ((dkNg (I0 13) (I0 12 1) 0 ((I0 14 0) - (1 : Int32)) ((dkSg (I0 13) (I0 12 1) 109 (I0 12 2)).2)).2)).1 = 0 ∧ (dkNg (I0 13) (I0 12 1) 0 9 ((dkSg (I0 13) (I0 12 1) 44 ((dkNg (I0 13) (I0 12 1) 0 ((I0 14 0) - (1 : Int32)) ((dkSg (I0 13) (I0 12 1) 109 (I0 12 2)).2)).2)).2)).1 = 0 ∧ (dkNn (I0 13) (I0 12 1) ((dkSg (I0 13) (I0 12 1) 44 ((dkNg (I0 13) (I0 12 1) 0 ((I0 14 0) - (1 : Int32)) ((dkSg (I0 13) (I0 12 1) 109 (I0 12 2)).2)).2)).2)).toInt ≠ (-1000000 : Int) ∧ (dkSg (I0 13) (I0 12 1) 44 ((dkNg (I0 13) (I0 12 1) 0 9 ((dkSg (I0 13) (I0 12 1) 44 ((dkNg (I0 13) (I0 12 1) 0 ((I0 14 0) - (1 : Int32)) ((dkSg (I0 13) (I0 12 1) 109 (I0 12 2)).2)).2)).2)).2)).1 = 0 ∧ (dkNg (I0 13) (I0 12 1) 0 2 ((dkSg (I0 13) (I0 12 1) 44 ((dkNg (I0 13) (I0 12 1) 0 9 ((dkSg (I0 13) (I0 12 1) 44 ((dkNg (I0 13) (I0 12 1) 0 ((I0 14 0) - (1 : Int32)) ((dkSg (I0 13) (I0 12 1) 109 (I0 12 2)).2)).2)).2)).2)).2)).1 ≠ 0 ∧ r = 0 ∧ I1 12 4 = (dkNg (I0 13) (I0 12 1) 0 2 ((dkSg (I0 13) (I0 12 1) 44 ((dkNg (I0 13) (I0 12 1) 0 9 ((dkSg (I0 13) (I0 12 1) 44 ((dkNg (I0 13) (I0 12 1) 0 ((I0 14 0) - (1 : Int32)) ((dkSg (I0 13) (I0 12 1) 109 (I0 12 2)).2)).2)).2)).2)).2)).2 ∧ I1 12 5 = (dkNg (I0 13) (I0 12 1) 0 2 ((dkSg (I0 13) (I0 12 1) 44 ((dkNg (I0 13) (I0 12 1) 0 9 ((dkSg (I0 13) (I0 12 1) 44 ((dkNg (I0 13) (I0 12 1) 0 ((I0 14 0) - (1 : Int32)) ((dkSg (I0 13) (I0 12 1) 109 (I0 12 2)).2)).2)).2)).2)).2)).1 ∧ I1 14 0 = I0 14 0 ∧ I1 14 4 = I0 14 4 ∧ I1 14 11 = I0 14 11 ∧ True) ∨ (dkN [(0, 0)] r ∧ dkN [(1, 90)] (I1 12 1) ∧ dkN [(3, 9)] (I1 14 0) ∧ dkN [(0, 4)] (I1 14 4) ∧ (dkSg (I0 13) (I0 12 1) 109 (I0 12 2)).1 = 0 ∧ ((I0 14 0) - (1 : Int32)).toInt = (I0 14 0).toInt - (1 : Int) ∧ (dkNg (I0 13) (I0 12 1) 0 ((I0 14 0) - (1 : Int32)) ((dkSg (I0 13) (I0 12 1) 109 (I0 12 2)).2)).1 = 0 ∧ (dkNn (I0 13) (I0 12 1) ((dkSg (I0 13) (I0 12 1) 109 (I0 12 2)).2)).toInt ≠ (-1000000 : Int) ∧ (dkSg (I0 13) (I0 12 1) 44 ((dkNg (I0 13) (I0 12 1) 0 ((I0 14 0) - (1 : Int32)) ((dkSg (I0 13) (I0 12 1) 109 (I0 12 2)).2)).2)).1 = 0 ∧ (dkNg (I0 13) (I0 12 1) 0 9 ((dkSg (I0 13) (I0 12 1) 44 ((dkNg (I0 13) (I0 12 1) 0 ((I0 14 0) - (1 : Int32)) ((dkSg (I0 13) (I0 12 1) 109 (I0 12 2)).2)).2)).2)).1 = 0 ∧ (dkNn (I0 13) (I0 12 1) ((dkSg (I0 13) (I0 12 1) 44 ((dkNg (I0 13) (I0 12 1) 0 ((I0 14 0) - (1 : Int32)) ((dkSg (I0 13) (I0 12 1) 109 (I0 12 2)).2)).2)).2)).toInt ≠ (-1000000 : Int) ∧ (dkSg (I0 13) (I0 12 1) 44 ((dkNg (I0 13) (I0 12 1) 0 9 ((dkSg (I0 13) (I0 12 1) 44 ((dkNg (I0 13) (I0 12 1) 0 ((I0 14 0) - (1 : Int32)) ((dkSg (I0 13) (I0 12 1) 109 (I0 12 2)).2)).2)).2)).2)).1 ≠ 0 ∧ r = 0 ∧ I1 12 4 = (dkSg (I0 13) (I0 12 1) 44 ((dkNg (I0 13) (I0 12 1) 0 9 ((dkSg (I0 13) (I0 12 1) 44 ((dkNg (I0 13) (I0 12 1) 0 ((I0 14 0) - (1 : Int32)) ((dkSg (I0 13) (I0 12 1) 109 (I0 12 2)).2)).2)).2)).2)).2 ∧ I1 12 5 = (dkSg (I0 13) (I0 12 1) 44 ((dkNg (I0 13) (I0 12 1) 0 9 ((dkSg (I0 13) (I0 12 1) 44 ((dkNg (I0 13) (I0 12 1) 0 ((I0 14 0) - (1 : Int32)) ((dkSg (I0 13) (I0 12 1) 109 (I0 12 2)).2)).2)).2)).2)).1 ∧ I1 14 0 = I0 14 0 ∧ I1 14 4 = I0 14 4 ∧ I1 14 11 = I0 14 11 ∧ True) ∨ (dkN [(0, 0)] r ∧ dkN [(1, 90)] (I1 12 1) ∧ dkN [(3, 9)] (I1 14 0) ∧ dkN [(0, 4)] (I1 14 4) ∧ (dkSg (I0 13) (I0 12 1) 109 (I0 12 2)).1 = 0 ∧ ((I0 14 0) - (1 : Int32)).toInt = (I0 14 0).toInt - (1 : Int) ∧ (dkNg (I0 13) (I0 12 1) 0 ((I0 14 0) - (1 : Int32)) ((dkSg (I0 13) (I0 12 1) 109 (I0 12 2)).2)).1 = 0 ∧ (dkNn (I0 13) (I0 12 1) ((dkSg (I0 13) (I0 12 1) 109 (I0 12 2)).2)).toInt ≠ (-1000000 : Int) ∧ (dkSg (I0 13) (I0 12 1) 44 ((dkNg (I0 13) (I0 12 1) 0 ((I0 14 0) - (1 : Int32)) ((dkSg (I0 13) (I0 12 1) 109 (I0 12 2)).2)).2)).1 = 0 ∧ (dkNg (I0 13) (I0 12 1) 0 9 ((dkSg (I0 13) (I0 12 1) 44 ((dkNg (I0 13) (I0 12 1) 0 ((I0 14 0) - (1 : Int32)) ((dkSg (I0 13) (I0 12 1) 109 (I0 12 2)).2)).2)).2)).1 ≠ 0 ∧ r = 0 ∧ I1 12 4 = (dkNg (I0 13) (I0 12 1) 0 9 ((dkSg (I0 13) (I0 12 1) 44 ((dkNg (I0 13) (I0 12 1) 0 ((I0 14 0) - (1 : Int32)) ((dkSg (I0 13) (I0 12 1) 109 (I0 12 2)).2)).2)).2)).2 ∧ I1 12 5 = (dkNg (I0 13) (I0 12 1) 0 9 ((dkSg (I0 13) (I0 12 1) 44 ((dkNg (I0 13) (I0 12 1) 0 ((I0 14 0) - (1 : Int32)) ((dkSg (I0 13) (I0 12 1) 109 (I0 12 2)).2)).2)).2)).1 ∧ I1 14 0 = I0 14 0 ∧ I1 14 4 = I0 14 4 ∧ I1 14 11 = I0 14 11 ∧ True) ∨ (dkN [(0, 0)] r ∧ dkN [(1, 90)] (I1 12 1) ∧ dkN [(3, 9)] (I1 14 0) ∧ dkN [(0, 4)] (I1 14 4) ∧ (dkSg (I0 13) (I0 12 1) 109 (I0 12 2)).1 = 0 ∧ ((I0 14 0) - (1 : Int32)).toInt = (I0 14 0).toInt - (1 : Int) ∧ (dkNg (I0 13) (I0 12 1) 0 ((I0 14 0) - (1 : Int32)) ((dkSg (I0 13) (I0 12 1) 109 (I0 12 2)).2)).1 = 0 ∧ (dkNn (I0 13) (I0 12 1) ((dkSg (I0 13) (I0 12 1) 109 (I0 12 2)).2)).toInt ≠ (-1000000 : Int) ∧ (dkSg (I0 13) (I0 12 1) 44 ((dkNg (I0 13) (I0 12 1) 0 ((I0 14 0) - (1 : Int32)) ((dkSg (I0 13) (I0 12 1) 109 (I0 12 2)).2)).2)).1 ≠ 0 ∧ r = 0 ∧ I1 12 4 = (dkSg (I0 13) (I0 12 1) 44 ((dkNg (I0 13) (I0 12 1) 0 ((I0 14 0) - (1 : Int32)) ((dkSg (I0 13) (I0 12 1) 109 (I0 12 2)).2)).2)).2 ∧ I1 12 5 = (dkSg (I0 13) (I0 12 1) 44 ((dkNg (I0 13) (I0 12 1) 0 ((I0 14 0) - (1 : Int32)) ((dkSg (I0 13) (I0 12 1) 109 (I0 12 2)).2)).2)).1 ∧ I1 14 0 = I0 14 0 ∧ I1 14 4 = I0 14 4 ∧ I1 14 11 = I0 14 11 ∧ True) ∨ (dkN [(0, 0)] r ∧ dkN [(1, 90)] (I1 12 1) ∧ dkN [(3, 9)] (I1 14 0) ∧ dkN [(0, 4)] (I1 14 4) ∧ (dkSg (I0 13) (I0 12 1) 109 (I0 12 2)).1 = 0 ∧ ((I0 14 0) - (1 : Int32)).toInt = (I0 14 0).toInt - (1 : Int) ∧ (dkNg (I0 13) (I0 12 1) 0 ((I0 14 0) - (1 : Int32)) ((dkSg (I0 13) (I0 12 1) 109 (I0 12 2)).2)).1 ≠ 0 ∧ r = 0 ∧ I1 12 4 = (dkNg (I0 13) (I0 12 1) 0 ((I0 14 0) - (1 : Int32)) ((dkSg (I0 13) (I0 12 1) 109 (I0 12 2)).2)).2 ∧ I1 12 5 = (dkNg (I0 13) (I0 12 1) 0 ((I0 14 0) - (1 : Int32)) ((dkSg (I0 13) (I0 12 1) 109 (I0 12 2)).2)).1 ∧ I1 14 0 = I0 14 0 ∧ I1 14 4 = I0 14 4 ∧ I1 14 11 = I0 14 11 ∧ True) ∨ (dkN [(0, 0)] r ∧ dkN [(3, 9)] (I1 14 0) ∧ dkN [(0, 4)] (I1 14 4) ∧ (dkSg (I0 13) (I0 12 1) 109 (I0 12 2)).1 ≠ 0 ∧ r = 0 ∧ I1 12 4 = (dkSg (I0 13) (I0 12 1) 109 (I0 12 2)).2 ∧ I1 12 5 = (dkSg (I0 13) (I0 12 1) 109 (I0 12 2)).1 ∧ I1 14 0 = I0 14 0 ∧ I1 14 4 = I0 14 4 ∧ I1 14 11 = I0 14 11 ∧ True)))) 0 0 (dkA z) := by
  refine Met.ofW (cc := cX2_readsPerson) (maxL := 4) (ret := (some .boolean)) (by decide) rfl ?_
  intro p e s m args below meth c s₁ B hml hv
  obtain ⟨ha, hW, hK, hT⟩ := hv
  have hx := B.exec
  have hb := B.bytes
  have hr := B.returns
  have hts := atoms_spec (ws := wsX2_readsPerson) B.pre
  have hown : s.vm.findClass RX2 = some m.cls := findClass_of_methodNamed B.named
  have hlocks := B.notSynchronized
  have hS : va_S (dkA z) s.heap s.heap [] := va_S.rf
  have hF : dkF [(12, 12, 2, 2), (12, 12, 4, 5), (14, 14, 4, 4), (15, 15, 0, 4), (16, 16, 0, 4), (17, 17, 0, 4), (18, 18, 0, 4), (19, 19, 0, 4), (20, 20, 0, 4)] I0 I0 := dkF_rf _ _
  have hl := lv_entry ([.ref (z + 12)]) (n := 4) (Nat.le_of_ble_eq_true rfl)
  have hgo : entryFrame m args 4 = entryFrame m ([.ref (z + 12)] : List Value).toArray 4 := by rw [ha]
  rw [hgo, lg_entry_eq]
  generalize (lg_sl ([.ref (z + 12)]) ++ List.replicate (4 - (lg_sl ([.ref (z + 12)])).length) Slot.unset).toArray = ls at hl ⊢
  have hl : lv_has ls 4 [(0, .ref (z + 12))] := hl
  refine lv_aload_n hx hb dX2_readsPerson_0 rfl (lv_at hl 0 rfl) ?_
  refine lv_bipush (v := 109) hx hb dX2_readsPerson_1 (by decide) ?_
  refine dk_Vi (As := [.int 109]) (rest := []) ⟨hx, hb, hml, hown, hts⟩ (h_X2_takes_3 l g z I0 109 (dkN_lit (x := 109) (109) rfl) hO) (cwV 1 hts gX2_readsPerson_X2_takes rfl rfl rfl (by decide +kernel) ⟨Nat.le_of_ble_eq_true rfl, Nat.le_of_ble_eq_true rfl⟩) (dk_at12 hW) rfl hK hT hW hS rfl hl.1 rfl (Nat.le_of_ble_eq_true rfl) dX2_readsPerson_3 ⟨Nat.zero_le _, Nat.zero_le _⟩ (fun v1 I1 H1 L1 hp1 hW hS => ?_)
  obtain ⟨hF1, hO, hc1⟩ := hp1
  have hF := dkF_call hF hF1 rfl
  rcases hc1 with ⟨dv1, f1_12_1, f1_12_2, x1_0, xr1, xh1_0, xh1_1, -⟩ | hc1
  ·
    have q2 : (dkSg (I0 13) (I0 12 1) 109 (I0 12 2)).1 = 0 := x1_0
    have y3 : I1 12 2 = (dkSg (I0 13) (I0 12 1) 109 (I0 12 2)).2 := by have h := xh1_0; exact h
    have y4 : I1 12 5 = I0 12 5 := by have h := xh1_1; exact h
    have xv1 : v1 = 1 := by have h := xr1; exact h
    refine lv_if_ne (tgt := 11) hx hb dX2_readsPerson_6 (by decide) (fun c5 => ?_) (fun c5 => ?_)
    ·
      refine lv_aload_n hx hb dX2_readsPerson_11 rfl (lv_at hl 0 rfl) ?_
      refine lv_iconst (v := 0) hx hb dX2_readsPerson_12 (by decide) ?_
      refine lv_aload_n hx hb dX2_readsPerson_13 rfl (lv_at hl 0 rfl) ?_
      refine dk_get (k := 12) hx hb hts iX2_readsPerson_2 hown hK (dk_at12 hW) rfl 3 (by decide) (hts (.fieldLink RX2 18 "DogKings$Reader" "draft" "LDogKings$Town;") (List.mem_of_getElem? (i := 1) rfl)) rfl dX2_readsPerson_14 ?_
      refine dk_get (k := 14) hx hb hts iX2_readsPerson_4 hown hK (dk_at14 hW) rfl 0 (by decide) (hts (.fieldLink RX2 68 "DogKings$Town" "places" "I") (List.mem_of_getElem? (i := 2) rfl)) rfl dX2_readsPerson_17 ?_
      refine lv_topi (fun v6 ev6 => ?_)
      have dv6 : dkN [(3, 9)] v6 := by rw [ev6]; exact (by rw [hF1 14 0 rfl]; exact np0)
      have xv6 : v6 = I0 14 0 := ev6.trans ((hF1 14 0 rfl).trans rfl)
      refine lv_iconst (v := 1) hx hb dX2_readsPerson_20 (by decide) ?_
      refine lv_isub hx hb dX2_readsPerson_21 ?_
      refine lv_topi (fun v7 ev7 => ?_)
      have dv7 : dkN [(2, 8)] v7 := by rw [ev7]; exact dkN_subt dv6 (dkN_lit (x := 1) (1) rfl) rfl
      have xv7 : v7 = (I0 14 0) - (1 : Int32) := by rw [ev7, xv6]
      have q8 : ((I0 14 0) - (1 : Int32)).toInt = (I0 14 0).toInt - (1 : Int) := by first | (rw [← xv7, ← xv6]; exact (by rw [ev7]; exact dk_subE dv6 (dkN_lit (x := 1) (1) rfl) rfl)) | (subst xv7 xv6; exact (by rw [ev7]; exact dk_subE dv6 (dkN_lit (x := 1) (1) rfl) rfl))
      refine dk_Vi (As := [.int 0, .int v7]) (rest := []) ⟨hx, hb, hml, hown, hts⟩ (h_X2_number_2 l g z I1 0 v7 (dkN_lit (x := 0) (0) rfl) dv7 hO) (cwV 2 hts gX2_readsPerson_X2_number rfl rfl rfl (by decide +kernel) ⟨Nat.le_of_ble_eq_true rfl, Nat.le_of_ble_eq_true rfl⟩) (dk_at12 hW) rfl hK hT hW hS rfl hl.1 rfl (Nat.le_of_ble_eq_true rfl) dX2_readsPerson_22 ⟨Nat.zero_le _, Nat.zero_le _⟩ (fun v9 I9 H9 L9 hp9 hW hS => ?_)
      obtain ⟨hF9, hO, hc9⟩ := hp9
      have hF := dkF_call hF hF9 rfl
      rcases hc9 with ⟨dv9, f9_12_1, f9_12_2, x9_0, xr9, xh9_0, xh9_1, -⟩ | hc9
      ·
        have w10 : I1 13 = I0 13 := ((funext fun j => hF1 13 j (dkNin_k rfl (dkNin_k rfl dkNin_nil))).trans rfl)
        have w11 : I1 12 1 = I0 12 1 := ((hF1 12 1 rfl).trans rfl)
        have w12 : I1 12 2 = (dkSg (I0 13) (I0 12 1) 109 (I0 12 2)).2 := y3
        have q13 : (dkNg (I0 13) (I0 12 1) 0 ((I0 14 0) - (1 : Int32)) ((dkSg (I0 13) (I0 12 1) 109 (I0 12 2)).2)).1 = 0 := by have h := x9_0; rw [w10, w11, w12, xv7] at h; exact h
        have y14 : I9 12 2 = (dkNg (I0 13) (I0 12 1) 0 ((I0 14 0) - (1 : Int32)) ((dkSg (I0 13) (I0 12 1) 109 (I0 12 2)).2)).2 := by have h := xh9_0; rw [w10, w11, w12, xv7] at h; exact h
        have w15 : I1 12 5 = I0 12 5 := y4
        have y16 : I9 12 5 = I0 12 5 := by have h := xh9_1; rw [w15] at h; exact h
        have xv9 : v9 = dkNn (I0 13) (I0 12 1) ((dkSg (I0 13) (I0 12 1) 109 (I0 12 2)).2) := by have h := xr9; rw [w10, w11, w12] at h; exact h
        refine lv_istore_n (lv' := [(1, .int v9), (0, .ref (z + 12))]) hx hb dX2_readsPerson_25 rfl hl (by decide) rfl (fun ls hl => ?_)
        refine lv_iload_n hx hb dX2_readsPerson_26 rfl (lv_at hl 0 rfl) ?_
        refine lv_ldc (v := (-1000000)) hx hb hown (hts (.constant RX2 50 (-1000000)) (List.mem_of_getElem? (i := 3) rfl)) dX2_readsPerson_27 ?_
        refine lv_icmp_eq (tgt := 41) hx hb dX2_readsPerson_29 (by decide) (fun c17 => ?_) (fun c17 => ?_)
        ·
          exact (dkN_nil (show dkN [] v9 from dkN_eq1 dv9 (dkN_lit (x := (-1000000)) (-1000000) rfl) (congrArg Int32.toInt c17) rfl)).elim
        ·
          have q18 : (dkNn (I0 13) (I0 12 1) ((dkSg (I0 13) (I0 12 1) 109 (I0 12 2)).2)).toInt ≠ (-1000000 : Int) := by first | (rw [← xv9]; exact (dk_ne c17)) | (subst xv9; exact (dk_ne c17))
          refine lv_aload_n hx hb dX2_readsPerson_32 rfl (lv_at hl 1 rfl) ?_
          refine lv_bipush (v := 44) hx hb dX2_readsPerson_33 (by decide) ?_
          refine dk_Vi (As := [.int 44]) (rest := []) ⟨hx, hb, hml, hown, hts⟩ (h_X2_takes_1 l g z I9 44 (dkN_lit (x := 44) (44) rfl) hO) (cwV 1 hts gX2_readsPerson_X2_takes rfl rfl rfl (by decide +kernel) ⟨Nat.le_of_ble_eq_true rfl, Nat.le_of_ble_eq_true rfl⟩) (dk_at12 hW) rfl hK hT hW hS rfl hl.1 rfl (Nat.le_of_ble_eq_true rfl) dX2_readsPerson_35 ⟨Nat.zero_le _, Nat.zero_le _⟩ (fun v19 I19 H19 L19 hp19 hW hS => ?_)
          obtain ⟨hF19, hO, hc19⟩ := hp19
          have hF := dkF_call hF hF19 rfl
          rcases hc19 with ⟨dv19, f19_12_1, f19_12_2, x19_0, xr19, xh19_0, xh19_1, -⟩ | hc19
          ·
            have w20 : I9 13 = I0 13 := ((funext fun j => hF9 13 j (dkNin_k rfl (dkNin_k rfl dkNin_nil))).trans ((funext fun j => hF1 13 j (dkNin_k rfl (dkNin_k rfl dkNin_nil))).trans rfl))
            have w21 : I9 12 1 = I0 12 1 := ((hF9 12 1 rfl).trans ((hF1 12 1 rfl).trans rfl))
            have w22 : I9 12 2 = (dkNg (I0 13) (I0 12 1) 0 ((I0 14 0) - (1 : Int32)) ((dkSg (I0 13) (I0 12 1) 109 (I0 12 2)).2)).2 := y14
            have q23 : (dkSg (I0 13) (I0 12 1) 44 ((dkNg (I0 13) (I0 12 1) 0 ((I0 14 0) - (1 : Int32)) ((dkSg (I0 13) (I0 12 1) 109 (I0 12 2)).2)).2)).1 = 0 := by have h := x19_0; rw [w20, w21, w22] at h; exact h
            have y24 : I19 12 2 = (dkSg (I0 13) (I0 12 1) 44 ((dkNg (I0 13) (I0 12 1) 0 ((I0 14 0) - (1 : Int32)) ((dkSg (I0 13) (I0 12 1) 109 (I0 12 2)).2)).2)).2 := by have h := xh19_0; rw [w20, w21, w22] at h; exact h
            have w25 : I9 12 5 = I0 12 5 := y16
            have y26 : I19 12 5 = I0 12 5 := by have h := xh19_1; rw [w25] at h; exact h
            have xv19 : v19 = 1 := by have h := xr19; exact h
            refine lv_if_ne (tgt := 43) hx hb dX2_readsPerson_38 (by decide) (fun c27 => ?_) (fun c27 => ?_)
            ·
              refine lv_aload_n hx hb dX2_readsPerson_43 rfl (lv_at hl 1 rfl) ?_
              refine lv_iconst (v := 0) hx hb dX2_readsPerson_44 (by decide) ?_
              refine lv_bipush (v := 9) hx hb dX2_readsPerson_45 (by decide) ?_
              refine dk_Vi (As := [.int 0, .int 9]) (rest := []) ⟨hx, hb, hml, hown, hts⟩ (h_X2_number_3 l g z I19 0 9 (dkN_lit (x := 0) (0) rfl) (dkN_lit (x := 9) (9) rfl) hO) (cwV 2 hts gX2_readsPerson_X2_number rfl rfl rfl (by decide +kernel) ⟨Nat.le_of_ble_eq_true rfl, Nat.le_of_ble_eq_true rfl⟩) (dk_at12 hW) rfl hK hT hW hS rfl hl.1 rfl (Nat.le_of_ble_eq_true rfl) dX2_readsPerson_47 ⟨Nat.zero_le _, Nat.zero_le _⟩ (fun v28 I28 H28 L28 hp28 hW hS => ?_)
              obtain ⟨hF28, hO, hc28⟩ := hp28
              have hF := dkF_call hF hF28 rfl
              rcases hc28 with ⟨dv28, f28_12_1, f28_12_2, x28_0, xr28, xh28_0, xh28_1, -⟩ | hc28
              ·
                have w29 : I19 13 = I0 13 := ((funext fun j => hF19 13 j (dkNin_k rfl (dkNin_k rfl dkNin_nil))).trans ((funext fun j => hF9 13 j (dkNin_k rfl (dkNin_k rfl dkNin_nil))).trans ((funext fun j => hF1 13 j (dkNin_k rfl (dkNin_k rfl dkNin_nil))).trans rfl)))
                have w30 : I19 12 1 = I0 12 1 := ((hF19 12 1 rfl).trans ((hF9 12 1 rfl).trans ((hF1 12 1 rfl).trans rfl)))
                have w31 : I19 12 2 = (dkSg (I0 13) (I0 12 1) 44 ((dkNg (I0 13) (I0 12 1) 0 ((I0 14 0) - (1 : Int32)) ((dkSg (I0 13) (I0 12 1) 109 (I0 12 2)).2)).2)).2 := y24
                have q32 : (dkNg (I0 13) (I0 12 1) 0 9 ((dkSg (I0 13) (I0 12 1) 44 ((dkNg (I0 13) (I0 12 1) 0 ((I0 14 0) - (1 : Int32)) ((dkSg (I0 13) (I0 12 1) 109 (I0 12 2)).2)).2)).2)).1 = 0 := by have h := x28_0; rw [w29, w30, w31] at h; exact h
                have y33 : I28 12 2 = (dkNg (I0 13) (I0 12 1) 0 9 ((dkSg (I0 13) (I0 12 1) 44 ((dkNg (I0 13) (I0 12 1) 0 ((I0 14 0) - (1 : Int32)) ((dkSg (I0 13) (I0 12 1) 109 (I0 12 2)).2)).2)).2)).2 := by have h := xh28_0; rw [w29, w30, w31] at h; exact h
                have w34 : I19 12 5 = I0 12 5 := y26
                have y35 : I28 12 5 = I0 12 5 := by have h := xh28_1; rw [w34] at h; exact h
                have xv28 : v28 = dkNn (I0 13) (I0 12 1) ((dkSg (I0 13) (I0 12 1) 44 ((dkNg (I0 13) (I0 12 1) 0 ((I0 14 0) - (1 : Int32)) ((dkSg (I0 13) (I0 12 1) 109 (I0 12 2)).2)).2)).2) := by have h := xr28; rw [w29, w30, w31] at h; exact h
                refine lv_istore_n (lv' := [(2, .int v28), (1, .int v9), (0, .ref (z + 12))]) hx hb dX2_readsPerson_50 rfl hl (by decide) rfl (fun ls hl => ?_)
                refine lv_iload_n hx hb dX2_readsPerson_51 rfl (lv_at hl 0 rfl) ?_
                refine lv_ldc (v := (-1000000)) hx hb hown (hts (.constant RX2 50 (-1000000)) (List.mem_of_getElem? (i := 3) rfl)) dX2_readsPerson_52 ?_
                refine lv_icmp_eq (tgt := 66) hx hb dX2_readsPerson_54 (by decide) (fun c36 => ?_) (fun c36 => ?_)
                ·
                  exact (dkN_nil (show dkN [] v28 from dkN_eq1 dv28 (dkN_lit (x := (-1000000)) (-1000000) rfl) (congrArg Int32.toInt c36) rfl)).elim
                ·
                  have q37 : (dkNn (I0 13) (I0 12 1) ((dkSg (I0 13) (I0 12 1) 44 ((dkNg (I0 13) (I0 12 1) 0 ((I0 14 0) - (1 : Int32)) ((dkSg (I0 13) (I0 12 1) 109 (I0 12 2)).2)).2)).2)).toInt ≠ (-1000000 : Int) := by first | (rw [← xv28]; exact (dk_ne c36)) | (subst xv28; exact (dk_ne c36))
                  refine lv_aload_n hx hb dX2_readsPerson_57 rfl (lv_at hl 2 rfl) ?_
                  refine lv_bipush (v := 44) hx hb dX2_readsPerson_58 (by decide) ?_
                  refine dk_Vi (As := [.int 44]) (rest := []) ⟨hx, hb, hml, hown, hts⟩ (h_X2_takes_1 l g z I28 44 (dkN_lit (x := 44) (44) rfl) hO) (cwV 1 hts gX2_readsPerson_X2_takes rfl rfl rfl (by decide +kernel) ⟨Nat.le_of_ble_eq_true rfl, Nat.le_of_ble_eq_true rfl⟩) (dk_at12 hW) rfl hK hT hW hS rfl hl.1 rfl (Nat.le_of_ble_eq_true rfl) dX2_readsPerson_60 ⟨Nat.zero_le _, Nat.zero_le _⟩ (fun v38 I38 H38 L38 hp38 hW hS => ?_)
                  obtain ⟨hF38, hO, hc38⟩ := hp38
                  have hF := dkF_call hF hF38 rfl
                  rcases hc38 with ⟨dv38, f38_12_1, f38_12_2, x38_0, xr38, xh38_0, xh38_1, -⟩ | hc38
                  ·
                    have w39 : I28 13 = I0 13 := ((funext fun j => hF28 13 j (dkNin_k rfl (dkNin_k rfl dkNin_nil))).trans ((funext fun j => hF19 13 j (dkNin_k rfl (dkNin_k rfl dkNin_nil))).trans ((funext fun j => hF9 13 j (dkNin_k rfl (dkNin_k rfl dkNin_nil))).trans ((funext fun j => hF1 13 j (dkNin_k rfl (dkNin_k rfl dkNin_nil))).trans rfl))))
                    have w40 : I28 12 1 = I0 12 1 := ((hF28 12 1 rfl).trans ((hF19 12 1 rfl).trans ((hF9 12 1 rfl).trans ((hF1 12 1 rfl).trans rfl))))
                    have w41 : I28 12 2 = (dkNg (I0 13) (I0 12 1) 0 9 ((dkSg (I0 13) (I0 12 1) 44 ((dkNg (I0 13) (I0 12 1) 0 ((I0 14 0) - (1 : Int32)) ((dkSg (I0 13) (I0 12 1) 109 (I0 12 2)).2)).2)).2)).2 := y33
                    have q42 : (dkSg (I0 13) (I0 12 1) 44 ((dkNg (I0 13) (I0 12 1) 0 9 ((dkSg (I0 13) (I0 12 1) 44 ((dkNg (I0 13) (I0 12 1) 0 ((I0 14 0) - (1 : Int32)) ((dkSg (I0 13) (I0 12 1) 109 (I0 12 2)).2)).2)).2)).2)).1 = 0 := by have h := x38_0; rw [w39, w40, w41] at h; exact h
                    have y43 : I38 12 2 = (dkSg (I0 13) (I0 12 1) 44 ((dkNg (I0 13) (I0 12 1) 0 9 ((dkSg (I0 13) (I0 12 1) 44 ((dkNg (I0 13) (I0 12 1) 0 ((I0 14 0) - (1 : Int32)) ((dkSg (I0 13) (I0 12 1) 109 (I0 12 2)).2)).2)).2)).2)).2 := by have h := xh38_0; rw [w39, w40, w41] at h; exact h
                    have w44 : I28 12 5 = I0 12 5 := y35
                    have y45 : I38 12 5 = I0 12 5 := by have h := xh38_1; rw [w44] at h; exact h
                    have xv38 : v38 = 1 := by have h := xr38; exact h
                    refine lv_if_ne (tgt := 68) hx hb dX2_readsPerson_63 (by decide) (fun c46 => ?_) (fun c46 => ?_)
                    ·
                      refine lv_aload_n hx hb dX2_readsPerson_68 rfl (lv_at hl 2 rfl) ?_
                      refine lv_iconst (v := 0) hx hb dX2_readsPerson_69 (by decide) ?_
                      refine lv_iconst (v := 2) hx hb dX2_readsPerson_70 (by decide) ?_
                      refine dk_Vi (As := [.int 0, .int 2]) (rest := []) ⟨hx, hb, hml, hown, hts⟩ (h_X2_number_4 l g z I38 0 2 (dkN_lit (x := 0) (0) rfl) (dkN_lit (x := 2) (2) rfl) hO) (cwV 2 hts gX2_readsPerson_X2_number rfl rfl rfl (by decide +kernel) ⟨Nat.le_of_ble_eq_true rfl, Nat.le_of_ble_eq_true rfl⟩) (dk_at12 hW) rfl hK hT hW hS rfl hl.1 rfl (Nat.le_of_ble_eq_true rfl) dX2_readsPerson_71 ⟨Nat.zero_le _, Nat.zero_le _⟩ (fun v47 I47 H47 L47 hp47 hW hS => ?_)
                      obtain ⟨hF47, hO, hc47⟩ := hp47
                      have hF := dkF_call hF hF47 rfl
                      rcases hc47 with ⟨dv47, f47_12_1, f47_12_2, x47_0, xr47, xh47_0, xh47_1, -⟩ | hc47
                      ·
                        have w48 : I38 13 = I0 13 := ((funext fun j => hF38 13 j (dkNin_k rfl (dkNin_k rfl dkNin_nil))).trans ((funext fun j => hF28 13 j (dkNin_k rfl (dkNin_k rfl dkNin_nil))).trans ((funext fun j => hF19 13 j (dkNin_k rfl (dkNin_k rfl dkNin_nil))).trans ((funext fun j => hF9 13 j (dkNin_k rfl (dkNin_k rfl dkNin_nil))).trans ((funext fun j => hF1 13 j (dkNin_k rfl (dkNin_k rfl dkNin_nil))).trans rfl)))))
                        have w49 : I38 12 1 = I0 12 1 := ((hF38 12 1 rfl).trans ((hF28 12 1 rfl).trans ((hF19 12 1 rfl).trans ((hF9 12 1 rfl).trans ((hF1 12 1 rfl).trans rfl)))))
                        have w50 : I38 12 2 = (dkSg (I0 13) (I0 12 1) 44 ((dkNg (I0 13) (I0 12 1) 0 9 ((dkSg (I0 13) (I0 12 1) 44 ((dkNg (I0 13) (I0 12 1) 0 ((I0 14 0) - (1 : Int32)) ((dkSg (I0 13) (I0 12 1) 109 (I0 12 2)).2)).2)).2)).2)).2 := y43
                        have q51 : (dkNg (I0 13) (I0 12 1) 0 2 ((dkSg (I0 13) (I0 12 1) 44 ((dkNg (I0 13) (I0 12 1) 0 9 ((dkSg (I0 13) (I0 12 1) 44 ((dkNg (I0 13) (I0 12 1) 0 ((I0 14 0) - (1 : Int32)) ((dkSg (I0 13) (I0 12 1) 109 (I0 12 2)).2)).2)).2)).2)).2)).1 = 0 := by have h := x47_0; rw [w48, w49, w50] at h; exact h
                        have y52 : I47 12 2 = (dkNg (I0 13) (I0 12 1) 0 2 ((dkSg (I0 13) (I0 12 1) 44 ((dkNg (I0 13) (I0 12 1) 0 9 ((dkSg (I0 13) (I0 12 1) 44 ((dkNg (I0 13) (I0 12 1) 0 ((I0 14 0) - (1 : Int32)) ((dkSg (I0 13) (I0 12 1) 109 (I0 12 2)).2)).2)).2)).2)).2)).2 := by have h := xh47_0; rw [w48, w49, w50] at h; exact h
                        have w53 : I38 12 5 = I0 12 5 := y45
                        have y54 : I47 12 5 = I0 12 5 := by have h := xh47_1; rw [w53] at h; exact h
                        have xv47 : v47 = dkNn (I0 13) (I0 12 1) ((dkSg (I0 13) (I0 12 1) 44 ((dkNg (I0 13) (I0 12 1) 0 9 ((dkSg (I0 13) (I0 12 1) 44 ((dkNg (I0 13) (I0 12 1) 0 ((I0 14 0) - (1 : Int32)) ((dkSg (I0 13) (I0 12 1) 109 (I0 12 2)).2)).2)).2)).2)).2) := by have h := xr47; rw [w48, w49, w50] at h; exact h
                        refine lv_istore_n (lv' := [(3, .int v47), (2, .int v28), (1, .int v9), (0, .ref (z + 12))]) hx hb dX2_readsPerson_74 rfl hl (by decide) rfl (fun ls hl => ?_)
                        refine lv_iload_n hx hb dX2_readsPerson_75 rfl (lv_at hl 0 rfl) ?_
                        refine lv_ldc (v := (-1000000)) hx hb hown (hts (.constant RX2 50 (-1000000)) (List.mem_of_getElem? (i := 3) rfl)) dX2_readsPerson_76 ?_
                        refine lv_icmp_eq (tgt := 90) hx hb dX2_readsPerson_78 (by decide) (fun c55 => ?_) (fun c55 => ?_)
                        ·
                          exact (dkN_nil (show dkN [] v47 from dkN_eq1 dv47 (dkN_lit (x := (-1000000)) (-1000000) rfl) (congrArg Int32.toInt c55) rfl)).elim
                        ·
                          have q56 : (dkNn (I0 13) (I0 12 1) ((dkSg (I0 13) (I0 12 1) 44 ((dkNg (I0 13) (I0 12 1) 0 9 ((dkSg (I0 13) (I0 12 1) 44 ((dkNg (I0 13) (I0 12 1) 0 ((I0 14 0) - (1 : Int32)) ((dkSg (I0 13) (I0 12 1) 109 (I0 12 2)).2)).2)).2)).2)).2)).toInt ≠ (-1000000 : Int) := by first | (rw [← xv47]; exact (dk_ne c55)) | (subst xv47; exact (dk_ne c55))
                          refine lv_aload_n hx hb dX2_readsPerson_81 rfl (lv_at hl 3 rfl) ?_
                          refine lv_bipush (v := 59) hx hb dX2_readsPerson_82 (by decide) ?_
                          refine dk_Vi (As := [.int 59]) (rest := []) ⟨hx, hb, hml, hown, hts⟩ (h_X2_takes_2 l g z I47 59 (dkN_lit (x := 59) (59) rfl) hO) (cwV 1 hts gX2_readsPerson_X2_takes rfl rfl rfl (by decide +kernel) ⟨Nat.le_of_ble_eq_true rfl, Nat.le_of_ble_eq_true rfl⟩) (dk_at12 hW) rfl hK hT hW hS rfl hl.1 rfl (Nat.le_of_ble_eq_true rfl) dX2_readsPerson_84 ⟨Nat.zero_le _, Nat.zero_le _⟩ (fun v57 I57 H57 L57 hp57 hW hS => ?_)
                          obtain ⟨hF57, hO, hc57⟩ := hp57
                          have hF := dkF_call hF hF57 rfl
                          rcases hc57 with ⟨dv57, f57_12_1, f57_12_2, x57_0, xr57, xh57_0, xh57_1, -⟩ | hc57
                          ·
                            have w58 : I47 13 = I0 13 := ((funext fun j => hF47 13 j (dkNin_k rfl (dkNin_k rfl dkNin_nil))).trans ((funext fun j => hF38 13 j (dkNin_k rfl (dkNin_k rfl dkNin_nil))).trans ((funext fun j => hF28 13 j (dkNin_k rfl (dkNin_k rfl dkNin_nil))).trans ((funext fun j => hF19 13 j (dkNin_k rfl (dkNin_k rfl dkNin_nil))).trans ((funext fun j => hF9 13 j (dkNin_k rfl (dkNin_k rfl dkNin_nil))).trans ((funext fun j => hF1 13 j (dkNin_k rfl (dkNin_k rfl dkNin_nil))).trans rfl))))))
                            have w59 : I47 12 1 = I0 12 1 := ((hF47 12 1 rfl).trans ((hF38 12 1 rfl).trans ((hF28 12 1 rfl).trans ((hF19 12 1 rfl).trans ((hF9 12 1 rfl).trans ((hF1 12 1 rfl).trans rfl))))))
                            have w60 : I47 12 2 = (dkNg (I0 13) (I0 12 1) 0 2 ((dkSg (I0 13) (I0 12 1) 44 ((dkNg (I0 13) (I0 12 1) 0 9 ((dkSg (I0 13) (I0 12 1) 44 ((dkNg (I0 13) (I0 12 1) 0 ((I0 14 0) - (1 : Int32)) ((dkSg (I0 13) (I0 12 1) 109 (I0 12 2)).2)).2)).2)).2)).2)).2 := y52
                            have q61 : (dkSg (I0 13) (I0 12 1) 59 ((dkNg (I0 13) (I0 12 1) 0 2 ((dkSg (I0 13) (I0 12 1) 44 ((dkNg (I0 13) (I0 12 1) 0 9 ((dkSg (I0 13) (I0 12 1) 44 ((dkNg (I0 13) (I0 12 1) 0 ((I0 14 0) - (1 : Int32)) ((dkSg (I0 13) (I0 12 1) 109 (I0 12 2)).2)).2)).2)).2)).2)).2)).1 = 0 := by have h := x57_0; rw [w58, w59, w60] at h; exact h
                            have y62 : I57 12 2 = (dkSg (I0 13) (I0 12 1) 59 ((dkNg (I0 13) (I0 12 1) 0 2 ((dkSg (I0 13) (I0 12 1) 44 ((dkNg (I0 13) (I0 12 1) 0 9 ((dkSg (I0 13) (I0 12 1) 44 ((dkNg (I0 13) (I0 12 1) 0 ((I0 14 0) - (1 : Int32)) ((dkSg (I0 13) (I0 12 1) 109 (I0 12 2)).2)).2)).2)).2)).2)).2)).2 := by have h := xh57_0; rw [w58, w59, w60] at h; exact h
                            have w63 : I47 12 5 = I0 12 5 := y54
                            have y64 : I57 12 5 = I0 12 5 := by have h := xh57_1; rw [w63] at h; exact h
                            have xv57 : v57 = 1 := by have h := xr57; exact h
                            refine lv_if_ne (tgt := 92) hx hb dX2_readsPerson_87 (by decide) (fun c65 => ?_) (fun c65 => ?_)
                            ·
                              refine lv_aload_n hx hb dX2_readsPerson_92 rfl (lv_at hl 3 rfl) ?_
                              refine dk_get (k := 12) hx hb hts iX2_readsPerson_2 hown hK (dk_at12 hW) rfl 3 (by decide) (hts (.fieldLink RX2 18 "DogKings$Reader" "draft" "LDogKings$Town;") (List.mem_of_getElem? (i := 1) rfl)) rfl dX2_readsPerson_93 ?_
                              refine lv_iload_n hx hb dX2_readsPerson_96 rfl (lv_at hl 2 rfl) ?_
                              refine lv_iload_n hx hb dX2_readsPerson_97 rfl (lv_at hl 1 rfl) ?_
                              refine lv_iload_n hx hb dX2_readsPerson_98 rfl (lv_at hl 0 rfl) ?_
                              refine dk_Vv (As := [.int v9, .int v28, .int v47]) (rest := []) ⟨hx, hb, hml, hown, hts⟩ (fx_X4_settle_1 l g z I57 (14) (by unfold dkT; omega) v9 v28 v47 dv9 dv28 dv47 hO) (cwV 3 hts gX2_readsPerson_X4_settle rfl rfl rfl (by decide +kernel) ⟨Nat.le_of_ble_eq_true rfl, Nat.le_of_ble_eq_true rfl⟩) (dk_at14 hW) rfl hK hT hW hS rfl hl.1 rfl (Nat.le_of_ble_eq_true rfl) dX2_readsPerson_99 ⟨Nat.zero_le _, Nat.zero_le _⟩ (fun I66 H66 L66 hp66 hW hS => ?_)
                              obtain ⟨hF66, hO, hc66⟩ := hp66
                              have hF := dkF_call hF hF66 rfl
                              rcases hc66 with ⟨f66_14_4, x66_0, x66_1, xh66_0, xh66_1, xh66_2, -⟩ | hc66
                              ·
                                have w67 : I57 14 4 = I0 14 4 := ((hF57 14 4 rfl).trans ((hF47 14 4 rfl).trans ((hF38 14 4 rfl).trans ((hF28 14 4 rfl).trans ((hF19 14 4 rfl).trans ((hF9 14 4 rfl).trans ((hF1 14 4 rfl).trans rfl)))))))
                                have q68 : (I0 14 4).toInt + 1 ≤ (5 : Int) := by have h := x66_0; rw [w67] at h; exact h
                                have q69 : ((I0 14 4) + (1 : Int32)).toInt = (I0 14 4).toInt + (1 : Int) := by have h := x66_1; rw [w67] at h; exact h
                                have w70 : I57 14 0 = I0 14 0 := ((hF57 14 0 rfl).trans ((hF47 14 0 rfl).trans ((hF38 14 0 rfl).trans ((hF28 14 0 rfl).trans ((hF19 14 0 rfl).trans ((hF9 14 0 rfl).trans ((hF1 14 0 rfl).trans rfl)))))))
                                have y71 : I66 14 0 = I0 14 0 := by have h := xh66_0; rw [w70] at h; exact h
                                have k72 : dkN [(1, 5)] (I66 14 4) := by rw [xh66_1]; exact dkN_add (by rw [hF57 14 4 rfl]; exact (by rw [hF47 14 4 rfl]; exact (by rw [hF38 14 4 rfl]; exact (by rw [hF28 14 4 rfl]; exact (by rw [hF19 14 4 rfl]; exact (by rw [hF9 14 4 rfl]; exact (by rw [hF1 14 4 rfl]; exact np1))))))) (dkN_lit (x := 1) (1) rfl) rfl
                                have y73 : I66 14 4 = (I0 14 4) + (1 : Int32) := by have h := xh66_1; rw [w67] at h; exact h
                                have w74 : I57 14 11 = I0 14 11 := ((hF57 14 11 rfl).trans ((hF47 14 11 rfl).trans ((hF38 14 11 rfl).trans ((hF28 14 11 rfl).trans ((hF19 14 11 rfl).trans ((hF9 14 11 rfl).trans ((hF1 14 11 rfl).trans rfl)))))))
                                have y75 : I66 14 11 = I0 14 11 := by have h := xh66_2; rw [w74] at h; exact h
                                refine lv_iconst (v := 1) hx hb dX2_readsPerson_102 (by decide) ?_
                                exact W.zret (v := 1) (ty := .boolean) hx hb hr rfl (fun t ht hW9 => ⟨⟨1, I66, rfl, ⟨hF, hO, Or.inl ⟨dkN_sub (dkN_lit (x := 1) (1) rfl) rfl, (show dkN [(1, 90)] (I66 12 1) from dkN_sub (by rw [hF66 12 1 rfl]; exact f57_12_1) rfl), (show dkN [(1, 90)] (I66 12 2) from dkN_sub (by rw [hF66 12 2 rfl]; exact f57_12_2) rfl), (show dkN [(3, 9)] (I66 14 0) from dkN_sub (by rw [hF66 14 0 rfl]; exact (by rw [hF57 14 0 rfl]; exact (by rw [hF47 14 0 rfl]; exact (by rw [hF38 14 0 rfl]; exact (by rw [hF28 14 0 rfl]; exact (by rw [hF19 14 0 rfl]; exact (by rw [hF9 14 0 rfl]; exact (by rw [hF1 14 0 rfl]; exact np0)))))))) rfl), (show dkN [(1, 5)] (I66 14 4) from dkN_sub k72 rfl), q2, q8, q13, q18, q23, q32, q37, q42, q51, q56, q61, q68, q69, rfl, ((hF66 12 2 rfl).trans y62), ((hF66 12 5 rfl).trans y64), y71, y73, y75, trivial⟩⟩, dkW_eq ht hW⟩, hS.F ht⟩) hS.2.2 dX2_readsPerson_103
                              ·
                                obtain ⟨f66_14_4, x66_0, xh66_0, xh66_1, xh66_2, -⟩ := hc66
                                have w76 : I57 14 4 = I0 14 4 := ((hF57 14 4 rfl).trans ((hF47 14 4 rfl).trans ((hF38 14 4 rfl).trans ((hF28 14 4 rfl).trans ((hF19 14 4 rfl).trans ((hF9 14 4 rfl).trans ((hF1 14 4 rfl).trans rfl)))))))
                                have q77 : (5 : Int) + 0 ≤ (I0 14 4).toInt := by have h := x66_0; rw [w76] at h; exact h
                                have w78 : I57 14 0 = I0 14 0 := ((hF57 14 0 rfl).trans ((hF47 14 0 rfl).trans ((hF38 14 0 rfl).trans ((hF28 14 0 rfl).trans ((hF19 14 0 rfl).trans ((hF9 14 0 rfl).trans ((hF1 14 0 rfl).trans rfl)))))))
                                have y79 : I66 14 0 = I0 14 0 := by have h := xh66_0; rw [w78] at h; exact h
                                have y80 : I66 14 4 = I0 14 4 := by have h := xh66_1; rw [w76] at h; exact h
                                have w81 : I57 14 11 = I0 14 11 := ((hF57 14 11 rfl).trans ((hF47 14 11 rfl).trans ((hF38 14 11 rfl).trans ((hF28 14 11 rfl).trans ((hF19 14 11 rfl).trans ((hF9 14 11 rfl).trans ((hF1 14 11 rfl).trans rfl)))))))
                                have y82 : I66 14 11 = I0 14 11 := by have h := xh66_2; rw [w81] at h; exact h
                                refine lv_iconst (v := 1) hx hb dX2_readsPerson_102 (by decide) ?_
                                exact W.zret (v := 1) (ty := .boolean) hx hb hr rfl (fun t ht hW9 => ⟨⟨1, I66, rfl, ⟨hF, hO, Or.inr (Or.inl ⟨dkN_sub (dkN_lit (x := 1) (1) rfl) rfl, (show dkN [(1, 90)] (I66 12 1) from dkN_sub (by rw [hF66 12 1 rfl]; exact f57_12_1) rfl), (show dkN [(1, 90)] (I66 12 2) from dkN_sub (by rw [hF66 12 2 rfl]; exact f57_12_2) rfl), (show dkN [(3, 9)] (I66 14 0) from dkN_sub (by rw [hF66 14 0 rfl]; exact (by rw [hF57 14 0 rfl]; exact (by rw [hF47 14 0 rfl]; exact (by rw [hF38 14 0 rfl]; exact (by rw [hF28 14 0 rfl]; exact (by rw [hF19 14 0 rfl]; exact (by rw [hF9 14 0 rfl]; exact (by rw [hF1 14 0 rfl]; exact np0)))))))) rfl), (show dkN [(5, 5)] (I66 14 4) from dkN_sub f66_14_4 rfl), q2, q8, q13, q18, q23, q32, q37, q42, q51, q56, q61, q77, rfl, ((hF66 12 2 rfl).trans y62), ((hF66 12 5 rfl).trans y64), y79, y80, y82, trivial⟩)⟩, dkW_eq ht hW⟩, hS.F ht⟩) hS.2.2 dX2_readsPerson_103
                            ·
                              exact (dkN_nil (show dkN [] v57 from dkN_eq1 dv57 (dkN_lit (x := 0) (0) rfl) (congrArg Int32.toInt c65) rfl)).elim
                          ·
                            obtain ⟨dv57, x57_0, xr57, xh57_0, xh57_1, -⟩ := hc57
                            have w83 : I47 13 = I0 13 := ((funext fun j => hF47 13 j (dkNin_k rfl (dkNin_k rfl dkNin_nil))).trans ((funext fun j => hF38 13 j (dkNin_k rfl (dkNin_k rfl dkNin_nil))).trans ((funext fun j => hF28 13 j (dkNin_k rfl (dkNin_k rfl dkNin_nil))).trans ((funext fun j => hF19 13 j (dkNin_k rfl (dkNin_k rfl dkNin_nil))).trans ((funext fun j => hF9 13 j (dkNin_k rfl (dkNin_k rfl dkNin_nil))).trans ((funext fun j => hF1 13 j (dkNin_k rfl (dkNin_k rfl dkNin_nil))).trans rfl))))))
                            have w84 : I47 12 1 = I0 12 1 := ((hF47 12 1 rfl).trans ((hF38 12 1 rfl).trans ((hF28 12 1 rfl).trans ((hF19 12 1 rfl).trans ((hF9 12 1 rfl).trans ((hF1 12 1 rfl).trans rfl))))))
                            have w85 : I47 12 2 = (dkNg (I0 13) (I0 12 1) 0 2 ((dkSg (I0 13) (I0 12 1) 44 ((dkNg (I0 13) (I0 12 1) 0 9 ((dkSg (I0 13) (I0 12 1) 44 ((dkNg (I0 13) (I0 12 1) 0 ((I0 14 0) - (1 : Int32)) ((dkSg (I0 13) (I0 12 1) 109 (I0 12 2)).2)).2)).2)).2)).2)).2 := y52
                            have q86 : (dkSg (I0 13) (I0 12 1) 59 ((dkNg (I0 13) (I0 12 1) 0 2 ((dkSg (I0 13) (I0 12 1) 44 ((dkNg (I0 13) (I0 12 1) 0 9 ((dkSg (I0 13) (I0 12 1) 44 ((dkNg (I0 13) (I0 12 1) 0 ((I0 14 0) - (1 : Int32)) ((dkSg (I0 13) (I0 12 1) 109 (I0 12 2)).2)).2)).2)).2)).2)).2)).1 ≠ 0 := by have h := x57_0; rw [w83, w84, w85] at h; exact h
                            have y87 : I57 12 4 = (dkSg (I0 13) (I0 12 1) 59 ((dkNg (I0 13) (I0 12 1) 0 2 ((dkSg (I0 13) (I0 12 1) 44 ((dkNg (I0 13) (I0 12 1) 0 9 ((dkSg (I0 13) (I0 12 1) 44 ((dkNg (I0 13) (I0 12 1) 0 ((I0 14 0) - (1 : Int32)) ((dkSg (I0 13) (I0 12 1) 109 (I0 12 2)).2)).2)).2)).2)).2)).2)).2 := by have h := xh57_0; rw [w83, w84, w85] at h; exact h
                            have y88 : I57 12 5 = (dkSg (I0 13) (I0 12 1) 59 ((dkNg (I0 13) (I0 12 1) 0 2 ((dkSg (I0 13) (I0 12 1) 44 ((dkNg (I0 13) (I0 12 1) 0 9 ((dkSg (I0 13) (I0 12 1) 44 ((dkNg (I0 13) (I0 12 1) 0 ((I0 14 0) - (1 : Int32)) ((dkSg (I0 13) (I0 12 1) 109 (I0 12 2)).2)).2)).2)).2)).2)).2)).1 := by have h := xh57_1; rw [w83, w84, w85] at h; exact h
                            have xv57 : v57 = 0 := by have h := xr57; exact h
                            refine lv_if_ne (tgt := 92) hx hb dX2_readsPerson_87 (by decide) (fun c89 => ?_) (fun c89 => ?_)
                            ·
                              exact absurd ((xv57).trans (rfl).symm) c89
                            ·
                              refine lv_iconst (v := 0) hx hb dX2_readsPerson_90 (by decide) ?_
                              exact W.zret (v := 0) (ty := .boolean) hx hb hr rfl (fun t ht hW9 => ⟨⟨0, I57, rfl, ⟨hF, hO, Or.inr (Or.inr (Or.inl ⟨dkN_sub (dkN_lit (x := 0) (0) rfl) rfl, (show dkN [(1, 90)] (I57 12 1) from dkN_sub (by rw [hF57 12 1 rfl]; exact f47_12_1) rfl), (show dkN [(3, 9)] (I57 14 0) from dkN_sub (by rw [hF57 14 0 rfl]; exact (by rw [hF47 14 0 rfl]; exact (by rw [hF38 14 0 rfl]; exact (by rw [hF28 14 0 rfl]; exact (by rw [hF19 14 0 rfl]; exact (by rw [hF9 14 0 rfl]; exact (by rw [hF1 14 0 rfl]; exact np0))))))) rfl), (show dkN [(0, 4)] (I57 14 4) from dkN_sub (by rw [hF57 14 4 rfl]; exact (by rw [hF47 14 4 rfl]; exact (by rw [hF38 14 4 rfl]; exact (by rw [hF28 14 4 rfl]; exact (by rw [hF19 14 4 rfl]; exact (by rw [hF9 14 4 rfl]; exact (by rw [hF1 14 4 rfl]; exact np1))))))) rfl), q2, q8, q13, q18, q23, q32, q37, q42, q51, q56, q86, rfl, y87, y88, ((hF57 14 0 rfl).trans ((hF47 14 0 rfl).trans ((hF38 14 0 rfl).trans ((hF28 14 0 rfl).trans ((hF19 14 0 rfl).trans ((hF9 14 0 rfl).trans ((hF1 14 0 rfl).trans rfl))))))), ((hF57 14 4 rfl).trans ((hF47 14 4 rfl).trans ((hF38 14 4 rfl).trans ((hF28 14 4 rfl).trans ((hF19 14 4 rfl).trans ((hF9 14 4 rfl).trans ((hF1 14 4 rfl).trans rfl))))))), ((hF57 14 11 rfl).trans ((hF47 14 11 rfl).trans ((hF38 14 11 rfl).trans ((hF28 14 11 rfl).trans ((hF19 14 11 rfl).trans ((hF9 14 11 rfl).trans ((hF1 14 11 rfl).trans rfl))))))), trivial⟩))⟩, dkW_eq ht hW⟩, hS.F ht⟩) hS.2.2 dX2_readsPerson_91
                      ·
                        obtain ⟨dv47, x47_0, xr47, xh47_0, xh47_1, -⟩ := hc47
                        have w90 : I38 13 = I0 13 := ((funext fun j => hF38 13 j (dkNin_k rfl (dkNin_k rfl dkNin_nil))).trans ((funext fun j => hF28 13 j (dkNin_k rfl (dkNin_k rfl dkNin_nil))).trans ((funext fun j => hF19 13 j (dkNin_k rfl (dkNin_k rfl dkNin_nil))).trans ((funext fun j => hF9 13 j (dkNin_k rfl (dkNin_k rfl dkNin_nil))).trans ((funext fun j => hF1 13 j (dkNin_k rfl (dkNin_k rfl dkNin_nil))).trans rfl)))))
                        have w91 : I38 12 1 = I0 12 1 := ((hF38 12 1 rfl).trans ((hF28 12 1 rfl).trans ((hF19 12 1 rfl).trans ((hF9 12 1 rfl).trans ((hF1 12 1 rfl).trans rfl)))))
                        have w92 : I38 12 2 = (dkSg (I0 13) (I0 12 1) 44 ((dkNg (I0 13) (I0 12 1) 0 9 ((dkSg (I0 13) (I0 12 1) 44 ((dkNg (I0 13) (I0 12 1) 0 ((I0 14 0) - (1 : Int32)) ((dkSg (I0 13) (I0 12 1) 109 (I0 12 2)).2)).2)).2)).2)).2 := y43
                        have q93 : (dkNg (I0 13) (I0 12 1) 0 2 ((dkSg (I0 13) (I0 12 1) 44 ((dkNg (I0 13) (I0 12 1) 0 9 ((dkSg (I0 13) (I0 12 1) 44 ((dkNg (I0 13) (I0 12 1) 0 ((I0 14 0) - (1 : Int32)) ((dkSg (I0 13) (I0 12 1) 109 (I0 12 2)).2)).2)).2)).2)).2)).1 ≠ 0 := by have h := x47_0; rw [w90, w91, w92] at h; exact h
                        have y94 : I47 12 4 = (dkNg (I0 13) (I0 12 1) 0 2 ((dkSg (I0 13) (I0 12 1) 44 ((dkNg (I0 13) (I0 12 1) 0 9 ((dkSg (I0 13) (I0 12 1) 44 ((dkNg (I0 13) (I0 12 1) 0 ((I0 14 0) - (1 : Int32)) ((dkSg (I0 13) (I0 12 1) 109 (I0 12 2)).2)).2)).2)).2)).2)).2 := by have h := xh47_0; rw [w90, w91, w92] at h; exact h
                        have y95 : I47 12 5 = (dkNg (I0 13) (I0 12 1) 0 2 ((dkSg (I0 13) (I0 12 1) 44 ((dkNg (I0 13) (I0 12 1) 0 9 ((dkSg (I0 13) (I0 12 1) 44 ((dkNg (I0 13) (I0 12 1) 0 ((I0 14 0) - (1 : Int32)) ((dkSg (I0 13) (I0 12 1) 109 (I0 12 2)).2)).2)).2)).2)).2)).1 := by have h := xh47_1; rw [w90, w91, w92] at h; exact h
                        have xv47 : v47 = (-1000000) := by have h := xr47; exact h
                        refine lv_istore_n (lv' := [(3, .int v47), (2, .int v28), (1, .int v9), (0, .ref (z + 12))]) hx hb dX2_readsPerson_74 rfl hl (by decide) rfl (fun ls hl => ?_)
                        refine lv_iload_n hx hb dX2_readsPerson_75 rfl (lv_at hl 0 rfl) ?_
                        refine lv_ldc (v := (-1000000)) hx hb hown (hts (.constant RX2 50 (-1000000)) (List.mem_of_getElem? (i := 3) rfl)) dX2_readsPerson_76 ?_
                        refine lv_icmp_eq (tgt := 90) hx hb dX2_readsPerson_78 (by decide) (fun c96 => ?_) (fun c96 => ?_)
                        ·
                          refine lv_iconst (v := 0) hx hb dX2_readsPerson_90 (by decide) ?_
                          exact W.zret (v := 0) (ty := .boolean) hx hb hr rfl (fun t ht hW9 => ⟨⟨0, I47, rfl, ⟨hF, hO, Or.inr (Or.inr (Or.inr (Or.inl ⟨dkN_sub (dkN_lit (x := 0) (0) rfl) rfl, (show dkN [(1, 90)] (I47 12 1) from dkN_sub (by rw [hF47 12 1 rfl]; exact f38_12_1) rfl), (show dkN [(3, 9)] (I47 14 0) from dkN_sub (by rw [hF47 14 0 rfl]; exact (by rw [hF38 14 0 rfl]; exact (by rw [hF28 14 0 rfl]; exact (by rw [hF19 14 0 rfl]; exact (by rw [hF9 14 0 rfl]; exact (by rw [hF1 14 0 rfl]; exact np0)))))) rfl), (show dkN [(0, 4)] (I47 14 4) from dkN_sub (by rw [hF47 14 4 rfl]; exact (by rw [hF38 14 4 rfl]; exact (by rw [hF28 14 4 rfl]; exact (by rw [hF19 14 4 rfl]; exact (by rw [hF9 14 4 rfl]; exact (by rw [hF1 14 4 rfl]; exact np1)))))) rfl), q2, q8, q13, q18, q23, q32, q37, q42, q93, rfl, y94, y95, ((hF47 14 0 rfl).trans ((hF38 14 0 rfl).trans ((hF28 14 0 rfl).trans ((hF19 14 0 rfl).trans ((hF9 14 0 rfl).trans ((hF1 14 0 rfl).trans rfl)))))), ((hF47 14 4 rfl).trans ((hF38 14 4 rfl).trans ((hF28 14 4 rfl).trans ((hF19 14 4 rfl).trans ((hF9 14 4 rfl).trans ((hF1 14 4 rfl).trans rfl)))))), ((hF47 14 11 rfl).trans ((hF38 14 11 rfl).trans ((hF28 14 11 rfl).trans ((hF19 14 11 rfl).trans ((hF9 14 11 rfl).trans ((hF1 14 11 rfl).trans rfl)))))), trivial⟩)))⟩, dkW_eq ht hW⟩, hS.F ht⟩) hS.2.2 dX2_readsPerson_91
                        ·
                          exact absurd ((xv47).trans (rfl).symm) c96
                    ·
                      exact (dkN_nil (show dkN [] v38 from dkN_eq1 dv38 (dkN_lit (x := 0) (0) rfl) (congrArg Int32.toInt c46) rfl)).elim
                  ·
                    obtain ⟨dv38, x38_0, xr38, xh38_0, xh38_1, -⟩ := hc38
                    have w97 : I28 13 = I0 13 := ((funext fun j => hF28 13 j (dkNin_k rfl (dkNin_k rfl dkNin_nil))).trans ((funext fun j => hF19 13 j (dkNin_k rfl (dkNin_k rfl dkNin_nil))).trans ((funext fun j => hF9 13 j (dkNin_k rfl (dkNin_k rfl dkNin_nil))).trans ((funext fun j => hF1 13 j (dkNin_k rfl (dkNin_k rfl dkNin_nil))).trans rfl))))
                    have w98 : I28 12 1 = I0 12 1 := ((hF28 12 1 rfl).trans ((hF19 12 1 rfl).trans ((hF9 12 1 rfl).trans ((hF1 12 1 rfl).trans rfl))))
                    have w99 : I28 12 2 = (dkNg (I0 13) (I0 12 1) 0 9 ((dkSg (I0 13) (I0 12 1) 44 ((dkNg (I0 13) (I0 12 1) 0 ((I0 14 0) - (1 : Int32)) ((dkSg (I0 13) (I0 12 1) 109 (I0 12 2)).2)).2)).2)).2 := y33
                    have q100 : (dkSg (I0 13) (I0 12 1) 44 ((dkNg (I0 13) (I0 12 1) 0 9 ((dkSg (I0 13) (I0 12 1) 44 ((dkNg (I0 13) (I0 12 1) 0 ((I0 14 0) - (1 : Int32)) ((dkSg (I0 13) (I0 12 1) 109 (I0 12 2)).2)).2)).2)).2)).1 ≠ 0 := by have h := x38_0; rw [w97, w98, w99] at h; exact h
                    have y101 : I38 12 4 = (dkSg (I0 13) (I0 12 1) 44 ((dkNg (I0 13) (I0 12 1) 0 9 ((dkSg (I0 13) (I0 12 1) 44 ((dkNg (I0 13) (I0 12 1) 0 ((I0 14 0) - (1 : Int32)) ((dkSg (I0 13) (I0 12 1) 109 (I0 12 2)).2)).2)).2)).2)).2 := by have h := xh38_0; rw [w97, w98, w99] at h; exact h
                    have y102 : I38 12 5 = (dkSg (I0 13) (I0 12 1) 44 ((dkNg (I0 13) (I0 12 1) 0 9 ((dkSg (I0 13) (I0 12 1) 44 ((dkNg (I0 13) (I0 12 1) 0 ((I0 14 0) - (1 : Int32)) ((dkSg (I0 13) (I0 12 1) 109 (I0 12 2)).2)).2)).2)).2)).1 := by have h := xh38_1; rw [w97, w98, w99] at h; exact h
                    have xv38 : v38 = 0 := by have h := xr38; exact h
                    refine lv_if_ne (tgt := 68) hx hb dX2_readsPerson_63 (by decide) (fun c103 => ?_) (fun c103 => ?_)
                    ·
                      exact absurd ((xv38).trans (rfl).symm) c103
                    ·
                      refine lv_iconst (v := 0) hx hb dX2_readsPerson_66 (by decide) ?_
                      exact W.zret (v := 0) (ty := .boolean) hx hb hr rfl (fun t ht hW9 => ⟨⟨0, I38, rfl, ⟨hF, hO, Or.inr (Or.inr (Or.inr (Or.inr (Or.inl ⟨dkN_sub (dkN_lit (x := 0) (0) rfl) rfl, (show dkN [(1, 90)] (I38 12 1) from dkN_sub (by rw [hF38 12 1 rfl]; exact f28_12_1) rfl), (show dkN [(3, 9)] (I38 14 0) from dkN_sub (by rw [hF38 14 0 rfl]; exact (by rw [hF28 14 0 rfl]; exact (by rw [hF19 14 0 rfl]; exact (by rw [hF9 14 0 rfl]; exact (by rw [hF1 14 0 rfl]; exact np0))))) rfl), (show dkN [(0, 4)] (I38 14 4) from dkN_sub (by rw [hF38 14 4 rfl]; exact (by rw [hF28 14 4 rfl]; exact (by rw [hF19 14 4 rfl]; exact (by rw [hF9 14 4 rfl]; exact (by rw [hF1 14 4 rfl]; exact np1))))) rfl), q2, q8, q13, q18, q23, q32, q37, q100, rfl, y101, y102, ((hF38 14 0 rfl).trans ((hF28 14 0 rfl).trans ((hF19 14 0 rfl).trans ((hF9 14 0 rfl).trans ((hF1 14 0 rfl).trans rfl))))), ((hF38 14 4 rfl).trans ((hF28 14 4 rfl).trans ((hF19 14 4 rfl).trans ((hF9 14 4 rfl).trans ((hF1 14 4 rfl).trans rfl))))), ((hF38 14 11 rfl).trans ((hF28 14 11 rfl).trans ((hF19 14 11 rfl).trans ((hF9 14 11 rfl).trans ((hF1 14 11 rfl).trans rfl))))), trivial⟩))))⟩, dkW_eq ht hW⟩, hS.F ht⟩) hS.2.2 dX2_readsPerson_67
              ·
                obtain ⟨dv28, x28_0, xr28, xh28_0, xh28_1, -⟩ := hc28
                have w104 : I19 13 = I0 13 := ((funext fun j => hF19 13 j (dkNin_k rfl (dkNin_k rfl dkNin_nil))).trans ((funext fun j => hF9 13 j (dkNin_k rfl (dkNin_k rfl dkNin_nil))).trans ((funext fun j => hF1 13 j (dkNin_k rfl (dkNin_k rfl dkNin_nil))).trans rfl)))
                have w105 : I19 12 1 = I0 12 1 := ((hF19 12 1 rfl).trans ((hF9 12 1 rfl).trans ((hF1 12 1 rfl).trans rfl)))
                have w106 : I19 12 2 = (dkSg (I0 13) (I0 12 1) 44 ((dkNg (I0 13) (I0 12 1) 0 ((I0 14 0) - (1 : Int32)) ((dkSg (I0 13) (I0 12 1) 109 (I0 12 2)).2)).2)).2 := y24
                have q107 : (dkNg (I0 13) (I0 12 1) 0 9 ((dkSg (I0 13) (I0 12 1) 44 ((dkNg (I0 13) (I0 12 1) 0 ((I0 14 0) - (1 : Int32)) ((dkSg (I0 13) (I0 12 1) 109 (I0 12 2)).2)).2)).2)).1 ≠ 0 := by have h := x28_0; rw [w104, w105, w106] at h; exact h
                have y108 : I28 12 4 = (dkNg (I0 13) (I0 12 1) 0 9 ((dkSg (I0 13) (I0 12 1) 44 ((dkNg (I0 13) (I0 12 1) 0 ((I0 14 0) - (1 : Int32)) ((dkSg (I0 13) (I0 12 1) 109 (I0 12 2)).2)).2)).2)).2 := by have h := xh28_0; rw [w104, w105, w106] at h; exact h
                have y109 : I28 12 5 = (dkNg (I0 13) (I0 12 1) 0 9 ((dkSg (I0 13) (I0 12 1) 44 ((dkNg (I0 13) (I0 12 1) 0 ((I0 14 0) - (1 : Int32)) ((dkSg (I0 13) (I0 12 1) 109 (I0 12 2)).2)).2)).2)).1 := by have h := xh28_1; rw [w104, w105, w106] at h; exact h
                have xv28 : v28 = (-1000000) := by have h := xr28; exact h
                refine lv_istore_n (lv' := [(2, .int v28), (1, .int v9), (0, .ref (z + 12))]) hx hb dX2_readsPerson_50 rfl hl (by decide) rfl (fun ls hl => ?_)
                refine lv_iload_n hx hb dX2_readsPerson_51 rfl (lv_at hl 0 rfl) ?_
                refine lv_ldc (v := (-1000000)) hx hb hown (hts (.constant RX2 50 (-1000000)) (List.mem_of_getElem? (i := 3) rfl)) dX2_readsPerson_52 ?_
                refine lv_icmp_eq (tgt := 66) hx hb dX2_readsPerson_54 (by decide) (fun c110 => ?_) (fun c110 => ?_)
                ·
                  refine lv_iconst (v := 0) hx hb dX2_readsPerson_66 (by decide) ?_
                  exact W.zret (v := 0) (ty := .boolean) hx hb hr rfl (fun t ht hW9 => ⟨⟨0, I28, rfl, ⟨hF, hO, Or.inr (Or.inr (Or.inr (Or.inr (Or.inr (Or.inl ⟨dkN_sub (dkN_lit (x := 0) (0) rfl) rfl, (show dkN [(1, 90)] (I28 12 1) from dkN_sub (by rw [hF28 12 1 rfl]; exact f19_12_1) rfl), (show dkN [(3, 9)] (I28 14 0) from dkN_sub (by rw [hF28 14 0 rfl]; exact (by rw [hF19 14 0 rfl]; exact (by rw [hF9 14 0 rfl]; exact (by rw [hF1 14 0 rfl]; exact np0)))) rfl), (show dkN [(0, 4)] (I28 14 4) from dkN_sub (by rw [hF28 14 4 rfl]; exact (by rw [hF19 14 4 rfl]; exact (by rw [hF9 14 4 rfl]; exact (by rw [hF1 14 4 rfl]; exact np1)))) rfl), q2, q8, q13, q18, q23, q107, rfl, y108, y109, ((hF28 14 0 rfl).trans ((hF19 14 0 rfl).trans ((hF9 14 0 rfl).trans ((hF1 14 0 rfl).trans rfl)))), ((hF28 14 4 rfl).trans ((hF19 14 4 rfl).trans ((hF9 14 4 rfl).trans ((hF1 14 4 rfl).trans rfl)))), ((hF28 14 11 rfl).trans ((hF19 14 11 rfl).trans ((hF9 14 11 rfl).trans ((hF1 14 11 rfl).trans rfl)))), trivial⟩)))))⟩, dkW_eq ht hW⟩, hS.F ht⟩) hS.2.2 dX2_readsPerson_67
                ·
                  exact absurd ((xv28).trans (rfl).symm) c110
            ·
              exact (dkN_nil (show dkN [] v19 from dkN_eq1 dv19 (dkN_lit (x := 0) (0) rfl) (congrArg Int32.toInt c27) rfl)).elim
          ·
            obtain ⟨dv19, x19_0, xr19, xh19_0, xh19_1, -⟩ := hc19
            have w111 : I9 13 = I0 13 := ((funext fun j => hF9 13 j (dkNin_k rfl (dkNin_k rfl dkNin_nil))).trans ((funext fun j => hF1 13 j (dkNin_k rfl (dkNin_k rfl dkNin_nil))).trans rfl))
            have w112 : I9 12 1 = I0 12 1 := ((hF9 12 1 rfl).trans ((hF1 12 1 rfl).trans rfl))
            have w113 : I9 12 2 = (dkNg (I0 13) (I0 12 1) 0 ((I0 14 0) - (1 : Int32)) ((dkSg (I0 13) (I0 12 1) 109 (I0 12 2)).2)).2 := y14
            have q114 : (dkSg (I0 13) (I0 12 1) 44 ((dkNg (I0 13) (I0 12 1) 0 ((I0 14 0) - (1 : Int32)) ((dkSg (I0 13) (I0 12 1) 109 (I0 12 2)).2)).2)).1 ≠ 0 := by have h := x19_0; rw [w111, w112, w113] at h; exact h
            have y115 : I19 12 4 = (dkSg (I0 13) (I0 12 1) 44 ((dkNg (I0 13) (I0 12 1) 0 ((I0 14 0) - (1 : Int32)) ((dkSg (I0 13) (I0 12 1) 109 (I0 12 2)).2)).2)).2 := by have h := xh19_0; rw [w111, w112, w113] at h; exact h
            have y116 : I19 12 5 = (dkSg (I0 13) (I0 12 1) 44 ((dkNg (I0 13) (I0 12 1) 0 ((I0 14 0) - (1 : Int32)) ((dkSg (I0 13) (I0 12 1) 109 (I0 12 2)).2)).2)).1 := by have h := xh19_1; rw [w111, w112, w113] at h; exact h
            have xv19 : v19 = 0 := by have h := xr19; exact h
            refine lv_if_ne (tgt := 43) hx hb dX2_readsPerson_38 (by decide) (fun c117 => ?_) (fun c117 => ?_)
            ·
              exact absurd ((xv19).trans (rfl).symm) c117
            ·
              refine lv_iconst (v := 0) hx hb dX2_readsPerson_41 (by decide) ?_
              exact W.zret (v := 0) (ty := .boolean) hx hb hr rfl (fun t ht hW9 => ⟨⟨0, I19, rfl, ⟨hF, hO, Or.inr (Or.inr (Or.inr (Or.inr (Or.inr (Or.inr (Or.inl ⟨dkN_sub (dkN_lit (x := 0) (0) rfl) rfl, (show dkN [(1, 90)] (I19 12 1) from dkN_sub (by rw [hF19 12 1 rfl]; exact f9_12_1) rfl), (show dkN [(3, 9)] (I19 14 0) from dkN_sub (by rw [hF19 14 0 rfl]; exact (by rw [hF9 14 0 rfl]; exact (by rw [hF1 14 0 rfl]; exact np0))) rfl), (show dkN [(0, 4)] (I19 14 4) from dkN_sub (by rw [hF19 14 4 rfl]; exact (by rw [hF9 14 4 rfl]; exact (by rw [hF1 14 4 rfl]; exact np1))) rfl), q2, q8, q13, q18, q114, rfl, y115, y116, ((hF19 14 0 rfl).trans ((hF9 14 0 rfl).trans ((hF1 14 0 rfl).trans rfl))), ((hF19 14 4 rfl).trans ((hF9 14 4 rfl).trans ((hF1 14 4 rfl).trans rfl))), ((hF19 14 11 rfl).trans ((hF9 14 11 rfl).trans ((hF1 14 11 rfl).trans rfl))), trivial⟩))))))⟩, dkW_eq ht hW⟩, hS.F ht⟩) hS.2.2 dX2_readsPerson_42
      ·
        obtain ⟨dv9, x9_0, xr9, xh9_0, xh9_1, -⟩ := hc9
        have w118 : I1 13 = I0 13 := ((funext fun j => hF1 13 j (dkNin_k rfl (dkNin_k rfl dkNin_nil))).trans rfl)
        have w119 : I1 12 1 = I0 12 1 := ((hF1 12 1 rfl).trans rfl)
        have w120 : I1 12 2 = (dkSg (I0 13) (I0 12 1) 109 (I0 12 2)).2 := y3
        have q121 : (dkNg (I0 13) (I0 12 1) 0 ((I0 14 0) - (1 : Int32)) ((dkSg (I0 13) (I0 12 1) 109 (I0 12 2)).2)).1 ≠ 0 := by have h := x9_0; rw [w118, w119, w120, xv7] at h; exact h
        have y122 : I9 12 4 = (dkNg (I0 13) (I0 12 1) 0 ((I0 14 0) - (1 : Int32)) ((dkSg (I0 13) (I0 12 1) 109 (I0 12 2)).2)).2 := by have h := xh9_0; rw [w118, w119, w120, xv7] at h; exact h
        have y123 : I9 12 5 = (dkNg (I0 13) (I0 12 1) 0 ((I0 14 0) - (1 : Int32)) ((dkSg (I0 13) (I0 12 1) 109 (I0 12 2)).2)).1 := by have h := xh9_1; rw [w118, w119, w120, xv7] at h; exact h
        have xv9 : v9 = (-1000000) := by have h := xr9; exact h
        refine lv_istore_n (lv' := [(1, .int v9), (0, .ref (z + 12))]) hx hb dX2_readsPerson_25 rfl hl (by decide) rfl (fun ls hl => ?_)
        refine lv_iload_n hx hb dX2_readsPerson_26 rfl (lv_at hl 0 rfl) ?_
        refine lv_ldc (v := (-1000000)) hx hb hown (hts (.constant RX2 50 (-1000000)) (List.mem_of_getElem? (i := 3) rfl)) dX2_readsPerson_27 ?_
        refine lv_icmp_eq (tgt := 41) hx hb dX2_readsPerson_29 (by decide) (fun c124 => ?_) (fun c124 => ?_)
        ·
          refine lv_iconst (v := 0) hx hb dX2_readsPerson_41 (by decide) ?_
          exact W.zret (v := 0) (ty := .boolean) hx hb hr rfl (fun t ht hW9 => ⟨⟨0, I9, rfl, ⟨hF, hO, Or.inr (Or.inr (Or.inr (Or.inr (Or.inr (Or.inr (Or.inr (Or.inl ⟨dkN_sub (dkN_lit (x := 0) (0) rfl) rfl, (show dkN [(1, 90)] (I9 12 1) from dkN_sub (by rw [hF9 12 1 rfl]; exact f1_12_1) rfl), (show dkN [(3, 9)] (I9 14 0) from dkN_sub (by rw [hF9 14 0 rfl]; exact (by rw [hF1 14 0 rfl]; exact np0)) rfl), (show dkN [(0, 4)] (I9 14 4) from dkN_sub (by rw [hF9 14 4 rfl]; exact (by rw [hF1 14 4 rfl]; exact np1)) rfl), q2, q8, q121, rfl, y122, y123, ((hF9 14 0 rfl).trans ((hF1 14 0 rfl).trans rfl)), ((hF9 14 4 rfl).trans ((hF1 14 4 rfl).trans rfl)), ((hF9 14 11 rfl).trans ((hF1 14 11 rfl).trans rfl)), trivial⟩)))))))⟩, dkW_eq ht hW⟩, hS.F ht⟩) hS.2.2 dX2_readsPerson_42
        ·
          exact absurd ((xv9).trans (rfl).symm) c124
    ·
      exact (dkN_nil (show dkN [] v1 from dkN_eq1 dv1 (dkN_lit (x := 0) (0) rfl) (congrArg Int32.toInt c5) rfl)).elim
  ·
    obtain ⟨dv1, x1_0, xr1, xh1_0, xh1_1, -⟩ := hc1
    have q125 : (dkSg (I0 13) (I0 12 1) 109 (I0 12 2)).1 ≠ 0 := x1_0
    have y126 : I1 12 4 = (dkSg (I0 13) (I0 12 1) 109 (I0 12 2)).2 := by have h := xh1_0; exact h
    have y127 : I1 12 5 = (dkSg (I0 13) (I0 12 1) 109 (I0 12 2)).1 := by have h := xh1_1; exact h
    have xv1 : v1 = 0 := by have h := xr1; exact h
    refine lv_if_ne (tgt := 11) hx hb dX2_readsPerson_6 (by decide) (fun c128 => ?_) (fun c128 => ?_)
    ·
      exact absurd ((xv1).trans (rfl).symm) c128
    ·
      refine lv_iconst (v := 0) hx hb dX2_readsPerson_9 (by decide) ?_
      exact W.zret (v := 0) (ty := .boolean) hx hb hr rfl (fun t ht hW9 => ⟨⟨0, I1, rfl, ⟨hF, hO, Or.inr (Or.inr (Or.inr (Or.inr (Or.inr (Or.inr (Or.inr (Or.inr (⟨dkN_sub (dkN_lit (x := 0) (0) rfl) rfl, (show dkN [(3, 9)] (I1 14 0) from dkN_sub (by rw [hF1 14 0 rfl]; exact np0) rfl), (show dkN [(0, 4)] (I1 14 4) from dkN_sub (by rw [hF1 14 4 rfl]; exact np1) rfl), q125, rfl, y126, y127, ((hF1 14 0 rfl).trans rfl), ((hF1 14 4 rfl).trans rfl), ((hF1 14 11 rfl).trans rfl), trivial⟩))))))))⟩, dkW_eq ht hW⟩, hS.F ht⟩) hS.2.2 dX2_readsPerson_10
set_option maxHeartbeats 4000000 in
set_option maxRecDepth 100000 in
theorem h_X2_readsPerson_0 (l : Launch) (g : dkG) (z : Nat) (I0 : dkI) (np0 : dkN [(3, 9)] (I0 14 0)) (np1 : dkN [(0, 4)] (I0 14 4)) (hO : dkOk I0) : Met l yX2_readsPerson wsX2_readsPerson (dkR 2) (dkPc g z [.ref (z + 12)] I0) (dkQi g z (fun r I1 => dkF [(12, 12, 2, 2), (12, 12, 4, 5), (14, 14, 4, 4), (15, 15, 0, 4), (16, 16, 0, 4), (17, 17, 0, 4), (18, 18, 0, 4), (19, 19, 0, 4), (20, 20, 0, 4)] I0 I1 ∧ dkOk I1 ∧ ((dkN [(1, 1)] r ∧ dkN [(1, 90)] (I1 12 1) ∧ dkN [(1, 90)] (I1 12 2) ∧ dkN [(3, 9)] (I1 14 0) ∧ dkN [(1, 5)] (I1 14 4) ∧ (dkMw (I0 13) (I0 12 1) (I0 14 0) (I0 12 2)).1 = 0 ∧ r = 1 ∧ I1 12 2 = (dkMw (I0 13) (I0 12 1) (I0 14 0) (I0 12 2)).2 ∧ I1 12 5 = I0 12 5 ∧ I1 14 0 = I0 14 0 ∧ I1 14 4 = I0 14 4 + 1 ∧ I1 14 11 = I0 14 11 ∧ True) ∨ (dkN [(0, 0)] r ∧ (dkMw (I0 13) (I0 12 1) (I0 14 0) (I0 12 2)).1 ≠ 0 ∧ r = 0 ∧ I1 12 4 = (dkMw (I0 13) (I0 12 1) (I0 14 0) (I0 12 2)).2 ∧ I1 12 5 = (dkMw (I0 13) (I0 12 1) (I0 14 0) (I0 12 2)).1 ∧ True)))) 0 0 (dkA z) := by
  refine dk_weakI (fx_X2_readsPerson_1 l g z I0 np0 np1 hO) (fun r I1 h => ?_)
  obtain ⟨hF, hO1, hc⟩ := h
  have k0 : (I0 14 0).toInt ≤ 9 := dkN_hi np0 rfl
  have k1 : (I0 14 4).toInt ≤ 4 := dkN_hi np1 rfl
  refine ⟨hF, hO1, ?_⟩
  rcases hc with ⟨d, G0, G1, G2, G3, u0, u1, u2, u3, u4, u5, u6, u7, u8, u9, u10, u11, u12, ER, H12_2, H12_5, H14_0, H14_4, H14_11, -⟩ | ⟨d, G0, G1, G2, G3, u0, u1, u2, u3, u4, u5, u6, u7, u8, u9, u10, u11, ER, H12_2, H12_5, H14_0, H14_4, H14_11, -⟩ | ⟨d, G0, G1, G2, u0, u1, u2, u3, u4, u5, u6, u7, u8, u9, u10, ER, H12_4, H12_5, H14_0, H14_4, H14_11, -⟩ | ⟨d, G0, G1, G2, u0, u1, u2, u3, u4, u5, u6, u7, u8, ER, H12_4, H12_5, H14_0, H14_4, H14_11, -⟩ | ⟨d, G0, G1, G2, u0, u1, u2, u3, u4, u5, u6, u7, ER, H12_4, H12_5, H14_0, H14_4, H14_11, -⟩ | ⟨d, G0, G1, G2, u0, u1, u2, u3, u4, u5, ER, H12_4, H12_5, H14_0, H14_4, H14_11, -⟩ | ⟨d, G0, G1, G2, u0, u1, u2, u3, u4, ER, H12_4, H12_5, H14_0, H14_4, H14_11, -⟩ | ⟨d, G0, G1, G2, u0, u1, u2, ER, H12_4, H12_5, H14_0, H14_4, H14_11, -⟩ | ⟨d, G0, G1, u0, ER, H12_4, H12_5, H14_0, H14_4, H14_11, -⟩
  ·
    first
    | (exfalso; omega)
    | (have e := (show dkMw (I0 13) (I0 12 1) (I0 14 0) (I0 12 2) = _ from ((dkTh_0 u0).trans ((dkTh_0 u2).trans ((dkTh_0 u4).trans ((dkTh_0 u5).trans ((dkTh_0 u7).trans (dkTh_0 u8))))))); exact Or.inl ⟨dkN_sub d rfl, dkN_sub G0 rfl, dkN_sub G1 rfl, dkN_sub G2 rfl, dkN_sub G3 rfl, ((congrArg Prod.fst e).trans u10), ER, (H12_2.trans (congrArg Prod.snd e).symm), H12_5, H14_0, H14_4, H14_11, trivial⟩)
  ·
    first
    | (exfalso; omega)
    | (have e := (show dkMw (I0 13) (I0 12 1) (I0 14 0) (I0 12 2) = _ from ((dkTh_0 u0).trans ((dkTh_0 u2).trans ((dkTh_0 u4).trans ((dkTh_0 u5).trans ((dkTh_0 u7).trans (dkTh_0 u8))))))); exact Or.inl ⟨dkN_sub d rfl, dkN_sub G0 rfl, dkN_sub G1 rfl, dkN_sub G2 rfl, dkN_sub G3 rfl, ((congrArg Prod.fst e).trans u10), ER, (H12_2.trans (congrArg Prod.snd e).symm), H12_5, H14_0, H14_4, H14_11, trivial⟩)
  ·
    first
    | (exfalso; omega)
    | (have e := (show dkMw (I0 13) (I0 12 1) (I0 14 0) (I0 12 2) = _ from ((dkTh_0 u0).trans ((dkTh_0 u2).trans ((dkTh_0 u4).trans ((dkTh_0 u5).trans ((dkTh_0 u7).trans (dkTh_0 u8))))))); exact Or.inr ⟨dkN_sub d rfl, (fun q => u10 ((congrArg Prod.fst e).symm.trans q)), ER, (H12_4.trans (congrArg Prod.snd e).symm), (H12_5.trans (congrArg Prod.fst e).symm), trivial⟩)
  ·
    first
    | (exfalso; omega)
    | (have e := (show dkMw (I0 13) (I0 12 1) (I0 14 0) (I0 12 2) = _ from ((dkTh_0 u0).trans ((dkTh_0 u2).trans ((dkTh_0 u4).trans ((dkTh_0 u5).trans ((dkTh_0 u7).trans (dkTh_n u8))))))); exact Or.inr ⟨dkN_sub d rfl, (fun q => u8 ((congrArg Prod.fst e).symm.trans q)), ER, (H12_4.trans (congrArg Prod.snd e).symm), (H12_5.trans (congrArg Prod.fst e).symm), trivial⟩)
  ·
    first
    | (exfalso; omega)
    | (have e := (show dkMw (I0 13) (I0 12 1) (I0 14 0) (I0 12 2) = _ from ((dkTh_0 u0).trans ((dkTh_0 u2).trans ((dkTh_0 u4).trans ((dkTh_0 u5).trans (dkTh_n u7)))))); exact Or.inr ⟨dkN_sub d rfl, (fun q => u7 ((congrArg Prod.fst e).symm.trans q)), ER, (H12_4.trans (congrArg Prod.snd e).symm), (H12_5.trans (congrArg Prod.fst e).symm), trivial⟩)
  ·
    first
    | (exfalso; omega)
    | (have e := (show dkMw (I0 13) (I0 12 1) (I0 14 0) (I0 12 2) = _ from ((dkTh_0 u0).trans ((dkTh_0 u2).trans ((dkTh_0 u4).trans (dkTh_n u5))))); exact Or.inr ⟨dkN_sub d rfl, (fun q => u5 ((congrArg Prod.fst e).symm.trans q)), ER, (H12_4.trans (congrArg Prod.snd e).symm), (H12_5.trans (congrArg Prod.fst e).symm), trivial⟩)
  ·
    first
    | (exfalso; omega)
    | (have e := (show dkMw (I0 13) (I0 12 1) (I0 14 0) (I0 12 2) = _ from ((dkTh_0 u0).trans ((dkTh_0 u2).trans (dkTh_n u4)))); exact Or.inr ⟨dkN_sub d rfl, (fun q => u4 ((congrArg Prod.fst e).symm.trans q)), ER, (H12_4.trans (congrArg Prod.snd e).symm), (H12_5.trans (congrArg Prod.fst e).symm), trivial⟩)
  ·
    first
    | (exfalso; omega)
    | (have e := (show dkMw (I0 13) (I0 12 1) (I0 14 0) (I0 12 2) = _ from ((dkTh_0 u0).trans (dkTh_n u2))); exact Or.inr ⟨dkN_sub d rfl, (fun q => u2 ((congrArg Prod.fst e).symm.trans q)), ER, (H12_4.trans (congrArg Prod.snd e).symm), (H12_5.trans (congrArg Prod.fst e).symm), trivial⟩)
  ·
    first
    | (exfalso; omega)
    | (have e := (show dkMw (I0 13) (I0 12 1) (I0 14 0) (I0 12 2) = _ from (dkTh_n u0)); exact Or.inr ⟨dkN_sub d rfl, (fun q => u0 ((congrArg Prod.fst e).symm.trans q)), ER, (H12_4.trans (congrArg Prod.snd e).symm), (H12_5.trans (congrArg Prod.fst e).symm), trivial⟩)
set_option maxHeartbeats 4000000 in
set_option maxRecDepth 100000 in
theorem fx_X2_meets_5 (l : Launch) (g : dkG) (z : Nat) (I0 : dkI) (p0 : Int32) (dp0 : dkN [(3, 3)] p0)  (hO : dkOk I0) : Met l yX2_meets wsX2_meets (dkR 0) (dkPc g z [.ref (z + 12), .int p0] I0) (dkQi g z (fun r I1 => dkF [(12, 12, 4, 5)] I0 I1 ∧ dkOk I1 ∧ ((dkN [(0, 0)] r ∧ dkN [(0, 90)] (I1 12 4) ∧ dkN [(3, 3)] (I1 12 5) ∧ r = 0 ∧ I1 12 2 = I0 12 2 ∧ I1 12 4 = I0 12 2 ∧ I1 12 5 = p0 ∧ True)))) 0 0 (dkA z) := by
  refine Met.ofW (cc := cX2_meets) (maxL := 2) (ret := (some .boolean)) (by decide) rfl ?_
  intro p e s m args below meth c s₁ B hml hv
  obtain ⟨ha, hW, hK, hT⟩ := hv
  have hx := B.exec
  have hb := B.bytes
  have hr := B.returns
  have hts := atoms_spec (ws := wsX2_meets) B.pre
  have hown : s.vm.findClass RX2 = some m.cls := findClass_of_methodNamed B.named
  have hlocks := B.notSynchronized
  have hS : va_S (dkA z) s.heap s.heap [] := va_S.rf
  have hF : dkF [(12, 12, 4, 5)] I0 I0 := dkF_rf _ _
  have hl := lv_entry ([.ref (z + 12), .int p0]) (n := 2) (Nat.le_of_ble_eq_true rfl)
  have hgo : entryFrame m args 2 = entryFrame m ([.ref (z + 12), .int p0] : List Value).toArray 2 := by rw [ha]
  rw [hgo, lg_entry_eq]
  generalize (lg_sl ([.ref (z + 12), .int p0]) ++ List.replicate (2 - (lg_sl ([.ref (z + 12), .int p0])).length) Slot.unset).toArray = ls at hl ⊢
  have hl : lv_has ls 2 [(0, .ref (z + 12)), (1, .int p0)] := hl
  refine lv_aload_n hx hb dX2_meets_0 rfl (lv_at hl 0 rfl) ?_
  refine lv_aload_n hx hb dX2_meets_1 rfl (lv_at hl 0 rfl) ?_
  refine dk_get (k := 12) hx hb hts iX2_meets_2 hown hK (dk_at12 hW) rfl 2 (by decide) (hts (.fieldLink RX2 30 "DogKings$Reader" "at" "I") (List.mem_of_getElem? (i := 1) rfl)) rfl dX2_meets_2 ?_
  refine lv_topi (fun v1 ev1 => ?_)
  have dv1 : dkN [(0, 90)] v1 := by rw [ev1]; exact (hO 12 2)
  have xv1 : v1 = I0 12 2 := ev1.trans rfl
  refine dk_put (k := 12) hx hb hts iX2_meets_2 tyX2 tyX2_ok nmX2 hown hK hW (dk_at12 hW) hS rfl 4 (by decide) (hts (.fieldLink RX2 88 "DogKings$Reader" "faultPlace" "I") (List.mem_of_getElem? (i := 2) rfl)) rfl rfl (Nat.le_of_ble_eq_true rfl) rfl dX2_meets_5 (fun I2 H2 L2 eI2 hW hS => ?_)
  have eI2 : I2 = dkU I0 12 4 v1 := eI2
  have hO := dkO_set hO eI2 (dkN_sub dv1 rfl)
  have hF := dkF_set hF eI2 rfl
  refine lv_aload_n hx hb dX2_meets_8 rfl (lv_at hl 0 rfl) ?_
  refine lv_iload_n hx hb dX2_meets_9 rfl (lv_at hl 1 rfl) ?_
  refine dk_put (k := 12) hx hb hts iX2_meets_2 tyX2 tyX2_ok nmX2 hown hK hW (dk_at12 hW) hS rfl 5 (by decide) (hts (.fieldLink RX2 91 "DogKings$Reader" "faultNumber" "I") (List.mem_of_getElem? (i := 3) rfl)) rfl rfl (Nat.le_of_ble_eq_true rfl) rfl dX2_meets_10 (fun I3 H3 L3 eI3 hW hS => ?_)
  have eI3 : I3 = dkU I2 12 5 p0 := eI3
  have hO := dkO_set hO eI3 (dkN_sub dp0 rfl)
  have hF := dkF_set hF eI3 rfl
  refine lv_iconst (v := 0) hx hb dX2_meets_13 (by decide) ?_
  exact W.zret (v := 0) (ty := .boolean) hx hb hr rfl (fun t ht hW9 => ⟨⟨0, I3, rfl, ⟨hF, hO, ⟨dkN_sub (dkN_lit (x := 0) (0) rfl) rfl, (show dkN [(0, 90)] (I3 12 4) from dkN_sub (by rw [eI3, dkU_sn (by decide)]; exact (by rw [eI2, dkU_ss]; exact dv1)) rfl), (show dkN [(3, 3)] (I3 12 5) from dkN_sub (by rw [eI3, dkU_ss]; exact dp0) rfl), rfl, ((by rw [eI3, dkU_sn (by decide)] : I3 12 2 = _).trans ((by rw [eI2, dkU_sn (by decide)] : I2 12 2 = _).trans rfl)), ((by rw [eI3, dkU_sn (by decide)] : I3 12 4 = _).trans (by rw [eI2, dkU_ss, xv1])), (by rw [eI3, dkU_ss]), trivial⟩⟩, dkW_eq ht hW⟩, hS.F ht⟩) hS.2.2 dX2_meets_14
set_option maxHeartbeats 4000000 in
set_option maxRecDepth 100000 in
theorem fx_X2_readsPeople_1 (l : Launch) (g : dkG) (z : Nat) (I0 : dkI) (np0 : dkN [(3, 9)] (I0 14 0)) (np1 : dkN [(0, 0)] (I0 14 4))  (hO : dkOk I0) : Met l yX2_readsPeople wsX2_readsPeople (dkR 3) (dkPc g z [.ref (z + 12)] I0) (dkQi g z (fun r I1 => dkF [(12, 12, 2, 2), (12, 12, 4, 5), (14, 14, 4, 4), (15, 15, 0, 4), (16, 16, 0, 4), (17, 17, 0, 4), (18, 18, 0, 4), (19, 19, 0, 4), (20, 20, 0, 4)] I0 I1 ∧ dkOk I1 ∧ ((dkN [(0, 0)] r ∧ dkN [(3, 9)] (I1 14 0) ∧ (dkPs (I0 13) (I0 12 1) (I0 14 0) (I0 12 2)).1 ≠ 0 ∧ r = 0 ∧ I1 12 4 = (dkPs (I0 13) (I0 12 1) (I0 14 0) (I0 12 2)).2 ∧ I1 12 5 = (dkPs (I0 13) (I0 12 1) (I0 14 0) (I0 12 2)).1 ∧ True) ∨ (dkN [(1, 1)] r ∧ dkN [(1, 90)] (I1 12 1) ∧ dkN [(3, 9)] (I1 14 0) ∧ dkN [(1, 5)] (I1 14 4) ∧ (dkPs (I0 13) (I0 12 1) (I0 14 0) (I0 12 2)).1 = 0 ∧ r = 1 ∧ I1 12 2 = (dkPs (I0 13) (I0 12 1) (I0 14 0) (I0 12 2)).2 ∧ I1 12 5 = I0 12 5 ∧ I1 14 0 = I0 14 0 ∧ I1 14 4 = dkPk (I0 13) (I0 12 1) (I0 14 0) 5 (I0 12 2) 0 ∧ I1 14 11 = I0 14 11 ∧ True)))) 0 0 (dkA z) := by
  refine Met.ofW (cc := cX2_readsPeople) (maxL := 2) (ret := (some .boolean)) (by decide) rfl ?_
  intro p e s m args below meth c s₁ B hml hv
  obtain ⟨ha, hW, hK, hT⟩ := hv
  have hx := B.exec
  have hb := B.bytes
  have hr := B.returns
  have hts := atoms_spec (ws := wsX2_readsPeople) B.pre
  have hown : s.vm.findClass RX2 = some m.cls := findClass_of_methodNamed B.named
  have hlocks := B.notSynchronized
  have hS : va_S (dkA z) s.heap s.heap [] := va_S.rf
  have hF : dkF [(12, 12, 2, 2), (12, 12, 4, 5), (14, 14, 4, 4), (15, 15, 0, 4), (16, 16, 0, 4), (17, 17, 0, 4), (18, 18, 0, 4), (19, 19, 0, 4), (20, 20, 0, 4)] I0 I0 := dkF_rf _ _
  have hl := lv_entry ([.ref (z + 12)]) (n := 2) (Nat.le_of_ble_eq_true rfl)
  have hgo : entryFrame m args 2 = entryFrame m ([.ref (z + 12)] : List Value).toArray 2 := by rw [ha]
  rw [hgo, lg_entry_eq]
  generalize (lg_sl ([.ref (z + 12)]) ++ List.replicate (2 - (lg_sl ([.ref (z + 12)])).length) Slot.unset).toArray = ls at hl ⊢
  have hl : lv_has ls 2 [(0, .ref (z + 12))] := hl
  have C11 : ∀ (n : Nat), ∀ (I : dkI) (H : Heap) (locs : List Loc) (ls : Array Slot) (x11_1 : Int32), (90 - x11_1.toInt).toNat < n → dkW g z I H → va_S (dkA z) s.heap H locs → dkF [(12, 12, 2, 2), (12, 12, 4, 5), (14, 14, 4, 4), (15, 15, 0, 4), (16, 16, 0, 4), (17, 17, 0, 4), (18, 18, 0, 4), (19, 19, 0, 4), (20, 20, 0, 4)] I0 I → dkOk I → dkN [(0, 90)] x11_1 → dkN [(1, 90)] (I 12 1) → dkN [(1, 90)] (I 12 2) → dkN [(3, 9)] (I 14 0) → dkN [(1, 5)] (I 14 4) → I 13 = I0 13 → I 12 1 = I0 12 1 → I 12 5 = I0 12 5 → I 14 0 = I0 14 0 → I 14 11 = I0 14 11 → (dkMw (I0 13) (I0 12 1) (I0 14 0) (I0 12 2)).1 = 0 → (dkX1 (I0 13) (I0 12 1) (I0 14 0) (I0 12 2) (I 12 2) (I 14 4) ∧ x11_1.toInt + 1 = (I 14 4).toInt) → lv_has ls 2 [(0, .ref (z + 12)), (1, .int x11_1)] → W p l e (headSpec wsX2_readsPeople (dkR 3)).room s m args below meth c H locs 0 0 (MQ below (dkQi g z (fun r I1 => dkF [(12, 12, 2, 2), (12, 12, 4, 5), (14, 14, 4, 4), (15, 15, 0, 4), (16, 16, 0, 4), (17, 17, 0, 4), (18, 18, 0, 4), (19, 19, 0, 4), (20, 20, 0, 4)] I0 I1 ∧ dkOk I1 ∧ ((dkN [(0, 0)] r ∧ dkN [(3, 9)] (I1 14 0) ∧ (dkPs (I0 13) (I0 12 1) (I0 14 0) (I0 12 2)).1 ≠ 0 ∧ r = 0 ∧ I1 12 4 = (dkPs (I0 13) (I0 12 1) (I0 14 0) (I0 12 2)).2 ∧ I1 12 5 = (dkPs (I0 13) (I0 12 1) (I0 14 0) (I0 12 2)).1 ∧ True) ∨ (dkN [(1, 1)] r ∧ dkN [(1, 90)] (I1 12 1) ∧ dkN [(3, 9)] (I1 14 0) ∧ dkN [(1, 5)] (I1 14 4) ∧ (dkPs (I0 13) (I0 12 1) (I0 14 0) (I0 12 2)).1 = 0 ∧ r = 1 ∧ I1 12 2 = (dkPs (I0 13) (I0 12 1) (I0 14 0) (I0 12 2)).2 ∧ I1 12 5 = I0 12 5 ∧ I1 14 0 = I0 14 0 ∧ I1 14 4 = dkPk (I0 13) (I0 12 1) (I0 14 0) 5 (I0 12 2) 0 ∧ I1 14 11 = I0 14 11 ∧ True)))) args s 0 0 (dkA z)) (F0 m 11 ls []) := by
    intro n
    induction n with
    | zero => intro I H locs ls x11_1 hn; exact absurd hn (Nat.not_lt_zero _)
    | succ n ih11 =>
      intro I11_ H locs ls x11_1 hn11 hW hS hF_11 hO k11_0 f11_0 f11_1 f11_2 f11_3 z11_0 zp11_0 zp11_1 zp11_2 zp11_3 y11_0 cx11 hl
      have hF := hF_11
      refine lv_iload_n hx hb dX2_readsPeople_11 rfl (lv_at hl 1 rfl) ?_
      refine lv_bipush (v := 90) hx hb dX2_readsPeople_12 (by decide) ?_
      refine lv_icmp_ge (tgt := 58) hx hb dX2_readsPeople_14 (by decide) (fun c1 => ?_) (fun c1 => ?_)
      ·
        have d2 : dkN [(90, 90)] x11_1 := dkN_le2 0 (dkN_lit (x := 90) (90) rfl) k11_0 (dkc_le c1) rfl
        refine lv_iconst (v := 1) hx hb dX2_readsPeople_58 (by decide) ?_
        have i0 : (0 : Int32).toInt = 0 := rfl
        have i1 : (1 : Int32).toInt = 1 := rfl
        have i2 : (2 : Int32).toInt = 2 := rfl
        have i3 : (3 : Int32).toInt = 3 := rfl
        have i9 : (9 : Int32).toInt = 9 := rfl
        have i30 : (30 : Int32).toInt = 30 := rfl
        have i44 : (44 : Int32).toInt = 44 := rfl
        have i59 : (59 : Int32).toInt = 59 := rfl
        have i109 : (109 : Int32).toInt = 109 := rfl
        have i116 : (116 : Int32).toInt = 116 := rfl
        have hl9 := dkN_lo (b := 90) d2 rfl
        have hx9 := cx11.2
        have hb9 := dkN_hi (b := 5) (show dkN [(0, 5)] (I11_ 14 4) from ‹dkOk I11_› 14 4) rfl
        have hd9 := dkX1c_e cx11.1 (by first | omega | (exfalso; omega))
        have e3 : dkPs (I0 13) (I0 12 1) (I0 14 0) (I0 12 2) = (0, I11_ 12 2) := (dkPs_m (dkMw_1 y11_0)).trans hd9.1
        exact W.zret (v := 1) (ty := .boolean) hx hb hr rfl (fun t ht hW9 => ⟨⟨1, I11_, rfl, ⟨hF, hO, Or.inr (⟨dkN_sub (dkN_lit (x := 1) (1) rfl) rfl, (show dkN [(1, 90)] (I11_ 12 1) from dkN_sub f11_0 rfl), (show dkN [(3, 9)] (I11_ 14 0) from dkN_sub f11_2 rfl), (show dkN [(1, 5)] (I11_ 14 4) from dkN_sub f11_3 rfl), (dkP_1 e3), rfl, (((show I11_ 12 2 = I11_ 12 2 from rfl)).trans (dkP_2 e3).symm), (show I11_ 12 5 = I0 12 5 from zp11_1), (show I11_ 14 0 = I0 14 0 from zp11_2), (((show I11_ 14 4 = I11_ 14 4 from rfl)).trans hd9.2), (show I11_ 14 11 = I0 14 11 from zp11_3), trivial⟩)⟩, dkW_eq ht hW⟩, hS.F ht⟩) hS.2.2 dX2_readsPeople_59
      ·
        have d4 : dkN [(0, 89)] x11_1 := dkN_le1 1 k11_0 (dkN_lit (x := 90) (90) rfl) (dkc_nle c1) rfl
        refine lv_aload_n hx hb dX2_readsPeople_17 rfl (lv_at hl 0 rfl) ?_
        refine dk_Vi (As := []) (rest := []) ⟨hx, hb, hml, hown, hts⟩ (fx_X2_coming_1 l g z I11_ hO) (cwV 0 hts gX2_readsPeople_X2_coming rfl rfl rfl (by decide +kernel) ⟨Nat.le_of_ble_eq_true rfl, Nat.le_of_ble_eq_true rfl⟩) (dk_at12 hW) rfl hK hT hW hS rfl hl.1 rfl (Nat.le_of_ble_eq_true rfl) dX2_readsPeople_18 ⟨Nat.zero_le _, Nat.zero_le _⟩ (fun v5 I5 H5 L5 hp5 hW hS => ?_)
        obtain ⟨hF5, hO, hc5⟩ := hp5
        have hF := dkF_call hF hF5 rfl
        have eI5 : I11_ = I5 := (dkF_nil hF5).symm
        subst eI5
        rcases hc5 with ⟨dv5, x5_0, xr5, -⟩ | hc5
        ·
          have w6 : I11_ 12 1 = I0 12 1 := zp11_0
          have w7 : I11_ 12 2 = I11_ 12 2 := rfl
          have q8 : (I0 12 1).toInt + 0 ≤ (I11_ 12 2).toInt := by have h := x5_0; rw [w6, w7] at h; exact h
          have xv5 : v5 = (-1000000) := by have h := xr5; exact h
          refine lv_bipush (v := 109) hx hb dX2_readsPeople_21 (by decide) ?_
          refine lv_icmp_ne (tgt := 58) hx hb dX2_readsPeople_23 (by decide) (fun c9 => ?_) (fun c9 => ?_)
          ·
            refine lv_iconst (v := 1) hx hb dX2_readsPeople_58 (by decide) ?_
            have i0 : (0 : Int32).toInt = 0 := rfl
            have i1 : (1 : Int32).toInt = 1 := rfl
            have i2 : (2 : Int32).toInt = 2 := rfl
            have i3 : (3 : Int32).toInt = 3 := rfl
            have i9 : (9 : Int32).toInt = 9 := rfl
            have i30 : (30 : Int32).toInt = 30 := rfl
            have i44 : (44 : Int32).toInt = 44 := rfl
            have i59 : (59 : Int32).toInt = 59 := rfl
            have i109 : (109 : Int32).toInt = 109 := rfl
            have i116 : (116 : Int32).toInt = 116 := rfl
            have hl9 := dkN_lo (b := 0) d4 rfl
            have hx9 := cx11.2
            have hb9 := dkN_hi (b := 5) (show dkN [(0, 5)] (I11_ 14 4) from ‹dkOk I11_› 14 4) rfl
            have hd9 := dkX1c_e cx11.1 (by first | omega | (exfalso; omega))
            have e10 : dkPs (I0 13) (I0 12 1) (I0 14 0) (I0 12 2) = (0, I11_ 12 2) := (dkPs_m (dkMw_1 y11_0)).trans hd9.1
            exact W.zret (v := 1) (ty := .boolean) hx hb hr rfl (fun t ht hW9 => ⟨⟨1, I11_, rfl, ⟨hF, hO, Or.inr (⟨dkN_sub (dkN_lit (x := 1) (1) rfl) rfl, (show dkN [(1, 90)] (I11_ 12 1) from dkN_sub (by rw [hF5 12 1 rfl]; exact f11_0) rfl), (show dkN [(3, 9)] (I11_ 14 0) from dkN_sub (by rw [hF5 14 0 rfl]; exact f11_2) rfl), (show dkN [(1, 5)] (I11_ 14 4) from dkN_sub (by rw [hF5 14 4 rfl]; exact f11_3) rfl), (dkP_1 e10), rfl, (((show I11_ 12 2 = I11_ 12 2 from ((hF5 12 2 rfl).trans rfl))).trans (dkP_2 e10).symm), (show I11_ 12 5 = I0 12 5 from ((hF5 12 5 rfl).trans zp11_1)), (show I11_ 14 0 = I0 14 0 from ((hF5 14 0 rfl).trans zp11_2)), (((show I11_ 14 4 = I11_ 14 4 from ((hF5 14 4 rfl).trans rfl))).trans hd9.2), (show I11_ 14 11 = I0 14 11 from ((hF5 14 11 rfl).trans zp11_3)), trivial⟩)⟩, dkW_eq ht hW⟩, hS.F ht⟩) hS.2.2 dX2_readsPeople_59
          ·
            exact (dkN_nil (show dkN [] v5 from dkN_eq1 dv5 (dkN_lit (x := 109) (109) rfl) (congrArg Int32.toInt c9) rfl)).elim
        ·
          obtain ⟨dv5, f5_12_1, f5_12_2, x5_0, xr5, -⟩ := hc5
          have w11 : I11_ 12 2 = I11_ 12 2 := rfl
          have w12 : I11_ 12 1 = I0 12 1 := zp11_0
          have q13 : (I11_ 12 2).toInt + 1 ≤ (I0 12 1).toInt := by have h := x5_0; rw [w11, w12] at h; exact h
          have w14 : I11_ 13 = I0 13 := z11_0
          have xv5 : v5 = (I0 13) (Int32.toNatClampNeg (I11_ 12 2)) := by have h := xr5; rw [w14, w11] at h; exact h
          refine lv_bipush (v := 109) hx hb dX2_readsPeople_21 (by decide) ?_
          refine lv_icmp_ne (tgt := 58) hx hb dX2_readsPeople_23 (by decide) (fun c15 => ?_) (fun c15 => ?_)
          ·
            have q16 : ((I0 13) (Int32.toNatClampNeg (I11_ 12 2))).toInt ≠ (109 : Int) := by first | (rw [← xv5]; exact (dk_ne c15)) | (subst xv5; exact (dk_ne c15))
            have d17 : dkN [(0, 108), (110, 255)] v5 := dkN_ne1 (109) dv5 (dkN_lit (x := 109) (109) rfl) (dk_ne c15) rfl
            refine lv_iconst (v := 1) hx hb dX2_readsPeople_58 (by decide) ?_
            have i0 : (0 : Int32).toInt = 0 := rfl
            have i1 : (1 : Int32).toInt = 1 := rfl
            have i2 : (2 : Int32).toInt = 2 := rfl
            have i3 : (3 : Int32).toInt = 3 := rfl
            have i9 : (9 : Int32).toInt = 9 := rfl
            have i30 : (30 : Int32).toInt = 30 := rfl
            have i44 : (44 : Int32).toInt = 44 := rfl
            have i59 : (59 : Int32).toInt = 59 := rfl
            have i109 : (109 : Int32).toInt = 109 := rfl
            have i116 : (116 : Int32).toInt = 116 := rfl
            have hl9 := dkN_lo (b := 0) d4 rfl
            have hx9 := cx11.2
            have hb9 := dkN_hi (b := 5) (show dkN [(0, 5)] (I11_ 14 4) from ‹dkOk I11_› 14 4) rfl
            have hd9 := dkX1c_e cx11.1 (by first | omega | (exfalso; omega))
            have e18 : dkPs (I0 13) (I0 12 1) (I0 14 0) (I0 12 2) = (0, I11_ 12 2) := (dkPs_m (dkMw_1 y11_0)).trans hd9.1
            exact W.zret (v := 1) (ty := .boolean) hx hb hr rfl (fun t ht hW9 => ⟨⟨1, I11_, rfl, ⟨hF, hO, Or.inr (⟨dkN_sub (dkN_lit (x := 1) (1) rfl) rfl, (show dkN [(1, 90)] (I11_ 12 1) from dkN_sub f5_12_1 rfl), (show dkN [(3, 9)] (I11_ 14 0) from dkN_sub (by rw [hF5 14 0 rfl]; exact f11_2) rfl), (show dkN [(1, 5)] (I11_ 14 4) from dkN_sub (by rw [hF5 14 4 rfl]; exact f11_3) rfl), (dkP_1 e18), rfl, (((show I11_ 12 2 = I11_ 12 2 from ((hF5 12 2 rfl).trans rfl))).trans (dkP_2 e18).symm), (show I11_ 12 5 = I0 12 5 from ((hF5 12 5 rfl).trans zp11_1)), (show I11_ 14 0 = I0 14 0 from ((hF5 14 0 rfl).trans zp11_2)), (((show I11_ 14 4 = I11_ 14 4 from ((hF5 14 4 rfl).trans rfl))).trans hd9.2), (show I11_ 14 11 = I0 14 11 from ((hF5 14 11 rfl).trans zp11_3)), trivial⟩)⟩, dkW_eq ht hW⟩, hS.F ht⟩) hS.2.2 dX2_readsPeople_59
          ·
            have q19 : ((I0 13) (Int32.toNatClampNeg (I11_ 12 2))).toInt = (109 : Int) := by first | (rw [← xv5]; exact (congrArg Int32.toInt c15)) | (subst xv5; exact (congrArg Int32.toInt c15))
            have d20 : dkN [(109, 109)] v5 := dkN_eq1 dv5 (dkN_lit (x := 109) (109) rfl) (congrArg Int32.toInt c15) rfl
            refine lv_aload_n hx hb dX2_readsPeople_26 rfl (lv_at hl 0 rfl) ?_
            refine dk_get (k := 12) hx hb hts iX2_readsPeople_2 hown hK (dk_at12 hW) rfl 3 (by decide) (hts (.fieldLink RX2 18 "DogKings$Reader" "draft" "LDogKings$Town;") (List.mem_of_getElem? (i := 1) rfl)) rfl dX2_readsPeople_27 ?_
            refine dk_get (k := 14) hx hb hts iX2_readsPeople_4 hown hK (dk_at14 hW) rfl 4 (by decide) (hts (.fieldLink RX2 62 "DogKings$Town" "people" "I") (List.mem_of_getElem? (i := 2) rfl)) rfl dX2_readsPeople_30 ?_
            refine lv_topi (fun v21 ev21 => ?_)
            have dv21 : dkN [(1, 5)] v21 := by rw [ev21]; exact (by rw [hF5 14 4 rfl]; exact f11_3)
            have xv21 : v21 = I11_ 14 4 := ev21.trans ((hF5 14 4 rfl).trans rfl)
            refine lv_iconst (v := 5) hx hb dX2_readsPeople_33 (by decide) ?_
            refine lv_icmp_lt (tgt := 43) hx hb dX2_readsPeople_34 (by decide) (fun c22 => ?_) (fun c22 => ?_)
            ·
              have q23 : (I11_ 14 4).toInt + 1 ≤ (5 : Int) := by first | (rw [← xv21]; exact (dkc_lt c22)) | (subst xv21; exact (dkc_lt c22))
              have d24 : dkN [(1, 4)] v21 := dkN_le1 1 dv21 (dkN_lit (x := 5) (5) rfl) (dkc_lt c22) rfl
              have f25 : dkN [(1, 4)] (I11_ 14 4) := by rw [← ev21]; exact d24
              refine lv_aload_n hx hb dX2_readsPeople_43 rfl (lv_at hl 0 rfl) ?_
              refine dk_Vi (As := []) (rest := []) ⟨hx, hb, hml, hown, hts⟩ (h_X2_readsPerson_0 l g z I11_ (show dkN [(3, 9)] (I11_ 14 0) from dkN_sub (by rw [hF5 14 0 rfl]; exact f11_2) rfl) (show dkN [(0, 4)] (I11_ 14 4) from dkN_sub f25 rfl) hO) (cwV 0 hts gX2_readsPeople_X2_readsPerson rfl rfl rfl (by decide +kernel) ⟨Nat.le_of_ble_eq_true rfl, Nat.le_of_ble_eq_true rfl⟩) (dk_at12 hW) rfl hK hT hW hS rfl hl.1 rfl (Nat.le_of_ble_eq_true rfl) dX2_readsPeople_44 ⟨Nat.zero_le _, Nat.zero_le _⟩ (fun v26 I26 H26 L26 hp26 hW hS => ?_)
              obtain ⟨hF26, hO, hc26⟩ := hp26
              have hF := dkF_call hF hF26 rfl
              rcases hc26 with ⟨dv26, f26_12_1, f26_12_2, f26_14_0, f26_14_4, x26_0, xr26, xh26_0, xh26_1, xh26_2, xh26_3, xh26_4, -⟩ | hc26
              ·
                have w27 : I11_ 13 = I0 13 := ((funext fun j => hF5 13 j dkNin_nil).trans z11_0)
                have w28 : I11_ 12 1 = I0 12 1 := ((hF5 12 1 rfl).trans zp11_0)
                have w29 : I11_ 14 0 = I0 14 0 := ((hF5 14 0 rfl).trans zp11_2)
                have w30 : I11_ 12 2 = I11_ 12 2 := ((hF5 12 2 rfl).trans rfl)
                have q31 : (dkMw (I0 13) (I0 12 1) (I0 14 0) (I11_ 12 2)).1 = 0 := by have h := x26_0; rw [w27, w28, w29, w30] at h; exact h
                have y32 : I26 12 2 = (dkMw (I0 13) (I0 12 1) (I0 14 0) (I11_ 12 2)).2 := by have h := xh26_0; rw [w27, w28, w29, w30] at h; exact h
                have w33 : I11_ 12 5 = I0 12 5 := ((hF5 12 5 rfl).trans zp11_1)
                have y34 : I26 12 5 = I0 12 5 := by have h := xh26_1; rw [w33] at h; exact h
                have y35 : I26 14 0 = I0 14 0 := by have h := xh26_2; rw [w29] at h; exact h
                have k36 : dkN [(2, 5)] (I26 14 4) := by rw [xh26_3]; exact dkN_add f25 (dkN_lit (x := 1) (1) rfl) rfl
                have w37 : I11_ 14 4 = I11_ 14 4 := ((hF5 14 4 rfl).trans rfl)
                have y38 : I26 14 4 = (I11_ 14 4) + 1 := by have h := xh26_3; rw [w37] at h; exact h
                have w39 : I11_ 14 11 = I0 14 11 := ((hF5 14 11 rfl).trans zp11_3)
                have y40 : I26 14 11 = I0 14 11 := by have h := xh26_4; rw [w39] at h; exact h
                have xv26 : v26 = 1 := by have h := xr26; exact h
                refine lv_if_ne (tgt := 52) hx hb dX2_readsPeople_47 (by decide) (fun c41 => ?_) (fun c41 => ?_)
                ·
                  obtain ⟨v42, ev42⟩ : ∃ y : Int32, y = x11_1 + 1 := ⟨_, rfl⟩
                  have dv42 : dkN [(1, 90)] v42 := by rw [ev42]; exact dkN_add d4 (dkN_lit (x := 1) (1) rfl) rfl
                  refine lv_iinc (v := v42) (lv' := [(1, .int v42), (0, .ref (z + 12))]) hx hb dX2_readsPeople_52 hl (k := 1) rfl (by rw [ev42]; rfl) (by decide) rfl (fun ls hl => ?_)
                  refine lv_goto (tgt := 11) hx hb dX2_readsPeople_55 (by decide) ?_
                  exact ih11 I26 _ _ ls v42 (dk_near hn11 (by rw [ev42]; exact dk_inc d4 rfl) (dkN_lt d4 rfl)) hW hS hF hO (dkN_sub dv42 rfl) (show dkN [(1, 90)] (I26 12 1) from dkN_sub f26_12_1 rfl) (show dkN [(1, 90)] (I26 12 2) from dkN_sub f26_12_2 rfl) (show dkN [(3, 9)] (I26 14 0) from dkN_sub f26_14_0 rfl) (show dkN [(1, 5)] (I26 14 4) from dkN_sub k36 rfl) ((funext fun j => hF26 13 j (dkNin_k rfl (dkNin_k rfl (dkNin_k rfl (dkNin_k rfl (dkNin_k rfl (dkNin_k rfl (dkNin_k rfl (dkNin_k rfl (dkNin_k rfl dkNin_nil)))))))))).trans ((funext fun j => hF5 13 j dkNin_nil).trans z11_0)) ((hF26 12 1 rfl).trans ((hF5 12 1 rfl).trans zp11_0)) y34 y35 y40 y11_0 ⟨(by rw [show I26 12 2 = (dkMw (I0 13) (I0 12 1) (I0 14 0) (I11_ 12 2)).2 from y32, show I26 14 4 = (I11_ 14 4) + 1 from y38]; exact dkX1c_s cx11.1 (by omega) (dk_nlt (dkN_ge (show dkN [(0, 5)] (I11_ 14 4) from ‹dkOk I11_› 14 4) rfl)) q31), (by rw [show I26 14 4 = (I11_ 14 4) + 1 from y38, ev42, dk_inc d4 rfl, dk_inc (show dkN [(0, 4)] (I11_ 14 4) from dkN_le1 1 (show dkN [(0, 5)] (I11_ 14 4) from ‹dkOk I11_› 14 4) (dkN_lit (x := 5) (5) rfl) (by show (I11_ 14 4).toInt + 1 ≤ (5 : Int); omega) rfl) rfl]; have h9 := cx11.2; omega)⟩ (lv_sub hl [1, 0] rfl)
                ·
                  exact (dkN_nil (show dkN [] v26 from dkN_eq1 dv26 (dkN_lit (x := 0) (0) rfl) (congrArg Int32.toInt c41) rfl)).elim
              ·
                obtain ⟨dv26, x26_0, xr26, xh26_0, xh26_1, -⟩ := hc26
                have w43 : I11_ 13 = I0 13 := ((funext fun j => hF5 13 j dkNin_nil).trans z11_0)
                have w44 : I11_ 12 1 = I0 12 1 := ((hF5 12 1 rfl).trans zp11_0)
                have w45 : I11_ 14 0 = I0 14 0 := ((hF5 14 0 rfl).trans zp11_2)
                have w46 : I11_ 12 2 = I11_ 12 2 := ((hF5 12 2 rfl).trans rfl)
                have q47 : (dkMw (I0 13) (I0 12 1) (I0 14 0) (I11_ 12 2)).1 ≠ 0 := by have h := x26_0; rw [w43, w44, w45, w46] at h; exact h
                have y48 : I26 12 4 = (dkMw (I0 13) (I0 12 1) (I0 14 0) (I11_ 12 2)).2 := by have h := xh26_0; rw [w43, w44, w45, w46] at h; exact h
                have y49 : I26 12 5 = (dkMw (I0 13) (I0 12 1) (I0 14 0) (I11_ 12 2)).1 := by have h := xh26_1; rw [w43, w44, w45, w46] at h; exact h
                have xv26 : v26 = 0 := by have h := xr26; exact h
                refine lv_if_ne (tgt := 52) hx hb dX2_readsPeople_47 (by decide) (fun c50 => ?_) (fun c50 => ?_)
                ·
                  exact absurd ((xv26).trans (rfl).symm) c50
                ·
                  refine lv_iconst (v := 0) hx hb dX2_readsPeople_50 (by decide) ?_
                  have i0 : (0 : Int32).toInt = 0 := rfl
                  have i1 : (1 : Int32).toInt = 1 := rfl
                  have i2 : (2 : Int32).toInt = 2 := rfl
                  have i3 : (3 : Int32).toInt = 3 := rfl
                  have i9 : (9 : Int32).toInt = 9 := rfl
                  have i30 : (30 : Int32).toInt = 30 := rfl
                  have i44 : (44 : Int32).toInt = 44 := rfl
                  have i59 : (59 : Int32).toInt = 59 := rfl
                  have i109 : (109 : Int32).toInt = 109 := rfl
                  have i116 : (116 : Int32).toInt = 116 := rfl
                  have e51 : dkPs (I0 13) (I0 12 1) (I0 14 0) (I0 12 2) = ((dkMw (I0 13) (I0 12 1) (I0 14 0) (I11_ 12 2)).1, (dkMw (I0 13) (I0 12 1) (I0 14 0) (I11_ 12 2)).2) := (dkPs_m (dkMw_1 y11_0)).trans (dkX1c_f cx11.1 (by omega) (by omega) (by omega) q47)
                  exact W.zret (v := 0) (ty := .boolean) hx hb hr rfl (fun t ht hW9 => ⟨⟨0, I26, rfl, ⟨hF, hO, Or.inl ⟨dkN_sub (dkN_lit (x := 0) (0) rfl) rfl, (show dkN [(3, 9)] (I26 14 0) from dkN_sub (by rw [hF26 14 0 rfl]; exact (by rw [hF5 14 0 rfl]; exact f11_2)) rfl), (fun q => q47 ((dkP_1 e51).symm.trans q)), rfl, (((show I26 12 4 = (dkMw (I0 13) (I0 12 1) (I0 14 0) (I11_ 12 2)).2 from y48)).trans (dkP_2 e51).symm), (((show I26 12 5 = (dkMw (I0 13) (I0 12 1) (I0 14 0) (I11_ 12 2)).1 from y49)).trans (dkP_1 e51).symm), trivial⟩⟩, dkW_eq ht hW⟩, hS.F ht⟩) hS.2.2 dX2_readsPeople_51
            ·
              have q52 : (5 : Int) + 0 ≤ (I11_ 14 4).toInt := by first | (rw [← xv21]; exact (dkc_nlt c22)) | (subst xv21; exact (dkc_nlt c22))
              have d53 : dkN [(5, 5)] v21 := dkN_le2 0 (dkN_lit (x := 5) (5) rfl) dv21 (dkc_nlt c22) rfl
              have f54 : dkN [(5, 5)] (I11_ 14 4) := by rw [← ev21]; exact d53
              refine lv_aload_n hx hb dX2_readsPeople_37 rfl (lv_at hl 0 rfl) ?_
              refine lv_iconst (v := 3) hx hb dX2_readsPeople_38 (by decide) ?_
              refine dk_Vi (As := [.int 3]) (rest := []) ⟨hx, hb, hml, hown, hts⟩ (fx_X2_meets_5 l g z I11_ 3 (dkN_lit (x := 3) (3) rfl) hO) (cwV 1 hts gX2_readsPeople_X2_meets rfl rfl rfl (by decide +kernel) ⟨Nat.le_of_ble_eq_true rfl, Nat.le_of_ble_eq_true rfl⟩) (dk_at12 hW) rfl hK hT hW hS rfl hl.1 rfl (Nat.le_of_ble_eq_true rfl) dX2_readsPeople_39 ⟨Nat.zero_le _, Nat.zero_le _⟩ (fun v55 I55 H55 L55 hp55 hW hS => ?_)
              obtain ⟨hF55, hO, hc55⟩ := hp55
              have hF := dkF_call hF hF55 rfl
              obtain ⟨dv55, f55_12_4, f55_12_5, xr55, xh55_0, xh55_1, xh55_2, -⟩ := hc55
              have w56 : I11_ 12 2 = I11_ 12 2 := ((hF5 12 2 rfl).trans rfl)
              have y57 : I55 12 2 = I11_ 12 2 := by have h := xh55_0; rw [w56] at h; exact h
              have y58 : I55 12 4 = I11_ 12 2 := by have h := xh55_1; rw [w56] at h; exact h
              have y59 : I55 12 5 = 3 := by have h := xh55_2; exact h
              have xv55 : v55 = 0 := by have h := xr55; exact h
              have i0 : (0 : Int32).toInt = 0 := rfl
              have i1 : (1 : Int32).toInt = 1 := rfl
              have i2 : (2 : Int32).toInt = 2 := rfl
              have i3 : (3 : Int32).toInt = 3 := rfl
              have i9 : (9 : Int32).toInt = 9 := rfl
              have i30 : (30 : Int32).toInt = 30 := rfl
              have i44 : (44 : Int32).toInt = 44 := rfl
              have i59 : (59 : Int32).toInt = 59 := rfl
              have i109 : (109 : Int32).toInt = 109 := rfl
              have i116 : (116 : Int32).toInt = 116 := rfl
              have e60 : dkPs (I0 13) (I0 12 1) (I0 14 0) (I0 12 2) = (3, I11_ 12 2) := (dkPs_m (dkMw_1 y11_0)).trans (dkX1c_o cx11.1 (by omega) (by omega) (by omega))
              exact W.zret (v := v55) (ty := .boolean) hx hb hr (dkN_zr dv55 rfl) (fun t ht hW9 => ⟨⟨v55, I55, rfl, ⟨hF, hO, Or.inl ⟨dkN_sub dv55 rfl, (show dkN [(3, 9)] (I55 14 0) from dkN_sub (by rw [hF55 14 0 rfl]; exact (by rw [hF5 14 0 rfl]; exact f11_2)) rfl), (dkE_k e60 (by decide)), xv55, (((show I55 12 4 = I11_ 12 2 from y58)).trans (dkP_2 e60).symm), (((show I55 12 5 = 3 from y59)).trans (dkP_1 e60).symm), trivial⟩⟩, dkW_eq ht hW⟩, hS.F ht⟩) hS.2.2 dX2_readsPeople_42
  refine lv_aload_n hx hb dX2_readsPeople_0 rfl (lv_at hl 0 rfl) ?_
  refine dk_Vi (As := []) (rest := []) ⟨hx, hb, hml, hown, hts⟩ (h_X2_readsPerson_0 l g z I0 (show dkN [(3, 9)] (I0 14 0) from dkN_sub np0 rfl) (show dkN [(0, 4)] (I0 14 4) from dkN_sub np1 rfl) hO) (cwV 0 hts gX2_readsPeople_X2_readsPerson rfl rfl rfl (by decide +kernel) ⟨Nat.le_of_ble_eq_true rfl, Nat.le_of_ble_eq_true rfl⟩) (dk_at12 hW) rfl hK hT hW hS rfl hl.1 rfl (Nat.le_of_ble_eq_true rfl) dX2_readsPeople_1 ⟨Nat.zero_le _, Nat.zero_le _⟩ (fun v61 I61 H61 L61 hp61 hW hS => ?_)
  obtain ⟨hF61, hO, hc61⟩ := hp61
  have hF := dkF_call hF hF61 rfl
  rcases hc61 with ⟨dv61, f61_12_1, f61_12_2, f61_14_0, f61_14_4, x61_0, xr61, xh61_0, xh61_1, xh61_2, xh61_3, xh61_4, -⟩ | hc61
  ·
    have q62 : (dkMw (I0 13) (I0 12 1) (I0 14 0) (I0 12 2)).1 = 0 := x61_0
    have y63 : I61 12 2 = (dkMw (I0 13) (I0 12 1) (I0 14 0) (I0 12 2)).2 := by have h := xh61_0; exact h
    have y64 : I61 12 5 = I0 12 5 := by have h := xh61_1; exact h
    have y65 : I61 14 0 = I0 14 0 := by have h := xh61_2; exact h
    have k66 : dkN [(1, 1)] (I61 14 4) := by rw [xh61_3]; exact dkN_add np1 (dkN_lit (x := 1) (1) rfl) rfl
    have y67 : I61 14 4 = I0 14 4 + 1 := by have h := xh61_3; exact h
    have y68 : I61 14 11 = I0 14 11 := by have h := xh61_4; exact h
    have xv61 : v61 = 1 := by have h := xr61; exact h
    refine lv_if_ne (tgt := 9) hx hb dX2_readsPeople_4 (by decide) (fun c69 => ?_) (fun c69 => ?_)
    ·
      refine lv_iconst (v := 0) hx hb dX2_readsPeople_9 (by decide) ?_
      refine lv_istore_n (lv' := [(1, .int 0), (0, .ref (z + 12))]) hx hb dX2_readsPeople_10 rfl hl (by decide) rfl (fun ls hl => ?_)
      exact C11 _ I61 _ _ ls 0 (Nat.lt_succ_self _) hW hS hF hO (dkN_sub (dkN_lit (x := 0) (0) rfl) rfl) (show dkN [(1, 90)] (I61 12 1) from dkN_sub f61_12_1 rfl) (show dkN [(1, 90)] (I61 12 2) from dkN_sub f61_12_2 rfl) (show dkN [(3, 9)] (I61 14 0) from dkN_sub f61_14_0 rfl) (show dkN [(1, 5)] (I61 14 4) from dkN_sub k66 rfl) ((funext fun j => hF61 13 j (dkNin_k rfl (dkNin_k rfl (dkNin_k rfl (dkNin_k rfl (dkNin_k rfl (dkNin_k rfl (dkNin_k rfl (dkNin_k rfl (dkNin_k rfl dkNin_nil)))))))))).trans rfl) ((hF61 12 1 rfl).trans rfl) y64 y65 y68 q62 ⟨(by rw [show I61 12 2 = (dkMw (I0 13) (I0 12 1) (I0 14 0) (I0 12 2)).2 from y63, show I61 14 4 = I0 14 4 + 1 from y67, (show I0 14 4 = 0 from dkN_is np1 rfl)]; exact dkX1c_1 q62), (by rw [show I61 14 4 = I0 14 4 + 1 from y67, (show I0 14 4 = 0 from dkN_is np1 rfl)]; rfl)⟩ (lv_sub hl [1, 0] rfl)
    ·
      exact (dkN_nil (show dkN [] v61 from dkN_eq1 dv61 (dkN_lit (x := 0) (0) rfl) (congrArg Int32.toInt c69) rfl)).elim
  ·
    obtain ⟨dv61, x61_0, xr61, xh61_0, xh61_1, -⟩ := hc61
    have q70 : (dkMw (I0 13) (I0 12 1) (I0 14 0) (I0 12 2)).1 ≠ 0 := x61_0
    have y71 : I61 12 4 = (dkMw (I0 13) (I0 12 1) (I0 14 0) (I0 12 2)).2 := by have h := xh61_0; exact h
    have y72 : I61 12 5 = (dkMw (I0 13) (I0 12 1) (I0 14 0) (I0 12 2)).1 := by have h := xh61_1; exact h
    have xv61 : v61 = 0 := by have h := xr61; exact h
    refine lv_if_ne (tgt := 9) hx hb dX2_readsPeople_4 (by decide) (fun c73 => ?_) (fun c73 => ?_)
    ·
      exact absurd ((xv61).trans (rfl).symm) c73
    ·
      refine lv_iconst (v := 0) hx hb dX2_readsPeople_7 (by decide) ?_
      have i0 : (0 : Int32).toInt = 0 := rfl
      have i1 : (1 : Int32).toInt = 1 := rfl
      have i2 : (2 : Int32).toInt = 2 := rfl
      have i3 : (3 : Int32).toInt = 3 := rfl
      have i9 : (9 : Int32).toInt = 9 := rfl
      have i30 : (30 : Int32).toInt = 30 := rfl
      have i44 : (44 : Int32).toInt = 44 := rfl
      have i59 : (59 : Int32).toInt = 59 := rfl
      have i109 : (109 : Int32).toInt = 109 := rfl
      have i116 : (116 : Int32).toInt = 116 := rfl
      have e74 : dkPs (I0 13) (I0 12 1) (I0 14 0) (I0 12 2) = ((dkMw (I0 13) (I0 12 1) (I0 14 0) (I0 12 2)).1, (dkMw (I0 13) (I0 12 1) (I0 14 0) (I0 12 2)).2) := dkTh_n q70
      exact W.zret (v := 0) (ty := .boolean) hx hb hr rfl (fun t ht hW9 => ⟨⟨0, I61, rfl, ⟨hF, hO, Or.inl ⟨dkN_sub (dkN_lit (x := 0) (0) rfl) rfl, (show dkN [(3, 9)] (I61 14 0) from dkN_sub (by rw [hF61 14 0 rfl]; exact np0) rfl), (fun q => q70 ((dkP_1 e74).symm.trans q)), rfl, (((show I61 12 4 = (dkMw (I0 13) (I0 12 1) (I0 14 0) (I0 12 2)).2 from y71)).trans (dkP_2 e74).symm), (((show I61 12 5 = (dkMw (I0 13) (I0 12 1) (I0 14 0) (I0 12 2)).1 from y72)).trans (dkP_1 e74).symm), trivial⟩⟩, dkW_eq ht hW⟩, hS.F ht⟩) hS.2.2 dX2_readsPeople_8
set_option maxHeartbeats 4000000 in
set_option maxRecDepth 100000 in
theorem fx_X2_sortOf_2 (l : Launch) (g : dkG) (z : Nat) (I0 : dkI) (p0 : Int32) (dp0 : dkN [(-1000000, -1000000)] p0)  (hO : dkOk I0) : Met l yX2_sortOf wsX2_sortOf (dkR 0) (dkPc g z [.int p0] I0) (dkQi g z (fun r I1 => dkF [] I0 I1 ∧ dkOk I1 ∧ ((dkN [(-1000000, -1000000)] r ∧ r = (-1000000) ∧ True)))) 0 0 (dkA z) := by
  refine Met.ofW (cc := cX2_sortOf) (maxL := 1) (ret := (some .int)) (by decide) rfl ?_
  intro p e s m args below meth c s₁ B hml hv
  obtain ⟨ha, hW, hK, hT⟩ := hv
  have hx := B.exec
  have hb := B.bytes
  have hr := B.returns
  have hts := atoms_spec (ws := wsX2_sortOf) B.pre
  have hown : s.vm.findClass RX2 = some m.cls := findClass_of_methodNamed B.named
  have hlocks := B.notSynchronized
  have hS : va_S (dkA z) s.heap s.heap [] := va_S.rf
  have hF : dkF [] I0 I0 := dkF_rf _ _
  have hl := lv_entry ([.int p0]) (n := 1) (Nat.le_of_ble_eq_true rfl)
  have hgo : entryFrame m args 1 = entryFrame m ([.int p0] : List Value).toArray 1 := by rw [ha]
  rw [hgo, lg_entry_eq]
  generalize (lg_sl ([.int p0]) ++ List.replicate (1 - (lg_sl ([.int p0])).length) Slot.unset).toArray = ls at hl ⊢
  have hl : lv_has ls 1 [(0, .int p0)] := hl
  refine lv_iload_n hx hb dX2_sortOf_0 rfl (lv_at hl 0 rfl) ?_
  refine lv_tableOut (tgt := 78) hx hb dX2_sortOf_1 (dkN_out dp0 rfl) (by decide) ?_
  refine lv_ldc (v := (-1000000)) hx hb hown (hts (.constant RX2 50 (-1000000)) (List.mem_of_getElem? (i := 1) rfl)) dX2_sortOf_78 ?_
  exact W.iret (v := (-1000000)) hx hb hr (fun t ht hW9 => ⟨⟨(-1000000), I0, rfl, ⟨hF, hO, ⟨dkN_sub (dkN_lit (x := (-1000000)) (-1000000) rfl) rfl, rfl, trivial⟩⟩, dkW_eq ht hW⟩, hS.F ht⟩) hS.2.2 dX2_sortOf_80
