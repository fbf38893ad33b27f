set_option maxHeartbeats 4000000 in
set_option maxRecDepth 100000 in
theorem fx_X6_must_10 (l : Launch) (g : dkG) (z : Nat) (I0 : dkI) (p0 : Int32) (np0 : dkN [(0, 90)] (I0 340 8))  (hO : dkOk I0) : Met l yX6_must wsX6_must (dkR 1) (dkPc g z [.ref (z + 340), .int p0] I0) (dkQv g z (fun I1 => dkF [] I0 I1 ∧ dkOk I1 ∧ ((dkN [(0, 90)] (I1 340 8) ∧ (0 : Int) + 0 ≤ (I0 340 8).toInt ∧ I1 340 7 = I0 340 7 ∧ I1 340 8 = I0 340 8 ∧ I1 340 9 = I0 340 9 ∧ I1 340 10 = I0 340 10 ∧ I1 340 11 = I0 340 11 ∧ I1 340 12 = I0 340 12 ∧ True)))) 0 0 (dkA z) := by
  refine Met.ofW (cc := cX6_must) (maxL := 2) (ret := none) (by decide) rfl ?_
  intro p e s m args below meth c s₁ B hml hv
  obtain ⟨ha, hW, hK, hT⟩ := hv
  have hx := B.exec
  have hb := B.bytes
  have hr := B.returns
  have hts := atoms_spec (ws := wsX6_must) B.pre
  have hown : s.vm.findClass RX6 = some m.cls := findClass_of_methodNamed B.named
  have hlocks := B.notSynchronized
  have hS : va_S (dkA z) s.heap s.heap [] := va_S.rf
  have hF : dkF [] I0 I0 := dkF_rf _ _
  have hl := lv_entry ([.ref (z + 340), .int p0]) (n := 2) (Nat.le_of_ble_eq_true rfl)
  have hgo : entryFrame m args 2 = entryFrame m ([.ref (z + 340), .int p0] : List Value).toArray 2 := by rw [ha]
  rw [hgo, lg_entry_eq]
  generalize (lg_sl ([.ref (z + 340), .int p0]) ++ List.replicate (2 - (lg_sl ([.ref (z + 340), .int p0])).length) Slot.unset).toArray = ls at hl ⊢
  have hl : lv_has ls 2 [(0, .ref (z + 340)), (1, .int p0)] := hl
  refine lv_aload_n hx hb dX6_must_0 rfl (lv_at hl 0 rfl) ?_
  refine dk_Vi (As := []) (rest := []) ⟨hx, hb, hml, hown, hts⟩ (fx_X6_isWell_7 l g z I0 (show dkN [(0, 90)] (I0 340 8) from dkN_sub np0 rfl) hO) (cwV 0 hts gX6_must_X6_isWell rfl rfl rfl (by decide +kernel) ⟨Nat.le_of_ble_eq_true rfl, Nat.le_of_ble_eq_true rfl⟩) (dk_at340 hW) rfl hK hT hW hS rfl hl.1 rfl (Nat.le_of_ble_eq_true rfl) dX6_must_1 ⟨Nat.zero_le _, Nat.zero_le _⟩ (fun v1 I1 H1 L1 hp1 hW hS => ?_)
  obtain ⟨hF1, hO, hc1⟩ := hp1
  have hF := dkF_call hF hF1 rfl
  have eI1 : I0 = I1 := (dkF_nil hF1).symm
  subst eI1
  obtain ⟨dv1, f1_340_8, x1_0, xr1, -⟩ := hc1
  have q2 : (0 : Int) + 0 ≤ (I0 340 8).toInt := x1_0
  have xv1 : v1 = 0 := by have h := xr1; exact h
  refine lv_if_eq (tgt := 18) hx hb dX6_must_4 (by decide) (fun c3 => ?_) (fun c3 => ?_)
  ·
    exact W.vret hx hb hr (fun t ht hW9 => ⟨⟨I0, rfl, ⟨hF, hO, ⟨(show dkN [(0, 90)] (I0 340 8) from dkN_sub f1_340_8 rfl), q2, rfl, rfl, rfl, rfl, rfl, rfl, trivial⟩⟩, dkW_eq ht hW⟩, hS.F ht⟩) hS.2.2 dX6_must_18
  ·
    exact absurd ((xv1).trans (rfl).symm) c3
set_option maxHeartbeats 4000000 in
set_option maxRecDepth 100000 in
theorem h_X6_must_0 (l : Launch) (g : dkG) (z : Nat) (I0 : dkI) (p0 : Int32) (np0 : dkN [(0, 90)] (I0 340 8)) (hO : dkOk I0) : Met l yX6_must wsX6_must (dkR 1) (dkPc g z [.ref (z + 340), .int p0] I0) (dkQv g z (fun I1 => dkF [] I0 I1 ∧ dkOk I1 ∧ (True))) 0 0 (dkA z) := by
  refine dk_weakV (fx_X6_must_10 l g z I0 p0 np0 hO) (fun I1 h => ?_)
  obtain ⟨hF, hO1, hc⟩ := h
  exact ⟨hF, hO1, trivial⟩
set_option maxHeartbeats 4000000 in
set_option maxRecDepth 100000 in
theorem fx_X6_kindOf_1 (l : Launch) (g : dkG) (z : Nat) (I0 : dkI) (p0 : Int32)  (hO : dkOk I0) : Met l yX6_kindOf wsX6_kindOf (dkR 0) (dkPc g z [.int p0] I0) (dkQi g z (fun r I1 => dkF [] I0 I1 ∧ dkOk I1 ∧ ((dkN [(0, 0)] r ∧ dkN [(-2147483648, 103), (105, 106), (108, 111), (113, 114), (117, 2147483647)] p0 ∧ p0.toInt ≠ (104 : Int) ∧ p0.toInt ≠ (116 : Int) ∧ p0.toInt ≠ (112 : Int) ∧ p0.toInt ≠ (107 : Int) ∧ p0.toInt ≠ (115 : Int) ∧ r = 0 ∧ True) ∨ (dkN [(5, 5)] r ∧ dkN [(115, 115)] p0 ∧ p0.toInt ≠ (104 : Int) ∧ p0.toInt ≠ (116 : Int) ∧ p0.toInt ≠ (112 : Int) ∧ p0.toInt ≠ (107 : Int) ∧ p0.toInt = (115 : Int) ∧ r = 5 ∧ True) ∨ (dkN [(4, 4)] r ∧ dkN [(107, 107)] p0 ∧ p0.toInt ≠ (104 : Int) ∧ p0.toInt ≠ (116 : Int) ∧ p0.toInt ≠ (112 : Int) ∧ p0.toInt = (107 : Int) ∧ r = 4 ∧ True) ∨ (dkN [(3, 3)] r ∧ dkN [(112, 112)] p0 ∧ p0.toInt ≠ (104 : Int) ∧ p0.toInt ≠ (116 : Int) ∧ p0.toInt = (112 : Int) ∧ r = 3 ∧ True) ∨ (dkN [(2, 2)] r ∧ dkN [(116, 116)] p0 ∧ p0.toInt ≠ (104 : Int) ∧ p0.toInt = (116 : Int) ∧ r = 2 ∧ True) ∨ (dkN [(1, 1)] r ∧ dkN [(104, 104)] p0 ∧ p0.toInt = (104 : Int) ∧ r = 1 ∧ True)))) 0 0 (dkA z) := by
  refine Met.ofW (cc := cX6_kindOf) (maxL := 1) (ret := (some .int)) (by decide) rfl ?_
  intro p e s m args below meth c s₁ B hml hv
  obtain ⟨ha, hW, hK, hT⟩ := hv
  have hx := B.exec
  have hb := B.bytes
  have hr := B.returns
  have hts := atoms_spec (ws := wsX6_kindOf) B.pre
  have hown : s.vm.findClass RX6 = some m.cls := findClass_of_methodNamed B.named
  have hlocks := B.notSynchronized
  have hS : va_S (dkA z) s.heap s.heap [] := va_S.rf
  have hF : dkF [] I0 I0 := dkF_rf _ _
  have hl := lv_entry ([.int p0]) (n := 1) (Nat.le_of_ble_eq_true rfl)
  have hgo : entryFrame m args 1 = entryFrame m ([.int p0] : List Value).toArray 1 := by rw [ha]
  rw [hgo, lg_entry_eq]
  generalize (lg_sl ([.int p0]) ++ List.replicate (1 - (lg_sl ([.int p0])).length) Slot.unset).toArray = ls at hl ⊢
  have hl : lv_has ls 1 [(0, .int p0)] := hl
  refine lv_iload_n hx hb dX6_kindOf_0 rfl (lv_at hl 0 rfl) ?_
  refine lv_bipush (v := 104) hx hb dX6_kindOf_1 (by decide) ?_
  refine lv_icmp_ne (tgt := 10) hx hb dX6_kindOf_3 (by decide) (fun c1 => ?_) (fun c1 => ?_)
  ·
    have q2 : p0.toInt ≠ (104 : Int) := (dk_ne c1)
    have d3 : dkN [(-2147483648, 103), (105, 2147483647)] p0 := dkN_ne1 (104) (dkN_top p0) (dkN_lit (x := 104) (104) rfl) (dk_ne c1) rfl
    refine lv_iload_n hx hb dX6_kindOf_10 rfl (lv_at hl 0 rfl) ?_
    refine lv_bipush (v := 116) hx hb dX6_kindOf_11 (by decide) ?_
    refine lv_icmp_ne (tgt := 20) hx hb dX6_kindOf_13 (by decide) (fun c4 => ?_) (fun c4 => ?_)
    ·
      have q5 : p0.toInt ≠ (116 : Int) := (dk_ne c4)
      have d6 : dkN [(-2147483648, 103), (105, 115), (117, 2147483647)] p0 := dkN_ne1 (116) d3 (dkN_lit (x := 116) (116) rfl) (dk_ne c4) rfl
      refine lv_iload_n hx hb dX6_kindOf_20 rfl (lv_at hl 0 rfl) ?_
      refine lv_bipush (v := 112) hx hb dX6_kindOf_21 (by decide) ?_
      refine lv_icmp_ne (tgt := 30) hx hb dX6_kindOf_23 (by decide) (fun c7 => ?_) (fun c7 => ?_)
      ·
        have q8 : p0.toInt ≠ (112 : Int) := (dk_ne c7)
        have d9 : dkN [(-2147483648, 103), (105, 111), (113, 115), (117, 2147483647)] p0 := dkN_ne1 (112) d6 (dkN_lit (x := 112) (112) rfl) (dk_ne c7) rfl
        refine lv_iload_n hx hb dX6_kindOf_30 rfl (lv_at hl 0 rfl) ?_
        refine lv_bipush (v := 107) hx hb dX6_kindOf_31 (by decide) ?_
        refine lv_icmp_ne (tgt := 40) hx hb dX6_kindOf_33 (by decide) (fun c10 => ?_) (fun c10 => ?_)
        ·
          have q11 : p0.toInt ≠ (107 : Int) := (dk_ne c10)
          have d12 : dkN [(-2147483648, 103), (105, 106), (108, 111), (113, 115), (117, 2147483647)] p0 := dkN_ne1 (107) d9 (dkN_lit (x := 107) (107) rfl) (dk_ne c10) rfl
          refine lv_iload_n hx hb dX6_kindOf_40 rfl (lv_at hl 0 rfl) ?_
          refine lv_bipush (v := 115) hx hb dX6_kindOf_41 (by decide) ?_
          refine lv_icmp_ne (tgt := 50) hx hb dX6_kindOf_43 (by decide) (fun c13 => ?_) (fun c13 => ?_)
          ·
            have q14 : p0.toInt ≠ (115 : Int) := (dk_ne c13)
            have d15 : dkN [(-2147483648, 103), (105, 106), (108, 111), (113, 114), (117, 2147483647)] p0 := dkN_ne1 (115) d12 (dkN_lit (x := 115) (115) rfl) (dk_ne c13) rfl
            refine lv_iconst (v := 0) hx hb dX6_kindOf_50 (by decide) ?_
            exact W.iret (v := 0) hx hb hr (fun t ht hW9 => ⟨⟨0, I0, rfl, ⟨hF, hO, Or.inl ⟨dkN_sub (dkN_lit (x := 0) (0) rfl) rfl, dkN_sub d15 rfl, q2, q5, q8, q11, q14, rfl, trivial⟩⟩, dkW_eq ht hW⟩, hS.F ht⟩) hS.2.2 dX6_kindOf_51
          ·
            have q16 : p0.toInt = (115 : Int) := (congrArg Int32.toInt c13)
            have d17 : dkN [(115, 115)] p0 := dkN_eq1 d12 (dkN_lit (x := 115) (115) rfl) (congrArg Int32.toInt c13) rfl
            refine lv_iconst (v := 5) hx hb dX6_kindOf_46 (by decide) ?_
            refine lv_goto (tgt := 51) hx hb dX6_kindOf_47 (by decide) ?_
            exact W.iret (v := 5) hx hb hr (fun t ht hW9 => ⟨⟨5, I0, rfl, ⟨hF, hO, Or.inr (Or.inl ⟨dkN_sub (dkN_lit (x := 5) (5) rfl) rfl, dkN_sub d17 rfl, q2, q5, q8, q11, q16, rfl, trivial⟩)⟩, dkW_eq ht hW⟩, hS.F ht⟩) hS.2.2 dX6_kindOf_51
        ·
          have q18 : p0.toInt = (107 : Int) := (congrArg Int32.toInt c10)
          have d19 : dkN [(107, 107)] p0 := dkN_eq1 d9 (dkN_lit (x := 107) (107) rfl) (congrArg Int32.toInt c10) rfl
          refine lv_iconst (v := 4) hx hb dX6_kindOf_36 (by decide) ?_
          refine lv_goto (tgt := 51) hx hb dX6_kindOf_37 (by decide) ?_
          exact W.iret (v := 4) hx hb hr (fun t ht hW9 => ⟨⟨4, I0, rfl, ⟨hF, hO, Or.inr (Or.inr (Or.inl ⟨dkN_sub (dkN_lit (x := 4) (4) rfl) rfl, dkN_sub d19 rfl, q2, q5, q8, q18, rfl, trivial⟩))⟩, dkW_eq ht hW⟩, hS.F ht⟩) hS.2.2 dX6_kindOf_51
      ·
        have q20 : p0.toInt = (112 : Int) := (congrArg Int32.toInt c7)
        have d21 : dkN [(112, 112)] p0 := dkN_eq1 d6 (dkN_lit (x := 112) (112) rfl) (congrArg Int32.toInt c7) rfl
        refine lv_iconst (v := 3) hx hb dX6_kindOf_26 (by decide) ?_
        refine lv_goto (tgt := 51) hx hb dX6_kindOf_27 (by decide) ?_
        exact W.iret (v := 3) hx hb hr (fun t ht hW9 => ⟨⟨3, I0, rfl, ⟨hF, hO, Or.inr (Or.inr (Or.inr (Or.inl ⟨dkN_sub (dkN_lit (x := 3) (3) rfl) rfl, dkN_sub d21 rfl, q2, q5, q20, rfl, trivial⟩)))⟩, dkW_eq ht hW⟩, hS.F ht⟩) hS.2.2 dX6_kindOf_51
    ·
      have q22 : p0.toInt = (116 : Int) := (congrArg Int32.toInt c4)
      have d23 : dkN [(116, 116)] p0 := dkN_eq1 d3 (dkN_lit (x := 116) (116) rfl) (congrArg Int32.toInt c4) rfl
      refine lv_iconst (v := 2) hx hb dX6_kindOf_16 (by decide) ?_
      refine lv_goto (tgt := 51) hx hb dX6_kindOf_17 (by decide) ?_
      exact W.iret (v := 2) hx hb hr (fun t ht hW9 => ⟨⟨2, I0, rfl, ⟨hF, hO, Or.inr (Or.inr (Or.inr (Or.inr (Or.inl ⟨dkN_sub (dkN_lit (x := 2) (2) rfl) rfl, dkN_sub d23 rfl, q2, q22, rfl, trivial⟩))))⟩, dkW_eq ht hW⟩, hS.F ht⟩) hS.2.2 dX6_kindOf_51
  ·
    have q24 : p0.toInt = (104 : Int) := (congrArg Int32.toInt c1)
    have d25 : dkN [(104, 104)] p0 := dkN_eq1 (dkN_top p0) (dkN_lit (x := 104) (104) rfl) (congrArg Int32.toInt c1) rfl
    refine lv_iconst (v := 1) hx hb dX6_kindOf_6 (by decide) ?_
    refine lv_goto (tgt := 51) hx hb dX6_kindOf_7 (by decide) ?_
    exact W.iret (v := 1) hx hb hr (fun t ht hW9 => ⟨⟨1, I0, rfl, ⟨hF, hO, Or.inr (Or.inr (Or.inr (Or.inr (Or.inr (⟨dkN_sub (dkN_lit (x := 1) (1) rfl) rfl, dkN_sub d25 rfl, q24, rfl, trivial⟩)))))⟩, dkW_eq ht hW⟩, hS.F ht⟩) hS.2.2 dX6_kindOf_51
set_option maxHeartbeats 4000000 in
set_option maxRecDepth 100000 in
theorem h_X6_kindOf_0 (l : Launch) (g : dkG) (z : Nat) (I0 : dkI) (p0 : Int32) (hO : dkOk I0) : Met l yX6_kindOf wsX6_kindOf (dkR 0) (dkPc g z [.int p0] I0) (dkQi g z (fun r I1 => dkF [] I0 I1 ∧ dkOk I1 ∧ ((dkN [(1, 5)] r ∧ dkSo p0.toInt ≠ -1000000 ∧ r = dkSo p0.toInt ∧ True) ∨ (dkN [(0, 0)] r ∧ dkSo p0.toInt = -1000000 ∧ r = 0 ∧ True)))) 0 0 (dkA z) := by
  refine dk_weakI (fx_X6_kindOf_1 l g z I0 p0 hO) (fun r I1 h => ?_)
  obtain ⟨hF, hO1, hc⟩ := h
  refine ⟨hF, hO1, ?_⟩
  rcases hc with ⟨d, P0, u0, u1, u2, u3, u4, ER, -⟩ | ⟨d, P0, u0, u1, u2, u3, u4, ER, -⟩ | ⟨d, P0, u0, u1, u2, u3, ER, -⟩ | ⟨d, P0, u0, u1, u2, ER, -⟩ | ⟨d, P0, u0, u1, ER, -⟩ | ⟨d, P0, u0, ER, -⟩
  ·
    have e : dkSo p0.toInt = -1000000 := dkSo_0 (by omega) (by omega) (by omega) (by omega) (by omega)
    exact Or.inr ⟨dkN_sub d rfl, e, ER, trivial⟩
  ·
    have e : dkSo p0.toInt = 5 := by first | (rw [show p0.toInt = _ from u0]; rfl) | (unfold dkSo; simp only [*]; rfl)
    exact Or.inl ⟨dkN_sub d rfl, (by rw [e]; decide), ER.trans e.symm, trivial⟩
  ·
    have e : dkSo p0.toInt = 4 := by first | (rw [show p0.toInt = _ from u0]; rfl) | (unfold dkSo; simp only [*]; rfl)
    exact Or.inl ⟨dkN_sub d rfl, (by rw [e]; decide), ER.trans e.symm, trivial⟩
  ·
    have e : dkSo p0.toInt = 3 := by first | (rw [show p0.toInt = _ from u0]; rfl) | (unfold dkSo; simp only [*]; rfl)
    exact Or.inl ⟨dkN_sub d rfl, (by rw [e]; decide), ER.trans e.symm, trivial⟩
  ·
    have e : dkSo p0.toInt = 2 := by first | (rw [show p0.toInt = _ from u0]; rfl) | (unfold dkSo; simp only [*]; rfl)
    exact Or.inl ⟨dkN_sub d rfl, (by rw [e]; decide), ER.trans e.symm, trivial⟩
  ·
    have e : dkSo p0.toInt = 1 := by first | (rw [show p0.toInt = _ from u0]; rfl) | (unfold dkSo; simp only [*]; rfl)
    exact Or.inl ⟨dkN_sub d rfl, (by rw [e]; decide), ER.trans e.symm, trivial⟩
