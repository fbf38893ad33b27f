set_option maxHeartbeats 4000000 in
set_option maxRecDepth 100000 in
theorem fx_X5_isUpTo_13 (l : Launch) (g : dkG) (z : Nat) (I0 : dkI) (p0 : Int32) (p1 : Int32) (dp1 : dkN [(7, 7)] p1)  (hO : dkOk I0) : Met l yX5_isUpTo wsX5_isUpTo (dkR 0) (dkPc g z [.int p0, .int p1] I0) (dkQi g z (fun r I1 => dkF [] I0 I1 ∧ dkOk I1 ∧ ((dkN [(0, 0)] r ∧ dkN [(-2147483648, -1)] p0 ∧ p0.toInt + 1 ≤ (0 : Int) ∧ r = 0 ∧ True) ∨ (dkN [(0, 0)] r ∧ dkN [(8, 2147483647)] p0 ∧ (0 : Int) + 0 ≤ p0.toInt ∧ p1.toInt + 1 ≤ p0.toInt ∧ r = 0 ∧ True) ∨ (dkN [(1, 1)] r ∧ dkN [(0, 7)] p0 ∧ (0 : Int) + 0 ≤ p0.toInt ∧ p0.toInt + 0 ≤ p1.toInt ∧ r = 1 ∧ True)))) 0 0 (dkA z) := by
  refine Met.ofW (cc := cX5_isUpTo) (maxL := 2) (ret := (some .boolean)) (by decide) rfl ?_
  intro p e s m args below meth c s₁ B hml hv
  obtain ⟨ha, hW, hK, hT⟩ := hv
  have hx := B.exec
  have hb := B.bytes
  have hr := B.returns
  have hts := atoms_spec (ws := wsX5_isUpTo) B.pre
  have hown : s.vm.findClass RX5 = some m.cls := findClass_of_methodNamed B.named
  have hlocks := B.notSynchronized
  have hS : va_S (dkA z) s.heap s.heap [] := va_S.rf
  have hF : dkF [] I0 I0 := dkF_rf _ _
  have hl := lv_entry ([.int p0, .int p1]) (n := 2) (Nat.le_of_ble_eq_true rfl)
  have hgo : entryFrame m args 2 = entryFrame m ([.int p0, .int p1] : List Value).toArray 2 := by rw [ha]
  rw [hgo, lg_entry_eq]
  generalize (lg_sl ([.int p0, .int p1]) ++ List.replicate (2 - (lg_sl ([.int p0, .int p1])).length) Slot.unset).toArray = ls at hl ⊢
  have hl : lv_has ls 2 [(0, .int p0), (1, .int p1)] := hl
  refine lv_iload_n hx hb dX5_isUpTo_0 rfl (lv_at hl 0 rfl) ?_
  refine lv_if_lt (tgt := 13) hx hb dX5_isUpTo_1 (by decide) (fun c1 => ?_) (fun c1 => ?_)
  ·
    have q2 : p0.toInt + 1 ≤ (0 : Int) := (dkc_lt c1)
    have d3 : dkN [(-2147483648, -1)] p0 := dkN_le1 1 (dkN_top p0) (dkN_lit (x := 0) (0) rfl) (dkc_lt c1) rfl
    refine lv_iconst (v := 0) hx hb dX5_isUpTo_13 (by decide) ?_
    exact W.zret (v := 0) (ty := .boolean) hx hb hr rfl (fun t ht hW9 => ⟨⟨0, I0, rfl, ⟨hF, hO, Or.inl ⟨dkN_sub (dkN_lit (x := 0) (0) rfl) rfl, dkN_sub d3 rfl, q2, rfl, trivial⟩⟩, dkW_eq ht hW⟩, hS.F ht⟩) hS.2.2 dX5_isUpTo_14
  ·
    have q4 : (0 : Int) + 0 ≤ p0.toInt := (dkc_nlt c1)
    have d5 : dkN [(0, 2147483647)] p0 := dkN_le2 0 (dkN_lit (x := 0) (0) rfl) (dkN_top p0) (dkc_nlt c1) rfl
    refine lv_iload_n hx hb dX5_isUpTo_4 rfl (lv_at hl 0 rfl) ?_
    refine lv_iload_n hx hb dX5_isUpTo_5 rfl (lv_at hl 1 rfl) ?_
    refine lv_icmp_gt (tgt := 13) hx hb dX5_isUpTo_6 (by decide) (fun c6 => ?_) (fun c6 => ?_)
    ·
      have q7 : p1.toInt + 1 ≤ p0.toInt := (dkc_lt c6)
      have d8 : dkN [(8, 2147483647)] p0 := dkN_le2 1 dp1 d5 (dkc_lt c6) rfl
      refine lv_iconst (v := 0) hx hb dX5_isUpTo_13 (by decide) ?_
      exact W.zret (v := 0) (ty := .boolean) hx hb hr rfl (fun t ht hW9 => ⟨⟨0, I0, rfl, ⟨hF, hO, Or.inr (Or.inl ⟨dkN_sub (dkN_lit (x := 0) (0) rfl) rfl, dkN_sub d8 rfl, q4, q7, rfl, trivial⟩)⟩, dkW_eq ht hW⟩, hS.F ht⟩) hS.2.2 dX5_isUpTo_14
    ·
      have q9 : p0.toInt + 0 ≤ p1.toInt := (dkc_nlt c6)
      have d10 : dkN [(0, 7)] p0 := dkN_le1 0 d5 dp1 (dkc_nlt c6) rfl
      refine lv_iconst (v := 1) hx hb dX5_isUpTo_9 (by decide) ?_
      refine lv_goto (tgt := 14) hx hb dX5_isUpTo_10 (by decide) ?_
      exact W.zret (v := 1) (ty := .boolean) hx hb hr rfl (fun t ht hW9 => ⟨⟨1, I0, rfl, ⟨hF, hO, Or.inr (Or.inr (⟨dkN_sub (dkN_lit (x := 1) (1) rfl) rfl, dkN_sub d10 rfl, q4, q9, rfl, trivial⟩))⟩, dkW_eq ht hW⟩, hS.F ht⟩) hS.2.2 dX5_isUpTo_14
set_option maxHeartbeats 4000000 in
set_option maxRecDepth 100000 in
theorem fx_X5_isRow_1 (l : Launch) (g : dkG) (z : Nat) (I0 : dkI) (p0 : Int32)  (hO : dkOk I0) : Met l yX5_isRow wsX5_isRow (dkR 1) (dkPc g z [.int p0] I0) (dkQi g z (fun r I1 => dkF [] I0 I1 ∧ dkOk I1 ∧ ((dkN [(0, 0)] r ∧ dkN [(-2147483648, -1)] p0 ∧ p0.toInt + 1 ≤ (0 : Int) ∧ r = 0 ∧ True) ∨ (dkN [(0, 0)] r ∧ dkN [(8, 2147483647)] p0 ∧ (0 : Int) + 0 ≤ p0.toInt ∧ (7 : Int) + 1 ≤ p0.toInt ∧ r = 0 ∧ True) ∨ (dkN [(1, 1)] r ∧ dkN [(0, 7)] p0 ∧ (0 : Int) + 0 ≤ p0.toInt ∧ p0.toInt + 0 ≤ (7 : Int) ∧ r = 1 ∧ True)))) 0 0 (dkA z) := by
  refine Met.ofW (cc := cX5_isRow) (maxL := 1) (ret := (some .boolean)) (by decide) rfl ?_
  intro p e s m args below meth c s₁ B hml hv
  obtain ⟨ha, hW, hK, hT⟩ := hv
  have hx := B.exec
  have hb := B.bytes
  have hr := B.returns
  have hts := atoms_spec (ws := wsX5_isRow) B.pre
  have hown : s.vm.findClass RX5 = some m.cls := findClass_of_methodNamed B.named
  have hlocks := B.notSynchronized
  have hS : va_S (dkA z) s.heap s.heap [] := va_S.rf
  have hF : dkF [] I0 I0 := dkF_rf _ _
  have hl := lv_entry ([.int p0]) (n := 1) (Nat.le_of_ble_eq_true rfl)
  have hgo : entryFrame m args 1 = entryFrame m ([.int p0] : List Value).toArray 1 := by rw [ha]
  rw [hgo, lg_entry_eq]
  generalize (lg_sl ([.int p0]) ++ List.replicate (1 - (lg_sl ([.int p0])).length) Slot.unset).toArray = ls at hl ⊢
  have hl : lv_has ls 1 [(0, .int p0)] := hl
  refine lv_iload_n hx hb dX5_isRow_0 rfl (lv_at hl 0 rfl) ?_
  refine lv_bipush (v := 7) hx hb dX5_isRow_1 (by decide) ?_
  refine dk_Si (As := [.int p0, .int 7]) (rest := []) ⟨hx, hb, hml, hown, hts⟩ (fx_X5_isUpTo_13 l g z I0 p0 7 (dkN_lit (x := 7) (7) rfl) hO) (va_cwS 2 hts gX5_isRow_X5_isUpTo rfl rfl rfl (by decide +kernel) ⟨Nat.le_of_ble_eq_true rfl, Nat.le_of_ble_eq_true rfl⟩) hK hT hW hS rfl hl.1 rfl (Nat.le_of_ble_eq_true rfl) dX5_isRow_3 ⟨Nat.zero_le _, Nat.zero_le _⟩ (fun v1 I1 H1 L1 hp1 hW hS => ?_)
  obtain ⟨hF1, hO, hc1⟩ := hp1
  have hF := dkF_call hF hF1 rfl
  have eI1 : I0 = I1 := (dkF_nil hF1).symm
  subst eI1
  rcases hc1 with ⟨dv1, a1_0, x1_0, xr1, -⟩ | hc1
  ·
    have q2 : p0.toInt + 1 ≤ (0 : Int) := x1_0
    have xv1 : v1 = 0 := by have h := xr1; exact h
    have d3 : dkN [(-2147483648, -1)] p0 := dkN_eq1 (dkN_top p0) a1_0 rfl rfl
    exact W.zret (v := v1) (ty := .boolean) hx hb hr (dkN_zr dv1 rfl) (fun t ht hW9 => ⟨⟨v1, I0, rfl, ⟨hF, hO, Or.inl ⟨dkN_sub dv1 rfl, dkN_sub d3 rfl, q2, xv1, trivial⟩⟩, dkW_eq ht hW⟩, hS.F ht⟩) hS.2.2 dX5_isRow_6
  rcases hc1 with ⟨dv1, a1_0, x1_0, x1_1, xr1, -⟩ | hc1
  ·
    have q4 : (0 : Int) + 0 ≤ p0.toInt := x1_0
    have q5 : (7 : Int) + 1 ≤ p0.toInt := x1_1
    have xv1 : v1 = 0 := by have h := xr1; exact h
    have d6 : dkN [(8, 2147483647)] p0 := dkN_eq1 (dkN_top p0) a1_0 rfl rfl
    exact W.zret (v := v1) (ty := .boolean) hx hb hr (dkN_zr dv1 rfl) (fun t ht hW9 => ⟨⟨v1, I0, rfl, ⟨hF, hO, Or.inr (Or.inl ⟨dkN_sub dv1 rfl, dkN_sub d6 rfl, q4, q5, xv1, trivial⟩)⟩, dkW_eq ht hW⟩, hS.F ht⟩) hS.2.2 dX5_isRow_6
  ·
    obtain ⟨dv1, a1_0, x1_0, x1_1, xr1, -⟩ := hc1
    have q7 : (0 : Int) + 0 ≤ p0.toInt := x1_0
    have q8 : p0.toInt + 0 ≤ (7 : Int) := x1_1
    have xv1 : v1 = 1 := by have h := xr1; exact h
    have d9 : dkN [(0, 7)] p0 := dkN_eq1 (dkN_top p0) a1_0 rfl rfl
    exact W.zret (v := v1) (ty := .boolean) hx hb hr (dkN_zr dv1 rfl) (fun t ht hW9 => ⟨⟨v1, I0, rfl, ⟨hF, hO, Or.inr (Or.inr (⟨dkN_sub dv1 rfl, dkN_sub d9 rfl, q7, q8, xv1, trivial⟩))⟩, dkW_eq ht hW⟩, hS.F ht⟩) hS.2.2 dX5_isRow_6
set_option maxHeartbeats 4000000 in
set_option maxRecDepth 100000 in
theorem fx_X5_isUpTo_14 (l : Launch) (g : dkG) (z : Nat) (I0 : dkI) (p0 : Int32) (p1 : Int32) (dp1 : dkN [(2, 2)] p1)  (hO : dkOk I0) : Met l yX5_isUpTo wsX5_isUpTo (dkR 0) (dkPc g z [.int p0, .int p1] I0) (dkQi g z (fun r I1 => dkF [] I0 I1 ∧ dkOk I1 ∧ ((dkN [(0, 0)] r ∧ dkN [(-2147483648, -1)] p0 ∧ p0.toInt + 1 ≤ (0 : Int) ∧ r = 0 ∧ True) ∨ (dkN [(0, 0)] r ∧ dkN [(3, 2147483647)] p0 ∧ (0 : Int) + 0 ≤ p0.toInt ∧ p1.toInt + 1 ≤ p0.toInt ∧ r = 0 ∧ True) ∨ (dkN [(1, 1)] r ∧ dkN [(0, 2)] p0 ∧ (0 : Int) + 0 ≤ p0.toInt ∧ p0.toInt + 0 ≤ p1.toInt ∧ r = 1 ∧ True)))) 0 0 (dkA z) := by
  refine Met.ofW (cc := cX5_isUpTo) (maxL := 2) (ret := (some .boolean)) (by decide) rfl ?_
  intro p e s m args below meth c s₁ B hml hv
  obtain ⟨ha, hW, hK, hT⟩ := hv
  have hx := B.exec
  have hb := B.bytes
  have hr := B.returns
  have hts := atoms_spec (ws := wsX5_isUpTo) B.pre
  have hown : s.vm.findClass RX5 = some m.cls := findClass_of_methodNamed B.named
  have hlocks := B.notSynchronized
  have hS : va_S (dkA z) s.heap s.heap [] := va_S.rf
  have hF : dkF [] I0 I0 := dkF_rf _ _
  have hl := lv_entry ([.int p0, .int p1]) (n := 2) (Nat.le_of_ble_eq_true rfl)
  have hgo : entryFrame m args 2 = entryFrame m ([.int p0, .int p1] : List Value).toArray 2 := by rw [ha]
  rw [hgo, lg_entry_eq]
  generalize (lg_sl ([.int p0, .int p1]) ++ List.replicate (2 - (lg_sl ([.int p0, .int p1])).length) Slot.unset).toArray = ls at hl ⊢
  have hl : lv_has ls 2 [(0, .int p0), (1, .int p1)] := hl
  refine lv_iload_n hx hb dX5_isUpTo_0 rfl (lv_at hl 0 rfl) ?_
  refine lv_if_lt (tgt := 13) hx hb dX5_isUpTo_1 (by decide) (fun c1 => ?_) (fun c1 => ?_)
  ·
    have q2 : p0.toInt + 1 ≤ (0 : Int) := (dkc_lt c1)
    have d3 : dkN [(-2147483648, -1)] p0 := dkN_le1 1 (dkN_top p0) (dkN_lit (x := 0) (0) rfl) (dkc_lt c1) rfl
    refine lv_iconst (v := 0) hx hb dX5_isUpTo_13 (by decide) ?_
    exact W.zret (v := 0) (ty := .boolean) hx hb hr rfl (fun t ht hW9 => ⟨⟨0, I0, rfl, ⟨hF, hO, Or.inl ⟨dkN_sub (dkN_lit (x := 0) (0) rfl) rfl, dkN_sub d3 rfl, q2, rfl, trivial⟩⟩, dkW_eq ht hW⟩, hS.F ht⟩) hS.2.2 dX5_isUpTo_14
  ·
    have q4 : (0 : Int) + 0 ≤ p0.toInt := (dkc_nlt c1)
    have d5 : dkN [(0, 2147483647)] p0 := dkN_le2 0 (dkN_lit (x := 0) (0) rfl) (dkN_top p0) (dkc_nlt c1) rfl
    refine lv_iload_n hx hb dX5_isUpTo_4 rfl (lv_at hl 0 rfl) ?_
    refine lv_iload_n hx hb dX5_isUpTo_5 rfl (lv_at hl 1 rfl) ?_
    refine lv_icmp_gt (tgt := 13) hx hb dX5_isUpTo_6 (by decide) (fun c6 => ?_) (fun c6 => ?_)
    ·
      have q7 : p1.toInt + 1 ≤ p0.toInt := (dkc_lt c6)
      have d8 : dkN [(3, 2147483647)] p0 := dkN_le2 1 dp1 d5 (dkc_lt c6) rfl
      refine lv_iconst (v := 0) hx hb dX5_isUpTo_13 (by decide) ?_
      exact W.zret (v := 0) (ty := .boolean) hx hb hr rfl (fun t ht hW9 => ⟨⟨0, I0, rfl, ⟨hF, hO, Or.inr (Or.inl ⟨dkN_sub (dkN_lit (x := 0) (0) rfl) rfl, dkN_sub d8 rfl, q4, q7, rfl, trivial⟩)⟩, dkW_eq ht hW⟩, hS.F ht⟩) hS.2.2 dX5_isUpTo_14
    ·
      have q9 : p0.toInt + 0 ≤ p1.toInt := (dkc_nlt c6)
      have d10 : dkN [(0, 2)] p0 := dkN_le1 0 d5 dp1 (dkc_nlt c6) rfl
      refine lv_iconst (v := 1) hx hb dX5_isUpTo_9 (by decide) ?_
      refine lv_goto (tgt := 14) hx hb dX5_isUpTo_10 (by decide) ?_
      exact W.zret (v := 1) (ty := .boolean) hx hb hr rfl (fun t ht hW9 => ⟨⟨1, I0, rfl, ⟨hF, hO, Or.inr (Or.inr (⟨dkN_sub (dkN_lit (x := 1) (1) rfl) rfl, dkN_sub d10 rfl, q4, q9, rfl, trivial⟩))⟩, dkW_eq ht hW⟩, hS.F ht⟩) hS.2.2 dX5_isUpTo_14
set_option maxHeartbeats 4000000 in
set_option maxRecDepth 100000 in
theorem fx_X5_found_5 (l : Launch) (g : dkG) (z : Nat) (I0 : dkI) (p0 : Int32) (dp0 : dkN [(4, 4)] p0)  (hO : dkOk I0) : Met l yX5_found wsX5_found (dkR 0) (dkPc g z [.ref (z + 0), .int p0] I0) (dkQi g z (fun r I1 => dkF [(0, 0, 3, 3)] I0 I1 ∧ dkOk I1 ∧ ((dkN [(-1000014, -1000014)] r ∧ dkN [(4, 4)] (I1 0 3) ∧ ((-1000010 : Int32) - p0).toInt = (-1000010 : Int) - p0.toInt ∧ r = (-1000010 : Int32) - p0 ∧ I1 0 3 = p0 ∧ True)))) 0 0 (dkA z) := by
  refine Met.ofW (cc := cX5_found) (maxL := 2) (ret := (some .int)) (by decide) rfl ?_
  intro p e s m args below meth c s₁ B hml hv
  obtain ⟨ha, hW, hK, hT⟩ := hv
  have hx := B.exec
  have hb := B.bytes
  have hr := B.returns
  have hts := atoms_spec (ws := wsX5_found) B.pre
  have hown : s.vm.findClass RX5 = some m.cls := findClass_of_methodNamed B.named
  have hlocks := B.notSynchronized
  have hS : va_S (dkA z) s.heap s.heap [] := va_S.rf
  have hF : dkF [(0, 0, 3, 3)] I0 I0 := dkF_rf _ _
  have hl := lv_entry ([.ref (z + 0), .int p0]) (n := 2) (Nat.le_of_ble_eq_true rfl)
  have hgo : entryFrame m args 2 = entryFrame m ([.ref (z + 0), .int p0] : List Value).toArray 2 := by rw [ha]
  rw [hgo, lg_entry_eq]
  generalize (lg_sl ([.ref (z + 0), .int p0]) ++ List.replicate (2 - (lg_sl ([.ref (z + 0), .int p0])).length) Slot.unset).toArray = ls at hl ⊢
  have hl : lv_has ls 2 [(0, .ref (z + 0)), (1, .int p0)] := hl
  refine lv_aload_n hx hb dX5_found_0 rfl (lv_at hl 0 rfl) ?_
  refine lv_iload_n hx hb dX5_found_1 rfl (lv_at hl 1 rfl) ?_
  refine dk_put (k := 0) hx hb hts iX5_found_5 tyX5 tyX5_ok nmX5 hown hK hW (dk_at0 hW) hS rfl 3 (by decide) (hts (.fieldLink RX5 292 "DogKings" "finding" "I") (List.mem_of_getElem? (i := 1) rfl)) rfl rfl (Nat.le_of_ble_eq_true rfl) rfl dX5_found_2 (fun I1 H1 L1 eI1 hW hS => ?_)
  have eI1 : I1 = dkU I0 0 3 p0 := eI1
  have hO := dkO_set hO eI1 (dkN_sub dp0 rfl)
  have hF := dkF_set hF eI1 rfl
  refine lv_ldcw (v := (-1000010)) hx hb hown (hts (.constant RX5 295 (-1000010)) (List.mem_of_getElem? (i := 2) rfl)) dX5_found_5 ?_
  refine lv_iload_n hx hb dX5_found_8 rfl (lv_at hl 1 rfl) ?_
  refine lv_isub hx hb dX5_found_9 ?_
  refine lv_topi (fun v2 ev2 => ?_)
  have dv2 : dkN [(-1000014, -1000014)] v2 := by rw [ev2]; exact dkN_subt (dkN_lit (x := (-1000010)) (-1000010) rfl) dp0 rfl
  have xv2 : v2 = (-1000010 : Int32) - p0 := by rw [ev2]
  have q3 : ((-1000010 : Int32) - p0).toInt = (-1000010 : Int) - p0.toInt := by first | (rw [← xv2]; exact (by rw [ev2]; exact dk_subE (dkN_lit (x := (-1000010)) (-1000010) rfl) dp0 rfl)) | (subst xv2; exact (by rw [ev2]; exact dk_subE (dkN_lit (x := (-1000010)) (-1000010) rfl) dp0 rfl))
  exact W.iret (v := v2) hx hb hr (fun t ht hW9 => ⟨⟨v2, I1, rfl, ⟨hF, hO, ⟨dkN_sub dv2 rfl, (show dkN [(4, 4)] (I1 0 3) from dkN_sub (by rw [eI1, dkU_ss]; exact dp0) rfl), q3, xv2, (by rw [eI1, dkU_ss]), trivial⟩⟩, dkW_eq ht hW⟩, hS.F ht⟩) hS.2.2 dX5_found_10
set_option maxHeartbeats 4000000 in
set_option maxRecDepth 100000 in
theorem fx_X5_nothingFound_1 (l : Launch) (g : dkG) (z : Nat) (I0 : dkI) (p0 : Int32)  (hO : dkOk I0) : Met l yX5_nothingFound wsX5_nothingFound (dkR 0) (dkPc g z [.ref (z + 0), .int p0] I0) (dkQi g z (fun r I1 => dkF [(0, 0, 3, 3)] I0 I1 ∧ dkOk I1 ∧ ((True ∧ dkN [(0, 0)] (I1 0 3) ∧ r = p0 ∧ I1 0 3 = 0 ∧ True)))) 0 0 (dkA z) := by
  refine Met.ofW (cc := cX5_nothingFound) (maxL := 2) (ret := (some .int)) (by decide) rfl ?_
  intro p e s m args below meth c s₁ B hml hv
  obtain ⟨ha, hW, hK, hT⟩ := hv
  have hx := B.exec
  have hb := B.bytes
  have hr := B.returns
  have hts := atoms_spec (ws := wsX5_nothingFound) B.pre
  have hown : s.vm.findClass RX5 = some m.cls := findClass_of_methodNamed B.named
  have hlocks := B.notSynchronized
  have hS : va_S (dkA z) s.heap s.heap [] := va_S.rf
  have hF : dkF [(0, 0, 3, 3)] I0 I0 := dkF_rf _ _
  have hl := lv_entry ([.ref (z + 0), .int p0]) (n := 2) (Nat.le_of_ble_eq_true rfl)
  have hgo : entryFrame m args 2 = entryFrame m ([.ref (z + 0), .int p0] : List Value).toArray 2 := by rw [ha]
  rw [hgo, lg_entry_eq]
  generalize (lg_sl ([.ref (z + 0), .int p0]) ++ List.replicate (2 - (lg_sl ([.ref (z + 0), .int p0])).length) Slot.unset).toArray = ls at hl ⊢
  have hl : lv_has ls 2 [(0, .ref (z + 0)), (1, .int p0)] := hl
  refine lv_aload_n hx hb dX5_nothingFound_0 rfl (lv_at hl 0 rfl) ?_
  refine lv_iconst (v := 0) hx hb dX5_nothingFound_1 (by decide) ?_
  refine dk_put (k := 0) hx hb hts iX5_nothingFound_5 tyX5 tyX5_ok nmX5 hown hK hW (dk_at0 hW) hS rfl 3 (by decide) (hts (.fieldLink RX5 292 "DogKings" "finding" "I") (List.mem_of_getElem? (i := 1) rfl)) rfl rfl (Nat.le_of_ble_eq_true rfl) rfl dX5_nothingFound_2 (fun I1 H1 L1 eI1 hW hS => ?_)
  have eI1 : I1 = dkU I0 0 3 0 := eI1
  have hO := dkO_set hO eI1 (dkN_sub (dkN_lit (x := 0) (0) rfl) rfl)
  have hF := dkF_set hF eI1 rfl
  refine lv_iload_n hx hb dX5_nothingFound_5 rfl (lv_at hl 1 rfl) ?_
  exact W.iret (v := p0) hx hb hr (fun t ht hW9 => ⟨⟨p0, I1, rfl, ⟨hF, hO, ⟨trivial, (show dkN [(0, 0)] (I1 0 3) from dkN_sub (by rw [eI1, dkU_ss]; exact (dkN_lit (x := 0) (0) rfl)) rfl), rfl, (by rw [eI1, dkU_ss]), trivial⟩⟩, dkW_eq ht hW⟩, hS.F ht⟩) hS.2.2 dX5_nothingFound_6
set_option maxHeartbeats 4000000 in
set_option maxRecDepth 100000 in
theorem fx_X5_row_1 (l : Launch) (g : dkG) (z : Nat) (I0 : dkI) (p0 : Int32) (p1 : Int32) (p2 : Int32)  (hO : dkOk I0) : Met l yX5_row wsX5_row (dkR 2) (dkPc g z [.ref (z + 0), .int p0, .int p1, .int p2] I0) (dkQi g z (fun r I1 => dkF [(2, 9, 0, 2147483647), (0, 0, 3, 3), (10, 10, 0, 7), (11, 11, 0, 7)] I0 I1 ∧ dkOk I1 ∧ ((dkN [(-1000001, -1000001)] r ∧ dkN [(-2147483648, -1)] p0 ∧ p0.toInt + 1 ≤ (0 : Int) ∧ r = (-1000001) ∧ I1 0 3 = I0 0 3 ∧ I1 10  = I0 10 ∧ I1 11  = I0 11 ∧ True) ∨ (dkN [(-1000001, -1000001)] r ∧ dkN [(8, 2147483647)] p0 ∧ (0 : Int) + 0 ≤ p0.toInt ∧ (7 : Int) + 1 ≤ p0.toInt ∧ r = (-1000001) ∧ I1 0 3 = I0 0 3 ∧ I1 10  = I0 10 ∧ I1 11  = I0 11 ∧ True) ∨ (dkN [(-1000001, -1000001)] r ∧ dkN [(0, 7)] p0 ∧ dkN [(-2147483648, -1)] p1 ∧ (0 : Int) + 0 ≤ p0.toInt ∧ p0.toInt + 0 ≤ (7 : Int) ∧ p1.toInt + 1 ≤ (0 : Int) ∧ r = (-1000001) ∧ I1 0 3 = I0 0 3 ∧ I1 10  = I0 10 ∧ I1 11  = I0 11 ∧ True) ∨ (dkN [(-1000001, -1000001)] r ∧ dkN [(0, 7)] p0 ∧ dkN [(3, 2147483647)] p1 ∧ (0 : Int) + 0 ≤ p0.toInt ∧ p0.toInt + 0 ≤ (7 : Int) ∧ (0 : Int) + 0 ≤ p1.toInt ∧ (2 : Int) + 1 ≤ p1.toInt ∧ r = (-1000001) ∧ I1 0 3 = I0 0 3 ∧ I1 10  = I0 10 ∧ I1 11  = I0 11 ∧ True) ∨ (dkN [(-1000014, -1000014)] r ∧ dkN [(0, 7)] p0 ∧ dkN [(0, 2)] p1 ∧ dkN [(-2147483648, -1)] p2 ∧ dkN [(4, 4)] (I1 0 3) ∧ (0 : Int) + 0 ≤ p0.toInt ∧ p0.toInt + 0 ≤ (7 : Int) ∧ (0 : Int) + 0 ≤ p1.toInt ∧ p1.toInt + 0 ≤ (2 : Int) ∧ p2.toInt + 0 ≤ (40 : Int) ∧ p2.toInt + 1 ≤ (0 : Int) ∧ ((-1000010 : Int32) - (4 : Int32)).toInt = (-1000010 : Int) - (4 : Int) ∧ r = (-1000010 : Int32) - (4 : Int32) ∧ I1 0 3 = 4 ∧ I1 10  = I0 10 ∧ I1 11  = I0 11 ∧ True) ∨ (dkN [(-1000001, -1000001)] r ∧ dkN [(0, 7)] p0 ∧ dkN [(0, 2)] p1 ∧ dkN [(41, 2147483647)] p2 ∧ (0 : Int) + 0 ≤ p0.toInt ∧ p0.toInt + 0 ≤ (7 : Int) ∧ (0 : Int) + 0 ≤ p1.toInt ∧ p1.toInt + 0 ≤ (2 : Int) ∧ (40 : Int) + 1 ≤ p2.toInt ∧ r = (-1000001) ∧ I1 0 3 = I0 0 3 ∧ I1 10  = I0 10 ∧ I1 11  = I0 11 ∧ True) ∨ (True ∧ dkN [(0, 7)] p0 ∧ dkN [(0, 2)] p1 ∧ dkN [(0, 40)] p2 ∧ dkN [(0, 0)] (I1 0 3) ∧ (0 : Int) + 0 ≤ p0.toInt ∧ p0.toInt + 0 ≤ (7 : Int) ∧ (0 : Int) + 0 ≤ p1.toInt ∧ p1.toInt + 0 ≤ (2 : Int) ∧ p2.toInt + 0 ≤ (40 : Int) ∧ (0 : Int) + 0 ≤ p2.toInt ∧ r = p2 ∧ I1 0 3 = 0 ∧ I1 10  = dkV (I0 10) (Int32.toNatClampNeg p0) p1 ∧ I1 11  = dkV (I0 11) (Int32.toNatClampNeg p0) p2 ∧ True)))) 0 0 (dkA z) := by
  refine Met.ofW (cc := cX5_row) (maxL := 5) (ret := (some .int)) (by decide) rfl ?_
  intro p e s m args below meth c s₁ B hml hv
  obtain ⟨ha, hW, hK, hT⟩ := hv
  have hx := B.exec
  have hb := B.bytes
  have hr := B.returns
  have hts := atoms_spec (ws := wsX5_row) B.pre
  have hown : s.vm.findClass RX5 = some m.cls := findClass_of_methodNamed B.named
  have hlocks := B.notSynchronized
  have hS : va_S (dkA z) s.heap s.heap [] := va_S.rf
  have hF : dkF [(2, 9, 0, 2147483647), (0, 0, 3, 3), (10, 10, 0, 7), (11, 11, 0, 7)] I0 I0 := dkF_rf _ _
  have hl := lv_entry ([.ref (z + 0), .int p0, .int p1, .int p2]) (n := 5) (Nat.le_of_ble_eq_true rfl)
  have hgo : entryFrame m args 5 = entryFrame m ([.ref (z + 0), .int p0, .int p1, .int p2] : List Value).toArray 5 := by rw [ha]
  rw [hgo, lg_entry_eq]
  generalize (lg_sl ([.ref (z + 0), .int p0, .int p1, .int p2]) ++ List.replicate (5 - (lg_sl ([.ref (z + 0), .int p0, .int p1, .int p2])).length) Slot.unset).toArray = ls at hl ⊢
  have hl : lv_has ls 5 [(0, .ref (z + 0)), (1, .int p0), (2, .int p1), (3, .int p2)] := hl
  have C37 : ∀ (n : Nat), ∀ (I : dkI) (H : Heap) (locs : List Loc) (ls : Array Slot) (x37_4 : Int32), (40 - x37_4.toInt).toNat < n → dkW g z I H → va_S (dkA z) s.heap H locs → dkF [(2, 9, 0, 2147483647), (0, 0, 3, 3), (10, 10, 0, 7), (11, 11, 0, 7)] I0 I → dkOk I → dkN [(0, 40)] x37_4 → dkN [(0, 7)] p0 → dkN [(0, 2)] p1 → dkN [(0, 40)] p2 → I 10 = I0 10 → I 11 = I0 11 → (0 : Int) + 0 ≤ p0.toInt → p0.toInt + 0 ≤ (7 : Int) → (0 : Int) + 0 ≤ p1.toInt → p1.toInt + 0 ≤ (2 : Int) → p2.toInt + 0 ≤ (40 : Int) → (0 : Int) + 0 ≤ p2.toInt → lv_has ls 5 [(0, .ref (z + 0)), (1, .int p0), (2, .int p1), (3, .int p2), (4, .int x37_4)] → W p l e (headSpec wsX5_row (dkR 2)).room s m args below meth c H locs 0 0 (MQ below (dkQi g z (fun r I1 => dkF [(2, 9, 0, 2147483647), (0, 0, 3, 3), (10, 10, 0, 7), (11, 11, 0, 7)] I0 I1 ∧ dkOk I1 ∧ ((dkN [(-1000001, -1000001)] r ∧ dkN [(-2147483648, -1)] p0 ∧ p0.toInt + 1 ≤ (0 : Int) ∧ r = (-1000001) ∧ I1 0 3 = I0 0 3 ∧ I1 10  = I0 10 ∧ I1 11  = I0 11 ∧ True) ∨ (dkN [(-1000001, -1000001)] r ∧ dkN [(8, 2147483647)] p0 ∧ (0 : Int) + 0 ≤ p0.toInt ∧ (7 : Int) + 1 ≤ p0.toInt ∧ r = (-1000001) ∧ I1 0 3 = I0 0 3 ∧ I1 10  = I0 10 ∧ I1 11  = I0 11 ∧ True) ∨ (dkN [(-1000001, -1000001)] r ∧ dkN [(0, 7)] p0 ∧ dkN [(-2147483648, -1)] p1 ∧ (0 : Int) + 0 ≤ p0.toInt ∧ p0.toInt + 0 ≤ (7 : Int) ∧ p1.toInt + 1 ≤ (0 : Int) ∧ r = (-1000001) ∧ I1 0 3 = I0 0 3 ∧ I1 10  = I0 10 ∧ I1 11  = I0 11 ∧ True) ∨ (dkN [(-1000001, -1000001)] r ∧ dkN [(0, 7)] p0 ∧ dkN [(3, 2147483647)] p1 ∧ (0 : Int) + 0 ≤ p0.toInt ∧ p0.toInt + 0 ≤ (7 : Int) ∧ (0 : Int) + 0 ≤ p1.toInt ∧ (2 : Int) + 1 ≤ p1.toInt ∧ r = (-1000001) ∧ I1 0 3 = I0 0 3 ∧ I1 10  = I0 10 ∧ I1 11  = I0 11 ∧ True) ∨ (dkN [(-1000014, -1000014)] r ∧ dkN [(0, 7)] p0 ∧ dkN [(0, 2)] p1 ∧ dkN [(-2147483648, -1)] p2 ∧ dkN [(4, 4)] (I1 0 3) ∧ (0 : Int) + 0 ≤ p0.toInt ∧ p0.toInt + 0 ≤ (7 : Int) ∧ (0 : Int) + 0 ≤ p1.toInt ∧ p1.toInt + 0 ≤ (2 : Int) ∧ p2.toInt + 0 ≤ (40 : Int) ∧ p2.toInt + 1 ≤ (0 : Int) ∧ ((-1000010 : Int32) - (4 : Int32)).toInt = (-1000010 : Int) - (4 : Int) ∧ r = (-1000010 : Int32) - (4 : Int32) ∧ I1 0 3 = 4 ∧ I1 10  = I0 10 ∧ I1 11  = I0 11 ∧ True) ∨ (dkN [(-1000001, -1000001)] r ∧ dkN [(0, 7)] p0 ∧ dkN [(0, 2)] p1 ∧ dkN [(41, 2147483647)] p2 ∧ (0 : Int) + 0 ≤ p0.toInt ∧ p0.toInt + 0 ≤ (7 : Int) ∧ (0 : Int) + 0 ≤ p1.toInt ∧ p1.toInt + 0 ≤ (2 : Int) ∧ (40 : Int) + 1 ≤ p2.toInt ∧ r = (-1000001) ∧ I1 0 3 = I0 0 3 ∧ I1 10  = I0 10 ∧ I1 11  = I0 11 ∧ True) ∨ (True ∧ dkN [(0, 7)] p0 ∧ dkN [(0, 2)] p1 ∧ dkN [(0, 40)] p2 ∧ dkN [(0, 0)] (I1 0 3) ∧ (0 : Int) + 0 ≤ p0.toInt ∧ p0.toInt + 0 ≤ (7 : Int) ∧ (0 : Int) + 0 ≤ p1.toInt ∧ p1.toInt + 0 ≤ (2 : Int) ∧ p2.toInt + 0 ≤ (40 : Int) ∧ (0 : Int) + 0 ≤ p2.toInt ∧ r = p2 ∧ I1 0 3 = 0 ∧ I1 10  = dkV (I0 10) (Int32.toNatClampNeg p0) p1 ∧ I1 11  = dkV (I0 11) (Int32.toNatClampNeg p0) p2 ∧ True)))) args s 0 0 (dkA z)) (F0 m 37 ls []) := by
    intro n
    induction n with
    | zero => intro I H locs ls x37_4 hn; exact absurd hn (Nat.not_lt_zero _)
    | succ n ih37 =>
      intro I37_ H locs ls x37_4 hn37 hW hS hF_37 hO k37_0 r37_0 r37_1 r37_2 z37_0 z37_1 y37_0 y37_1 y37_2 y37_3 y37_4 y37_5 hl
      have hF := hF_37
      refine lv_iload hx hb dX5_row_37 (lv_at hl 4 rfl) ?_
      refine lv_iload_n hx hb dX5_row_39 rfl (lv_at hl 3 rfl) ?_
      refine lv_icmp_ge (tgt := 59) hx hb dX5_row_40 (by decide) (fun c1 => ?_) (fun c1 => ?_)
      ·
        refine lv_aload_n hx hb dX5_row_59 rfl (lv_at hl 0 rfl) ?_
        refine dk_get (k := 0) hx hb hts iX5_row_5 hown hK (dk_at0 hW) rfl 1 (by decide) (hts (.fieldLink RX5 14 "DogKings" "lanes" "[I") (List.mem_of_getElem? (i := 3) rfl)) rfl dX5_row_60 ?_
        refine lv_iload_n hx hb dX5_row_63 rfl (lv_at hl 1 rfl) ?_
        refine lv_iload_n hx hb dX5_row_64 rfl (lv_at hl 2 rfl) ?_
        refine dk_ist (k := 10) hx hb hK hW (fun _ => rfl) (by decide) hS (dkN_in (n := 8) r37_0 rfl) dX5_row_65 (fun I2 H2 L2 eI2 hW hS => ?_)
        have hO := dkO_set hO eI2 (dkN_sub r37_1 rfl)
        have hF := dkF_set hF eI2 (dkIn_v r37_0 rfl)
        refine lv_aload_n hx hb dX5_row_66 rfl (lv_at hl 0 rfl) ?_
        refine dk_get (k := 0) hx hb hts iX5_row_5 hown hK (dk_at0 hW) rfl 2 (by decide) (hts (.fieldLink RX5 18 "DogKings" "sizes" "[I") (List.mem_of_getElem? (i := 4) rfl)) rfl dX5_row_67 ?_
        refine lv_iload_n hx hb dX5_row_70 rfl (lv_at hl 1 rfl) ?_
        refine lv_iload_n hx hb dX5_row_71 rfl (lv_at hl 3 rfl) ?_
        refine dk_ist (k := 11) hx hb hK hW (fun _ => rfl) (by decide) hS (dkN_in (n := 8) r37_0 rfl) dX5_row_72 (fun I3 H3 L3 eI3 hW hS => ?_)
        have hO := dkO_set hO eI3 (dkN_sub r37_2 rfl)
        have hF := dkF_set hF eI3 (dkIn_v r37_0 rfl)
        refine lv_aload_n hx hb dX5_row_73 rfl (lv_at hl 0 rfl) ?_
        refine lv_iload_n hx hb dX5_row_74 rfl (lv_at hl 3 rfl) ?_
        refine dk_Vi (As := [.int p2]) (rest := []) ⟨hx, hb, hml, hown, hts⟩ (fx_X5_nothingFound_1 l g z I3 p2 hO) (cwV 1 hts gX5_row_X5_nothingFound rfl rfl rfl (by decide +kernel) ⟨Nat.le_of_ble_eq_true rfl, Nat.le_of_ble_eq_true rfl⟩) (dk_at0 hW) rfl hK hT hW hS rfl hl.1 rfl (Nat.le_of_ble_eq_true rfl) dX5_row_75 ⟨Nat.zero_le _, Nat.zero_le _⟩ (fun v4 I4 H4 L4 hp4 hW hS => ?_)
        obtain ⟨hF4, hO, hc4⟩ := hp4
        have hF := dkF_call hF hF4 rfl
        obtain ⟨_, f4_0_3, xr4, xh4_0, -⟩ := hc4
        have y5 : I4 0 3 = 0 := by have h := xh4_0; exact h
        have xv4 : v4 = p2 := by have h := xr4; exact h
        exact W.iret (v := v4) hx hb hr (fun t ht hW9 => ⟨⟨v4, I4, rfl, ⟨hF, hO, Or.inr (Or.inr (Or.inr (Or.inr (Or.inr (Or.inr (⟨trivial, dkN_sub r37_0 rfl, dkN_sub r37_1 rfl, dkN_sub r37_2 rfl, (show dkN [(0, 0)] (I4 0 3) from dkN_sub f4_0_3 rfl), y37_0, y37_1, y37_2, y37_3, y37_4, y37_5, xv4, y5, ((funext fun j => hF4 10 j (dkNin_k rfl dkNin_nil)).trans ((by rw [eI3, dkU_n (by decide)] : I3 10 = _).trans (by rw [eI2, dkU_s, z37_0]))), ((funext fun j => hF4 11 j (dkNin_k rfl dkNin_nil)).trans (by rw [eI3, dkU_s, ((by rw [eI2, dkU_n (by decide)] : I2 11 = _).trans z37_1)])), trivial⟩))))))⟩, dkW_eq ht hW⟩, hS.F ht⟩) hS.2.2 dX5_row_78
      ·
        have d6 : dkN [(1, 40)] p2 := dkN_le2 1 k37_0 r37_2 (dkc_nle c1) rfl
        have d7 : dkN [(0, 39)] x37_4 := dkN_le1 1 k37_0 r37_2 (dkc_nle c1) rfl
        refine lv_aload_n hx hb dX5_row_43 rfl (lv_at hl 0 rfl) ?_
        refine dk_get (k := 0) hx hb hts iX5_row_5 hown hK (dk_at0 hW) rfl 0 (by decide) (hts (.fieldLink RX5 11 "DogKings" "items" "[[I") (List.mem_of_getElem? (i := 2) rfl)) rfl dX5_row_44 ?_
        refine lv_iload_n hx hb dX5_row_47 rfl (lv_at hl 1 rfl) ?_
        obtain ⟨rf8, hrf8, erf8⟩ := dk_rowAt (z := z) (dkN_in (n := 8) r37_0 rfl)
        refine dk_rld (r := z + rf8) hx hb hK (dk_at1 hW) (dkN_in (n := 8) r37_0 rfl) erf8 dX5_row_48 ?_
        refine lv_iload hx hb dX5_row_49 (lv_at hl 4 rfl) ?_
        refine lv_iconst (v := 0) hx hb dX5_row_51 (by decide) ?_
        refine dk_ist (k := rf8) hx hb hK hW (dkC_R g z hrf8) (by omega) hS (dkN_in (n := 40) d7 rfl) dX5_row_52 (fun I9 H9 L9 eI9 hW hS => ?_)
        have hO := dkO_setR hO hrf8 eI9
        have hF := dkF_set hF eI9 (dkIn_R hrf8 (dk_clt _) rfl)
        obtain ⟨v10, ev10⟩ : ∃ y : Int32, y = x37_4 + 1 := ⟨_, rfl⟩
        have dv10 : dkN [(1, 40)] v10 := by rw [ev10]; exact dkN_add d7 (dkN_lit (x := 1) (1) rfl) rfl
        refine lv_iinc (v := v10) (lv' := [(4, .int v10), (0, .ref (z + 0)), (1, .int p0), (2, .int p1), (3, .int p2)]) hx hb dX5_row_53 hl (k := 4) rfl (by rw [ev10]; rfl) (by decide) rfl (fun ls hl => ?_)
        refine lv_goto (tgt := 37) hx hb dX5_row_56 (by decide) ?_
        exact ih37 I9 _ _ ls v10 (dk_near hn37 (by rw [ev10]; exact dk_inc d7 rfl) (dkN_lt d7 rfl)) hW hS hF hO (dkN_sub dv10 rfl) (dkN_sub r37_0 rfl) (dkN_sub r37_1 rfl) (dkN_sub d6 rfl) ((by rw [eI9, dkU_n (Ne.symm (by omega))] : I9 10 = _).trans z37_0) ((by rw [eI9, dkU_n (Ne.symm (by omega))] : I9 11 = _).trans z37_1) y37_0 y37_1 y37_2 y37_3 y37_4 y37_5 (lv_sub hl [1, 2, 3, 4, 0] rfl)
  refine lv_iload_n hx hb dX5_row_0 rfl (lv_at hl 1 rfl) ?_
  refine dk_Si (As := [.int p0]) (rest := []) ⟨hx, hb, hml, hown, hts⟩ (fx_X5_isRow_1 l g z I0 p0 hO) (va_cwS 1 hts gX5_row_X5_isRow rfl rfl rfl (by decide +kernel) ⟨Nat.le_of_ble_eq_true rfl, Nat.le_of_ble_eq_true rfl⟩) hK hT hW hS rfl hl.1 rfl (Nat.le_of_ble_eq_true rfl) dX5_row_1 ⟨Nat.zero_le _, Nat.zero_le _⟩ (fun v11 I11 H11 L11 hp11 hW hS => ?_)
  obtain ⟨hF11, hO, hc11⟩ := hp11
  have hF := dkF_call hF hF11 rfl
  have eI11 : I0 = I11 := (dkF_nil hF11).symm
  subst eI11
  rcases hc11 with ⟨dv11, a11_0, x11_0, xr11, -⟩ | hc11
  ·
    have q12 : p0.toInt + 1 ≤ (0 : Int) := x11_0
    have xv11 : v11 = 0 := by have h := xr11; exact h
    have d13 : dkN [(-2147483648, -1)] p0 := dkN_eq1 (dkN_top p0) a11_0 rfl rfl
    refine lv_if_eq (tgt := 21) hx hb dX5_row_4 (by decide) (fun c14 => ?_) (fun c14 => ?_)
    ·
      refine lv_ldc (v := (-1000001)) hx hb hown (hts (.constant RX5 70 (-1000001)) (List.mem_of_getElem? (i := 1) rfl)) dX5_row_21 ?_
      exact W.iret (v := (-1000001)) hx hb hr (fun t ht hW9 => ⟨⟨(-1000001), I0, rfl, ⟨hF, hO, Or.inl ⟨dkN_sub (dkN_lit (x := (-1000001)) (-1000001) rfl) rfl, dkN_sub d13 rfl, q12, rfl, rfl, rfl, rfl, trivial⟩⟩, dkW_eq ht hW⟩, hS.F ht⟩) hS.2.2 dX5_row_23
    ·
      exact absurd ((xv11).trans (rfl).symm) c14
  rcases hc11 with ⟨dv11, a11_0, x11_0, x11_1, xr11, -⟩ | hc11
  ·
    have q15 : (0 : Int) + 0 ≤ p0.toInt := x11_0
    have q16 : (7 : Int) + 1 ≤ p0.toInt := x11_1
    have xv11 : v11 = 0 := by have h := xr11; exact h
    have d17 : dkN [(8, 2147483647)] p0 := dkN_eq1 (dkN_top p0) a11_0 rfl rfl
    refine lv_if_eq (tgt := 21) hx hb dX5_row_4 (by decide) (fun c18 => ?_) (fun c18 => ?_)
    ·
      refine lv_ldc (v := (-1000001)) hx hb hown (hts (.constant RX5 70 (-1000001)) (List.mem_of_getElem? (i := 1) rfl)) dX5_row_21 ?_
      exact W.iret (v := (-1000001)) hx hb hr (fun t ht hW9 => ⟨⟨(-1000001), I0, rfl, ⟨hF, hO, Or.inr (Or.inl ⟨dkN_sub (dkN_lit (x := (-1000001)) (-1000001) rfl) rfl, dkN_sub d17 rfl, q15, q16, rfl, rfl, rfl, rfl, trivial⟩)⟩, dkW_eq ht hW⟩, hS.F ht⟩) hS.2.2 dX5_row_23
    ·
      exact absurd ((xv11).trans (rfl).symm) c18
  ·
    obtain ⟨dv11, a11_0, x11_0, x11_1, xr11, -⟩ := hc11
    have q19 : (0 : Int) + 0 ≤ p0.toInt := x11_0
    have q20 : p0.toInt + 0 ≤ (7 : Int) := x11_1
    have xv11 : v11 = 1 := by have h := xr11; exact h
    have d21 : dkN [(0, 7)] p0 := dkN_eq1 (dkN_top p0) a11_0 rfl rfl
    refine lv_if_eq (tgt := 21) hx hb dX5_row_4 (by decide) (fun c22 => ?_) (fun c22 => ?_)
    ·
      exact (dkN_nil (show dkN [] v11 from dkN_eq1 dv11 (dkN_lit (x := 0) (0) rfl) (congrArg Int32.toInt c22) rfl)).elim
    ·
      refine lv_iload_n hx hb dX5_row_7 rfl (lv_at hl 2 rfl) ?_
      refine lv_iconst (v := 2) hx hb dX5_row_8 (by decide) ?_
      refine dk_Si (As := [.int p1, .int 2]) (rest := []) ⟨hx, hb, hml, hown, hts⟩ (fx_X5_isUpTo_14 l g z I0 p1 2 (dkN_lit (x := 2) (2) rfl) hO) (va_cwS 2 hts gX5_row_X5_isUpTo rfl rfl rfl (by decide +kernel) ⟨Nat.le_of_ble_eq_true rfl, Nat.le_of_ble_eq_true rfl⟩) hK hT hW hS rfl hl.1 rfl (Nat.le_of_ble_eq_true rfl) dX5_row_9 ⟨Nat.zero_le _, Nat.zero_le _⟩ (fun v23 I23 H23 L23 hp23 hW hS => ?_)
      obtain ⟨hF23, hO, hc23⟩ := hp23
      have hF := dkF_call hF hF23 rfl
      have eI23 : I0 = I23 := (dkF_nil hF23).symm
      subst eI23
      rcases hc23 with ⟨dv23, a23_0, x23_0, xr23, -⟩ | hc23
      ·
        have q24 : p1.toInt + 1 ≤ (0 : Int) := x23_0
        have xv23 : v23 = 0 := by have h := xr23; exact h
        have d25 : dkN [(-2147483648, -1)] p1 := dkN_eq1 (dkN_top p1) a23_0 rfl rfl
        refine lv_if_eq (tgt := 21) hx hb dX5_row_12 (by decide) (fun c26 => ?_) (fun c26 => ?_)
        ·
          refine lv_ldc (v := (-1000001)) hx hb hown (hts (.constant RX5 70 (-1000001)) (List.mem_of_getElem? (i := 1) rfl)) dX5_row_21 ?_
          exact W.iret (v := (-1000001)) hx hb hr (fun t ht hW9 => ⟨⟨(-1000001), I0, rfl, ⟨hF, hO, Or.inr (Or.inr (Or.inl ⟨dkN_sub (dkN_lit (x := (-1000001)) (-1000001) rfl) rfl, dkN_sub d21 rfl, dkN_sub d25 rfl, q19, q20, q24, rfl, rfl, rfl, rfl, trivial⟩))⟩, dkW_eq ht hW⟩, hS.F ht⟩) hS.2.2 dX5_row_23
        ·
          exact absurd ((xv23).trans (rfl).symm) c26
      rcases hc23 with ⟨dv23, a23_0, x23_0, x23_1, xr23, -⟩ | hc23
      ·
        have q27 : (0 : Int) + 0 ≤ p1.toInt := x23_0
        have q28 : (2 : Int) + 1 ≤ p1.toInt := x23_1
        have xv23 : v23 = 0 := by have h := xr23; exact h
        have d29 : dkN [(3, 2147483647)] p1 := dkN_eq1 (dkN_top p1) a23_0 rfl rfl
        refine lv_if_eq (tgt := 21) hx hb dX5_row_12 (by decide) (fun c30 => ?_) (fun c30 => ?_)
        ·
          refine lv_ldc (v := (-1000001)) hx hb hown (hts (.constant RX5 70 (-1000001)) (List.mem_of_getElem? (i := 1) rfl)) dX5_row_21 ?_
          exact W.iret (v := (-1000001)) hx hb hr (fun t ht hW9 => ⟨⟨(-1000001), I0, rfl, ⟨hF, hO, Or.inr (Or.inr (Or.inr (Or.inl ⟨dkN_sub (dkN_lit (x := (-1000001)) (-1000001) rfl) rfl, dkN_sub d21 rfl, dkN_sub d29 rfl, q19, q20, q27, q28, rfl, rfl, rfl, rfl, trivial⟩)))⟩, dkW_eq ht hW⟩, hS.F ht⟩) hS.2.2 dX5_row_23
        ·
          exact absurd ((xv23).trans (rfl).symm) c30
      ·
        obtain ⟨dv23, a23_0, x23_0, x23_1, xr23, -⟩ := hc23
        have q31 : (0 : Int) + 0 ≤ p1.toInt := x23_0
        have q32 : p1.toInt + 0 ≤ (2 : Int) := x23_1
        have xv23 : v23 = 1 := by have h := xr23; exact h
        have d33 : dkN [(0, 2)] p1 := dkN_eq1 (dkN_top p1) a23_0 rfl rfl
        refine lv_if_eq (tgt := 21) hx hb dX5_row_12 (by decide) (fun c34 => ?_) (fun c34 => ?_)
        ·
          exact (dkN_nil (show dkN [] v23 from dkN_eq1 dv23 (dkN_lit (x := 0) (0) rfl) (congrArg Int32.toInt c34) rfl)).elim
        ·
          refine lv_iload_n hx hb dX5_row_15 rfl (lv_at hl 3 rfl) ?_
          refine lv_bipush (v := 40) hx hb dX5_row_16 (by decide) ?_
          refine lv_icmp_le (tgt := 24) hx hb dX5_row_18 (by decide) (fun c35 => ?_) (fun c35 => ?_)
          ·
            have q36 : p2.toInt + 0 ≤ (40 : Int) := (dkc_le c35)
            have d37 : dkN [(-2147483648, 40)] p2 := dkN_le1 0 (dkN_top p2) (dkN_lit (x := 40) (40) rfl) (dkc_le c35) rfl
            refine lv_iload_n hx hb dX5_row_24 rfl (lv_at hl 3 rfl) ?_
            refine lv_if_ge (tgt := 34) hx hb dX5_row_25 (by decide) (fun c38 => ?_) (fun c38 => ?_)
            ·
              have q39 : (0 : Int) + 0 ≤ p2.toInt := (dkc_le c38)
              have d40 : dkN [(0, 40)] p2 := dkN_le2 0 (dkN_lit (x := 0) (0) rfl) d37 (dkc_le c38) rfl
              refine lv_iconst (v := 0) hx hb dX5_row_34 (by decide) ?_
              refine lv_istore (lv' := [(4, .int 0), (0, .ref (z + 0)), (1, .int p0), (2, .int p1), (3, .int p2)]) hx hb dX5_row_35 hl (by decide) rfl (fun ls hl => ?_)
              exact C37 _ I0 _ _ ls 0 (Nat.lt_succ_self _) hW hS hF hO (dkN_sub (dkN_lit (x := 0) (0) rfl) rfl) (dkN_sub d21 rfl) (dkN_sub d33 rfl) (dkN_sub d40 rfl) rfl rfl q19 q20 q31 q32 q36 q39 (lv_sub hl [1, 2, 3, 4, 0] rfl)
            ·
              have q41 : p2.toInt + 1 ≤ (0 : Int) := (dkc_nle c38)
              have d42 : dkN [(-2147483648, -1)] p2 := dkN_le1 1 d37 (dkN_lit (x := 0) (0) rfl) (dkc_nle c38) rfl
              refine lv_aload_n hx hb dX5_row_28 rfl (lv_at hl 0 rfl) ?_
              refine lv_iconst (v := 4) hx hb dX5_row_29 (by decide) ?_
              refine dk_Vi (As := [.int 4]) (rest := []) ⟨hx, hb, hml, hown, hts⟩ (fx_X5_found_5 l g z I0 4 (dkN_lit (x := 4) (4) rfl) hO) (cwV 1 hts gX5_row_X5_found rfl rfl rfl (by decide +kernel) ⟨Nat.le_of_ble_eq_true rfl, Nat.le_of_ble_eq_true rfl⟩) (dk_at0 hW) rfl hK hT hW hS rfl hl.1 rfl (Nat.le_of_ble_eq_true rfl) dX5_row_30 ⟨Nat.zero_le _, Nat.zero_le _⟩ (fun v43 I43 H43 L43 hp43 hW hS => ?_)
              obtain ⟨hF43, hO, hc43⟩ := hp43
              have hF := dkF_call hF hF43 rfl
              obtain ⟨dv43, f43_0_3, x43_0, xr43, xh43_0, -⟩ := hc43
              have q44 : ((-1000010 : Int32) - (4 : Int32)).toInt = (-1000010 : Int) - (4 : Int) := x43_0
              have y45 : I43 0 3 = 4 := by have h := xh43_0; exact h
              have xv43 : v43 = (-1000010 : Int32) - (4 : Int32) := by have h := xr43; exact h
              exact W.iret (v := v43) hx hb hr (fun t ht hW9 => ⟨⟨v43, I43, rfl, ⟨hF, hO, Or.inr (Or.inr (Or.inr (Or.inr (Or.inl ⟨dkN_sub dv43 rfl, dkN_sub d21 rfl, dkN_sub d33 rfl, dkN_sub d42 rfl, (show dkN [(4, 4)] (I43 0 3) from dkN_sub f43_0_3 rfl), q19, q20, q31, q32, q36, q41, q44, xv43, y45, ((funext fun j => hF43 10 j (dkNin_k rfl dkNin_nil)).trans rfl), ((funext fun j => hF43 11 j (dkNin_k rfl dkNin_nil)).trans rfl), trivial⟩))))⟩, dkW_eq ht hW⟩, hS.F ht⟩) hS.2.2 dX5_row_33
          ·
            have q46 : (40 : Int) + 1 ≤ p2.toInt := (dkc_nle c35)
            have d47 : dkN [(41, 2147483647)] p2 := dkN_le2 1 (dkN_lit (x := 40) (40) rfl) (dkN_top p2) (dkc_nle c35) rfl
            refine lv_ldc (v := (-1000001)) hx hb hown (hts (.constant RX5 70 (-1000001)) (List.mem_of_getElem? (i := 1) rfl)) dX5_row_21 ?_
            exact W.iret (v := (-1000001)) hx hb hr (fun t ht hW9 => ⟨⟨(-1000001), I0, rfl, ⟨hF, hO, Or.inr (Or.inr (Or.inr (Or.inr (Or.inr (Or.inl ⟨dkN_sub (dkN_lit (x := (-1000001)) (-1000001) rfl) rfl, dkN_sub d21 rfl, dkN_sub d33 rfl, dkN_sub d47 rfl, q19, q20, q31, q32, q46, rfl, rfl, rfl, rfl, trivial⟩)))))⟩, dkW_eq ht hW⟩, hS.F ht⟩) hS.2.2 dX5_row_23
set_option maxHeartbeats 4000000 in
set_option maxRecDepth 100000 in
theorem fx_X6_in_37 (l : Launch) (g : dkG) (z : Nat) (I0 : dkI) (p0 : Int32) (p1 : Int32) (p2 : Int32) (dp1 : dkN [(0, 0)] p1) (dp2 : dkN [(7, 7)] p2)  (hO : dkOk I0) : Met l yX6_in wsX6_in (dkR 0) (dkPc g z [.int p0, .int p1, .int p2] I0) (dkQi g z (fun r I1 => dkF [] I0 I1 ∧ dkOk I1 ∧ ((dkN [(0, 0)] r ∧ dkN [(-2147483648, -1)] p0 ∧ p0.toInt + 1 ≤ p1.toInt ∧ r = 0 ∧ True) ∨ (dkN [(0, 0)] r ∧ dkN [(8, 2147483647)] p0 ∧ p1.toInt + 0 ≤ p0.toInt ∧ p2.toInt + 1 ≤ p0.toInt ∧ r = 0 ∧ True) ∨ (dkN [(1, 1)] r ∧ dkN [(0, 7)] p0 ∧ p1.toInt + 0 ≤ p0.toInt ∧ p0.toInt + 0 ≤ p2.toInt ∧ r = 1 ∧ True)))) 0 0 (dkA z) := by
  refine Met.ofW (cc := cX6_in) (maxL := 3) (ret := (some .boolean)) (by decide) rfl ?_
  intro p e s m args below meth c s₁ B hml hv
  obtain ⟨ha, hW, hK, hT⟩ := hv
  have hx := B.exec
  have hb := B.bytes
  have hr := B.returns
  have hts := atoms_spec (ws := wsX6_in) B.pre
  have hown : s.vm.findClass RX6 = some m.cls := findClass_of_methodNamed B.named
  have hlocks := B.notSynchronized
  have hS : va_S (dkA z) s.heap s.heap [] := va_S.rf
  have hF : dkF [] I0 I0 := dkF_rf _ _
  have hl := lv_entry ([.int p0, .int p1, .int p2]) (n := 3) (Nat.le_of_ble_eq_true rfl)
  have hgo : entryFrame m args 3 = entryFrame m ([.int p0, .int p1, .int p2] : List Value).toArray 3 := by rw [ha]
  rw [hgo, lg_entry_eq]
  generalize (lg_sl ([.int p0, .int p1, .int p2]) ++ List.replicate (3 - (lg_sl ([.int p0, .int p1, .int p2])).length) Slot.unset).toArray = ls at hl ⊢
  have hl : lv_has ls 3 [(0, .int p0), (1, .int p1), (2, .int p2)] := hl
  refine lv_iload_n hx hb dX6_in_0 rfl (lv_at hl 0 rfl) ?_
  refine lv_iload_n hx hb dX6_in_1 rfl (lv_at hl 1 rfl) ?_
  refine lv_icmp_lt (tgt := 14) hx hb dX6_in_2 (by decide) (fun c1 => ?_) (fun c1 => ?_)
  ·
    have q2 : p0.toInt + 1 ≤ p1.toInt := (dkc_lt c1)
    have d3 : dkN [(-2147483648, -1)] p0 := dkN_le1 1 (dkN_top p0) dp1 (dkc_lt c1) rfl
    refine lv_iconst (v := 0) hx hb dX6_in_14 (by decide) ?_
    exact W.zret (v := 0) (ty := .boolean) hx hb hr rfl (fun t ht hW9 => ⟨⟨0, I0, rfl, ⟨hF, hO, Or.inl ⟨dkN_sub (dkN_lit (x := 0) (0) rfl) rfl, dkN_sub d3 rfl, q2, rfl, trivial⟩⟩, dkW_eq ht hW⟩, hS.F ht⟩) hS.2.2 dX6_in_15
  ·
    have q4 : p1.toInt + 0 ≤ p0.toInt := (dkc_nlt c1)
    have d5 : dkN [(0, 2147483647)] p0 := dkN_le2 0 dp1 (dkN_top p0) (dkc_nlt c1) rfl
    refine lv_iload_n hx hb dX6_in_5 rfl (lv_at hl 0 rfl) ?_
    refine lv_iload_n hx hb dX6_in_6 rfl (lv_at hl 2 rfl) ?_
    refine lv_icmp_gt (tgt := 14) hx hb dX6_in_7 (by decide) (fun c6 => ?_) (fun c6 => ?_)
    ·
      have q7 : p2.toInt + 1 ≤ p0.toInt := (dkc_lt c6)
      have d8 : dkN [(8, 2147483647)] p0 := dkN_le2 1 dp2 d5 (dkc_lt c6) rfl
      refine lv_iconst (v := 0) hx hb dX6_in_14 (by decide) ?_
      exact W.zret (v := 0) (ty := .boolean) hx hb hr rfl (fun t ht hW9 => ⟨⟨0, I0, rfl, ⟨hF, hO, Or.inr (Or.inl ⟨dkN_sub (dkN_lit (x := 0) (0) rfl) rfl, dkN_sub d8 rfl, q4, q7, rfl, trivial⟩)⟩, dkW_eq ht hW⟩, hS.F ht⟩) hS.2.2 dX6_in_15
    ·
      have q9 : p0.toInt + 0 ≤ p2.toInt := (dkc_nlt c6)
      have d10 : dkN [(0, 7)] p0 := dkN_le1 0 d5 dp2 (dkc_nlt c6) rfl
      refine lv_iconst (v := 1) hx hb dX6_in_10 (by decide) ?_
      refine lv_goto (tgt := 15) hx hb dX6_in_11 (by decide) ?_
      exact W.zret (v := 1) (ty := .boolean) hx hb hr rfl (fun t ht hW9 => ⟨⟨1, I0, rfl, ⟨hF, hO, Or.inr (Or.inr (⟨dkN_sub (dkN_lit (x := 1) (1) rfl) rfl, dkN_sub d10 rfl, q4, q9, rfl, trivial⟩))⟩, dkW_eq ht hW⟩, hS.F ht⟩) hS.2.2 dX6_in_15
set_option maxHeartbeats 4000000 in
set_option maxRecDepth 100000 in
theorem fx_X6_isRow_1 (l : Launch) (g : dkG) (z : Nat) (I0 : dkI) (p0 : Int32)  (hO : dkOk I0) : Met l yX6_isRow wsX6_isRow (dkR 1) (dkPc g z [.int p0] I0) (dkQi g z (fun r I1 => dkF [] I0 I1 ∧ dkOk I1 ∧ ((dkN [(0, 0)] r ∧ dkN [(-2147483648, -1)] p0 ∧ p0.toInt + 1 ≤ (0 : Int) ∧ r = 0 ∧ True) ∨ (dkN [(0, 0)] r ∧ dkN [(8, 2147483647)] p0 ∧ (0 : Int) + 0 ≤ p0.toInt ∧ (7 : Int) + 1 ≤ p0.toInt ∧ r = 0 ∧ True) ∨ (dkN [(1, 1)] r ∧ dkN [(0, 7)] p0 ∧ (0 : Int) + 0 ≤ p0.toInt ∧ p0.toInt + 0 ≤ (7 : Int) ∧ r = 1 ∧ True)))) 0 0 (dkA z) := by
  refine Met.ofW (cc := cX6_isRow) (maxL := 1) (ret := (some .boolean)) (by decide) rfl ?_
  intro p e s m args below meth c s₁ B hml hv
  obtain ⟨ha, hW, hK, hT⟩ := hv
  have hx := B.exec
  have hb := B.bytes
  have hr := B.returns
  have hts := atoms_spec (ws := wsX6_isRow) B.pre
  have hown : s.vm.findClass RX6 = some m.cls := findClass_of_methodNamed B.named
  have hlocks := B.notSynchronized
  have hS : va_S (dkA z) s.heap s.heap [] := va_S.rf
  have hF : dkF [] I0 I0 := dkF_rf _ _
  have hl := lv_entry ([.int p0]) (n := 1) (Nat.le_of_ble_eq_true rfl)
  have hgo : entryFrame m args 1 = entryFrame m ([.int p0] : List Value).toArray 1 := by rw [ha]
  rw [hgo, lg_entry_eq]
  generalize (lg_sl ([.int p0]) ++ List.replicate (1 - (lg_sl ([.int p0])).length) Slot.unset).toArray = ls at hl ⊢
  have hl : lv_has ls 1 [(0, .int p0)] := hl
  refine lv_iload_n hx hb dX6_isRow_0 rfl (lv_at hl 0 rfl) ?_
  refine lv_iconst (v := 0) hx hb dX6_isRow_1 (by decide) ?_
  refine lv_bipush (v := 7) hx hb dX6_isRow_2 (by decide) ?_
  refine dk_Si (As := [.int p0, .int 0, .int 7]) (rest := []) ⟨hx, hb, hml, hown, hts⟩ (fx_X6_in_37 l g z I0 p0 0 7 (dkN_lit (x := 0) (0) rfl) (dkN_lit (x := 7) (7) rfl) hO) (va_cwS 3 hts gX6_isRow_X6_in rfl rfl rfl (by decide +kernel) ⟨Nat.le_of_ble_eq_true rfl, Nat.le_of_ble_eq_true rfl⟩) hK hT hW hS rfl hl.1 rfl (Nat.le_of_ble_eq_true rfl) dX6_isRow_4 ⟨Nat.zero_le _, Nat.zero_le _⟩ (fun v1 I1 H1 L1 hp1 hW hS => ?_)
  obtain ⟨hF1, hO, hc1⟩ := hp1
  have hF := dkF_call hF hF1 rfl
  have eI1 : I0 = I1 := (dkF_nil hF1).symm
  subst eI1
  rcases hc1 with ⟨dv1, a1_0, x1_0, xr1, -⟩ | hc1
  ·
    have q2 : p0.toInt + 1 ≤ (0 : Int) := x1_0
    have xv1 : v1 = 0 := by have h := xr1; exact h
    have d3 : dkN [(-2147483648, -1)] p0 := dkN_eq1 (dkN_top p0) a1_0 rfl rfl
    exact W.zret (v := v1) (ty := .boolean) hx hb hr (dkN_zr dv1 rfl) (fun t ht hW9 => ⟨⟨v1, I0, rfl, ⟨hF, hO, Or.inl ⟨dkN_sub dv1 rfl, dkN_sub d3 rfl, q2, xv1, trivial⟩⟩, dkW_eq ht hW⟩, hS.F ht⟩) hS.2.2 dX6_isRow_7
  rcases hc1 with ⟨dv1, a1_0, x1_0, x1_1, xr1, -⟩ | hc1
  ·
    have q4 : (0 : Int) + 0 ≤ p0.toInt := x1_0
    have q5 : (7 : Int) + 1 ≤ p0.toInt := x1_1
    have xv1 : v1 = 0 := by have h := xr1; exact h
    have d6 : dkN [(8, 2147483647)] p0 := dkN_eq1 (dkN_top p0) a1_0 rfl rfl
    exact W.zret (v := v1) (ty := .boolean) hx hb hr (dkN_zr dv1 rfl) (fun t ht hW9 => ⟨⟨v1, I0, rfl, ⟨hF, hO, Or.inr (Or.inl ⟨dkN_sub dv1 rfl, dkN_sub d6 rfl, q4, q5, xv1, trivial⟩)⟩, dkW_eq ht hW⟩, hS.F ht⟩) hS.2.2 dX6_isRow_7
  ·
    obtain ⟨dv1, a1_0, x1_0, x1_1, xr1, -⟩ := hc1
    have q7 : (0 : Int) + 0 ≤ p0.toInt := x1_0
    have q8 : p0.toInt + 0 ≤ (7 : Int) := x1_1
    have xv1 : v1 = 1 := by have h := xr1; exact h
    have d9 : dkN [(0, 7)] p0 := dkN_eq1 (dkN_top p0) a1_0 rfl rfl
    exact W.zret (v := v1) (ty := .boolean) hx hb hr (dkN_zr dv1 rfl) (fun t ht hW9 => ⟨⟨v1, I0, rfl, ⟨hF, hO, Or.inr (Or.inr (⟨dkN_sub dv1 rfl, dkN_sub d9 rfl, q7, q8, xv1, trivial⟩))⟩, dkW_eq ht hW⟩, hS.F ht⟩) hS.2.2 dX6_isRow_7
set_option maxHeartbeats 4000000 in
set_option maxRecDepth 100000 in
theorem fx_X6_found_5 (l : Launch) (g : dkG) (z : Nat) (I0 : dkI) (p0 : Int32) (dp0 : dkN [(4, 4)] p0)  (hO : dkOk I0) : Met l yX6_found wsX6_found (dkR 0) (dkPc g z [.ref (z + 340), .int p0] I0) (dkQi g z (fun r I1 => dkF [(340, 340, 4, 4)] I0 I1 ∧ dkOk I1 ∧ ((dkN [(-1000014, -1000014)] r ∧ dkN [(4, 4)] (I1 340 4) ∧ ((-1000010 : Int32) - p0).toInt = (-1000010 : Int) - p0.toInt ∧ r = (-1000010 : Int32) - p0 ∧ I1 340 4 = p0 ∧ True)))) 0 0 (dkA z) := by
  refine Met.ofW (cc := cX6_found) (maxL := 2) (ret := (some .int)) (by decide) rfl ?_
  intro p e s m args below meth c s₁ B hml hv
  obtain ⟨ha, hW, hK, hT⟩ := hv
  have hx := B.exec
  have hb := B.bytes
  have hr := B.returns
  have hts := atoms_spec (ws := wsX6_found) B.pre
  have hown : s.vm.findClass RX6 = some m.cls := findClass_of_methodNamed B.named
  have hlocks := B.notSynchronized
  have hS : va_S (dkA z) s.heap s.heap [] := va_S.rf
  have hF : dkF [(340, 340, 4, 4)] I0 I0 := dkF_rf _ _
  have hl := lv_entry ([.ref (z + 340), .int p0]) (n := 2) (Nat.le_of_ble_eq_true rfl)
  have hgo : entryFrame m args 2 = entryFrame m ([.ref (z + 340), .int p0] : List Value).toArray 2 := by rw [ha]
  rw [hgo, lg_entry_eq]
  generalize (lg_sl ([.ref (z + 340), .int p0]) ++ List.replicate (2 - (lg_sl ([.ref (z + 340), .int p0])).length) Slot.unset).toArray = ls at hl ⊢
  have hl : lv_has ls 2 [(0, .ref (z + 340)), (1, .int p0)] := hl
  refine lv_aload_n hx hb dX6_found_0 rfl (lv_at hl 0 rfl) ?_
  refine lv_iload_n hx hb dX6_found_1 rfl (lv_at hl 1 rfl) ?_
  refine dk_put (k := 340) hx hb hts iX6_found_6 tyX6 tyX6_ok nmX6 hown hK hW (dk_at340 hW) hS rfl 4 (by decide) (hts (.fieldLink RX6 51 "DogKingsModel" "status" "I") (List.mem_of_getElem? (i := 1) rfl)) rfl rfl (Nat.le_of_ble_eq_true rfl) rfl dX6_found_2 (fun I1 H1 L1 eI1 hW hS => ?_)
  have eI1 : I1 = dkU I0 340 4 p0 := eI1
  have hO := dkO_set hO eI1 (dkN_sub dp0 rfl)
  have hF := dkF_set hF eI1 rfl
  refine lv_ldc (v := (-1000010)) hx hb hown (hts (.constant RX6 55 (-1000010)) (List.mem_of_getElem? (i := 2) rfl)) dX6_found_5 ?_
  refine lv_iload_n hx hb dX6_found_7 rfl (lv_at hl 1 rfl) ?_
  refine lv_isub hx hb dX6_found_8 ?_
  refine lv_topi (fun v2 ev2 => ?_)
  have dv2 : dkN [(-1000014, -1000014)] v2 := by rw [ev2]; exact dkN_subt (dkN_lit (x := (-1000010)) (-1000010) rfl) dp0 rfl
  have xv2 : v2 = (-1000010 : Int32) - p0 := by rw [ev2]
  have q3 : ((-1000010 : Int32) - p0).toInt = (-1000010 : Int) - p0.toInt := by first | (rw [← xv2]; exact (by rw [ev2]; exact dk_subE (dkN_lit (x := (-1000010)) (-1000010) rfl) dp0 rfl)) | (subst xv2; exact (by rw [ev2]; exact dk_subE (dkN_lit (x := (-1000010)) (-1000010) rfl) dp0 rfl))
  exact W.iret (v := v2) hx hb hr (fun t ht hW9 => ⟨⟨v2, I1, rfl, ⟨hF, hO, ⟨dkN_sub dv2 rfl, (show dkN [(4, 4)] (I1 340 4) from dkN_sub (by rw [eI1, dkU_ss]; exact dp0) rfl), q3, xv2, (by rw [eI1, dkU_ss]), trivial⟩⟩, dkW_eq ht hW⟩, hS.F ht⟩) hS.2.2 dX6_found_9
set_option maxHeartbeats 4000000 in
set_option maxRecDepth 100000 in
theorem fx_X6_well_1 (l : Launch) (g : dkG) (z : Nat) (I0 : dkI) (p0 : Int32)  (hO : dkOk I0) : Met l yX6_well wsX6_well (dkR 0) (dkPc g z [.ref (z + 340), .int p0] I0) (dkQi g z (fun r I1 => dkF [(340, 340, 4, 4)] I0 I1 ∧ dkOk I1 ∧ ((True ∧ dkN [(0, 0)] (I1 340 4) ∧ r = p0 ∧ I1 340 4 = 0 ∧ True)))) 0 0 (dkA z) := by
  refine Met.ofW (cc := cX6_well) (maxL := 2) (ret := (some .int)) (by decide) rfl ?_
  intro p e s m args below meth c s₁ B hml hv
  obtain ⟨ha, hW, hK, hT⟩ := hv
  have hx := B.exec
  have hb := B.bytes
  have hr := B.returns
  have hts := atoms_spec (ws := wsX6_well) B.pre
  have hown : s.vm.findClass RX6 = some m.cls := findClass_of_methodNamed B.named
  have hlocks := B.notSynchronized
  have hS : va_S (dkA z) s.heap s.heap [] := va_S.rf
  have hF : dkF [(340, 340, 4, 4)] I0 I0 := dkF_rf _ _
  have hl := lv_entry ([.ref (z + 340), .int p0]) (n := 2) (Nat.le_of_ble_eq_true rfl)
  have hgo : entryFrame m args 2 = entryFrame m ([.ref (z + 340), .int p0] : List Value).toArray 2 := by rw [ha]
  rw [hgo, lg_entry_eq]
  generalize (lg_sl ([.ref (z + 340), .int p0]) ++ List.replicate (2 - (lg_sl ([.ref (z + 340), .int p0])).length) Slot.unset).toArray = ls at hl ⊢
  have hl : lv_has ls 2 [(0, .ref (z + 340)), (1, .int p0)] := hl
  refine lv_aload_n hx hb dX6_well_0 rfl (lv_at hl 0 rfl) ?_
  refine lv_iconst (v := 0) hx hb dX6_well_1 (by decide) ?_
  refine dk_put (k := 340) hx hb hts iX6_well_6 tyX6 tyX6_ok nmX6 hown hK hW (dk_at340 hW) hS rfl 4 (by decide) (hts (.fieldLink RX6 51 "DogKingsModel" "status" "I") (List.mem_of_getElem? (i := 1) rfl)) rfl rfl (Nat.le_of_ble_eq_true rfl) rfl dX6_well_2 (fun I1 H1 L1 eI1 hW hS => ?_)
  have eI1 : I1 = dkU I0 340 4 0 := eI1
  have hO := dkO_set hO eI1 (dkN_sub (dkN_lit (x := 0) (0) rfl) rfl)
  have hF := dkF_set hF eI1 rfl
  refine lv_iload_n hx hb dX6_well_5 rfl (lv_at hl 1 rfl) ?_
  exact W.iret (v := p0) hx hb hr (fun t ht hW9 => ⟨⟨p0, I1, rfl, ⟨hF, hO, ⟨trivial, (show dkN [(0, 0)] (I1 340 4) from dkN_sub (by rw [eI1, dkU_ss]; exact (dkN_lit (x := 0) (0) rfl)) rfl), rfl, (by rw [eI1, dkU_ss]), trivial⟩⟩, dkW_eq ht hW⟩, hS.F ht⟩) hS.2.2 dX6_well_6
set_option maxHeartbeats 4000000 in
set_option maxRecDepth 100000 in
theorem fx_X6_row_1 (l : Launch) (g : dkG) (z : Nat) (I0 : dkI) (p0 : Int32) (p1 : Int32) (p2 : Int32)  (hO : dkOk I0) : Met l yX6_row wsX6_row (dkR 2) (dkPc g z [.ref (z + 340), .int p0, .int p1, .int p2] I0) (dkQi g z (fun r I1 => dkF [(340, 340, 4, 4), (341, 341, 0, 7), (342, 342, 0, 7), (343, 343, 0, 319)] I0 I1 ∧ dkOk I1 ∧ ((dkN [(-1000001, -1000001)] r ∧ dkN [(-2147483648, -1)] p0 ∧ p0.toInt + 1 ≤ (0 : Int) ∧ r = (-1000001) ∧ I1 340 4 = I0 340 4 ∧ I1 341  = I0 341 ∧ I1 342  = I0 342 ∧ True) ∨ (dkN [(-1000001, -1000001)] r ∧ dkN [(8, 2147483647)] p0 ∧ (0 : Int) + 0 ≤ p0.toInt ∧ (7 : Int) + 1 ≤ p0.toInt ∧ r = (-1000001) ∧ I1 340 4 = I0 340 4 ∧ I1 341  = I0 341 ∧ I1 342  = I0 342 ∧ True) ∨ (dkN [(-1000001, -1000001)] r ∧ dkN [(0, 7)] p0 ∧ dkN [(-2147483648, -1)] p1 ∧ (0 : Int) + 0 ≤ p0.toInt ∧ p0.toInt + 0 ≤ (7 : Int) ∧ p1.toInt + 1 ≤ (0 : Int) ∧ r = (-1000001) ∧ I1 340 4 = I0 340 4 ∧ I1 341  = I0 341 ∧ I1 342  = I0 342 ∧ True) ∨ (dkN [(-1000001, -1000001)] r ∧ dkN [(0, 7)] p0 ∧ dkN [(3, 2147483647)] p1 ∧ (0 : Int) + 0 ≤ p0.toInt ∧ p0.toInt + 0 ≤ (7 : Int) ∧ (0 : Int) + 0 ≤ p1.toInt ∧ (2 : Int) + 1 ≤ p1.toInt ∧ r = (-1000001) ∧ I1 340 4 = I0 340 4 ∧ I1 341  = I0 341 ∧ I1 342  = I0 342 ∧ True) ∨ (dkN [(-1000014, -1000014)] r ∧ dkN [(0, 7)] p0 ∧ dkN [(0, 2)] p1 ∧ dkN [(-2147483648, -1)] p2 ∧ dkN [(4, 4)] (I1 340 4) ∧ (0 : Int) + 0 ≤ p0.toInt ∧ p0.toInt + 0 ≤ (7 : Int) ∧ (0 : Int) + 0 ≤ p1.toInt ∧ p1.toInt + 0 ≤ (2 : Int) ∧ p2.toInt + 0 ≤ (40 : Int) ∧ p2.toInt + 1 ≤ (0 : Int) ∧ ((-1000010 : Int32) - (4 : Int32)).toInt = (-1000010 : Int) - (4 : Int) ∧ r = (-1000010 : Int32) - (4 : Int32) ∧ I1 340 4 = 4 ∧ I1 341  = I0 341 ∧ I1 342  = I0 342 ∧ True) ∨ (dkN [(-1000001, -1000001)] r ∧ dkN [(0, 7)] p0 ∧ dkN [(0, 2)] p1 ∧ dkN [(41, 2147483647)] p2 ∧ (0 : Int) + 0 ≤ p0.toInt ∧ p0.toInt + 0 ≤ (7 : Int) ∧ (0 : Int) + 0 ≤ p1.toInt ∧ p1.toInt + 0 ≤ (2 : Int) ∧ (40 : Int) + 1 ≤ p2.toInt ∧ r = (-1000001) ∧ I1 340 4 = I0 340 4 ∧ I1 341  = I0 341 ∧ I1 342  = I0 342 ∧ True) ∨ (True ∧ dkN [(0, 7)] p0 ∧ dkN [(0, 2)] p1 ∧ dkN [(0, 40)] p2 ∧ dkN [(0, 0)] (I1 340 4) ∧ (0 : Int) + 0 ≤ p0.toInt ∧ p0.toInt + 0 ≤ (7 : Int) ∧ (0 : Int) + 0 ≤ p1.toInt ∧ p1.toInt + 0 ≤ (2 : Int) ∧ p2.toInt + 0 ≤ (40 : Int) ∧ (0 : Int) + 0 ≤ p2.toInt ∧ r = p2 ∧ I1 340 4 = 0 ∧ I1 341  = dkV (I0 341) (Int32.toNatClampNeg p0) p1 ∧ I1 342  = dkV (I0 342) (Int32.toNatClampNeg p0) p2 ∧ True)))) 0 0 (dkA z) := by
  refine Met.ofW (cc := cX6_row) (maxL := 5) (ret := (some .int)) (by decide) rfl ?_
  intro p e s m args below meth c s₁ B hml hv
  obtain ⟨ha, hW, hK, hT⟩ := hv
  have hx := B.exec
  have hb := B.bytes
  have hr := B.returns
  have hts := atoms_spec (ws := wsX6_row) B.pre
  have hown : s.vm.findClass RX6 = some m.cls := findClass_of_methodNamed B.named
  have hlocks := B.notSynchronized
  have hS : va_S (dkA z) s.heap s.heap [] := va_S.rf
  have hF : dkF [(340, 340, 4, 4), (341, 341, 0, 7), (342, 342, 0, 7), (343, 343, 0, 319)] I0 I0 := dkF_rf _ _
  have hl := lv_entry ([.ref (z + 340), .int p0, .int p1, .int p2]) (n := 5) (Nat.le_of_ble_eq_true rfl)
  have hgo : entryFrame m args 5 = entryFrame m ([.ref (z + 340), .int p0, .int p1, .int p2] : List Value).toArray 5 := by rw [ha]
  rw [hgo, lg_entry_eq]
  generalize (lg_sl ([.ref (z + 340), .int p0, .int p1, .int p2]) ++ List.replicate (5 - (lg_sl ([.ref (z + 340), .int p0, .int p1, .int p2])).length) Slot.unset).toArray = ls at hl ⊢
  have hl : lv_has ls 5 [(0, .ref (z + 340)), (1, .int p0), (2, .int p1), (3, .int p2)] := hl
  have C52 : ∀ (n : Nat), ∀ (I : dkI) (H : Heap) (locs : List Loc) (ls : Array Slot) (x52_4 : Int32), (40 - x52_4.toInt).toNat < n → dkW g z I H → va_S (dkA z) s.heap H locs → dkF [(340, 340, 4, 4), (341, 341, 0, 7), (342, 342, 0, 7), (343, 343, 0, 319)] I0 I → dkOk I → dkN [(0, 40)] x52_4 → dkN [(0, 7)] p0 → dkN [(0, 2)] p1 → dkN [(0, 40)] p2 → I 341 = dkV (I0 341) (Int32.toNatClampNeg p0) p1 → I 342 = dkV (I0 342) (Int32.toNatClampNeg p0) p2 → (0 : Int) + 0 ≤ p0.toInt → p0.toInt + 0 ≤ (7 : Int) → (0 : Int) + 0 ≤ p1.toInt → p1.toInt + 0 ≤ (2 : Int) → p2.toInt + 0 ≤ (40 : Int) → (0 : Int) + 0 ≤ p2.toInt → lv_has ls 5 [(0, .ref (z + 340)), (1, .int p0), (2, .int p1), (3, .int p2), (4, .int x52_4)] → W p l e (headSpec wsX6_row (dkR 2)).room s m args below meth c H locs 0 0 (MQ below (dkQi g z (fun r I1 => dkF [(340, 340, 4, 4), (341, 341, 0, 7), (342, 342, 0, 7), (343, 343, 0, 319)] I0 I1 ∧ dkOk I1 ∧ ((dkN [(-1000001, -1000001)] r ∧ dkN [(-2147483648, -1)] p0 ∧ p0.toInt + 1 ≤ (0 : Int) ∧ r = (-1000001) ∧ I1 340 4 = I0 340 4 ∧ I1 341  = I0 341 ∧ I1 342  = I0 342 ∧ True) ∨ (dkN [(-1000001, -1000001)] r ∧ dkN [(8, 2147483647)] p0 ∧ (0 : Int) + 0 ≤ p0.toInt ∧ (7 : Int) + 1 ≤ p0.toInt ∧ r = (-1000001) ∧ I1 340 4 = I0 340 4 ∧ I1 341  = I0 341 ∧ I1 342  = I0 342 ∧ True) ∨ (dkN [(-1000001, -1000001)] r ∧ dkN [(0, 7)] p0 ∧ dkN [(-2147483648, -1)] p1 ∧ (0 : Int) + 0 ≤ p0.toInt ∧ p0.toInt + 0 ≤ (7 : Int) ∧ p1.toInt + 1 ≤ (0 : Int) ∧ r = (-1000001) ∧ I1 340 4 = I0 340 4 ∧ I1 341  = I0 341 ∧ I1 342  = I0 342 ∧ True) ∨ (dkN [(-1000001, -1000001)] r ∧ dkN [(0, 7)] p0 ∧ dkN [(3, 2147483647)] p1 ∧ (0 : Int) + 0 ≤ p0.toInt ∧ p0.toInt + 0 ≤ (7 : Int) ∧ (0 : Int) + 0 ≤ p1.toInt ∧ (2 : Int) + 1 ≤ p1.toInt ∧ r = (-1000001) ∧ I1 340 4 = I0 340 4 ∧ I1 341  = I0 341 ∧ I1 342  = I0 342 ∧ True) ∨ (dkN [(-1000014, -1000014)] r ∧ dkN [(0, 7)] p0 ∧ dkN [(0, 2)] p1 ∧ dkN [(-2147483648, -1)] p2 ∧ dkN [(4, 4)] (I1 340 4) ∧ (0 : Int) + 0 ≤ p0.toInt ∧ p0.toInt + 0 ≤ (7 : Int) ∧ (0 : Int) + 0 ≤ p1.toInt ∧ p1.toInt + 0 ≤ (2 : Int) ∧ p2.toInt + 0 ≤ (40 : Int) ∧ p2.toInt + 1 ≤ (0 : Int) ∧ ((-1000010 : Int32) - (4 : Int32)).toInt = (-1000010 : Int) - (4 : Int) ∧ r = (-1000010 : Int32) - (4 : Int32) ∧ I1 340 4 = 4 ∧ I1 341  = I0 341 ∧ I1 342  = I0 342 ∧ True) ∨ (dkN [(-1000001, -1000001)] r ∧ dkN [(0, 7)] p0 ∧ dkN [(0, 2)] p1 ∧ dkN [(41, 2147483647)] p2 ∧ (0 : Int) + 0 ≤ p0.toInt ∧ p0.toInt + 0 ≤ (7 : Int) ∧ (0 : Int) + 0 ≤ p1.toInt ∧ p1.toInt + 0 ≤ (2 : Int) ∧ (40 : Int) + 1 ≤ p2.toInt ∧ r = (-1000001) ∧ I1 340 4 = I0 340 4 ∧ I1 341  = I0 341 ∧ I1 342  = I0 342 ∧ True) ∨ (True ∧ dkN [(0, 7)] p0 ∧ dkN [(0, 2)] p1 ∧ dkN [(0, 40)] p2 ∧ dkN [(0, 0)] (I1 340 4) ∧ (0 : Int) + 0 ≤ p0.toInt ∧ p0.toInt + 0 ≤ (7 : Int) ∧ (0 : Int) + 0 ≤ p1.toInt ∧ p1.toInt + 0 ≤ (2 : Int) ∧ p2.toInt + 0 ≤ (40 : Int) ∧ (0 : Int) + 0 ≤ p2.toInt ∧ r = p2 ∧ I1 340 4 = 0 ∧ I1 341  = dkV (I0 341) (Int32.toNatClampNeg p0) p1 ∧ I1 342  = dkV (I0 342) (Int32.toNatClampNeg p0) p2 ∧ True)))) args s 0 0 (dkA z)) (F0 m 52 ls []) := by
    intro n
    induction n with
    | zero => intro I H locs ls x52_4 hn; exact absurd hn (Nat.not_lt_zero _)
    | succ n ih52 =>
      intro I52_ H locs ls x52_4 hn52 hW hS hF_52 hO k52_0 r52_0 r52_1 r52_2 z52_0 z52_1 y52_0 y52_1 y52_2 y52_3 y52_4 y52_5 hl
      have hF := hF_52
      refine lv_iload hx hb dX6_row_52 (lv_at hl 4 rfl) ?_
      refine lv_bipush (v := 40) hx hb dX6_row_54 (by decide) ?_
      refine lv_icmp_ge (tgt := 78) hx hb dX6_row_56 (by decide) (fun c1 => ?_) (fun c1 => ?_)
      ·
        have d2 : dkN [(40, 40)] x52_4 := dkN_le2 0 (dkN_lit (x := 40) (40) rfl) k52_0 (dkc_le c1) rfl
        refine lv_aload_n hx hb dX6_row_78 rfl (lv_at hl 0 rfl) ?_
        refine lv_iload_n hx hb dX6_row_79 rfl (lv_at hl 3 rfl) ?_
        refine dk_Vi (As := [.int p2]) (rest := []) ⟨hx, hb, hml, hown, hts⟩ (fx_X6_well_1 l g z I52_ p2 hO) (cwV 1 hts gX6_row_X6_well rfl rfl rfl (by decide +kernel) ⟨Nat.le_of_ble_eq_true rfl, Nat.le_of_ble_eq_true rfl⟩) (dk_at340 hW) rfl hK hT hW hS rfl hl.1 rfl (Nat.le_of_ble_eq_true rfl) dX6_row_80 ⟨Nat.zero_le _, Nat.zero_le _⟩ (fun v3 I3 H3 L3 hp3 hW hS => ?_)
        obtain ⟨hF3, hO, hc3⟩ := hp3
        have hF := dkF_call hF hF3 rfl
        obtain ⟨_, f3_340_4, xr3, xh3_0, -⟩ := hc3
        have y4 : I3 340 4 = 0 := by have h := xh3_0; exact h
        have xv3 : v3 = p2 := by have h := xr3; exact h
        exact W.iret (v := v3) hx hb hr (fun t ht hW9 => ⟨⟨v3, I3, rfl, ⟨hF, hO, Or.inr (Or.inr (Or.inr (Or.inr (Or.inr (Or.inr (⟨trivial, dkN_sub r52_0 rfl, dkN_sub r52_1 rfl, dkN_sub r52_2 rfl, (show dkN [(0, 0)] (I3 340 4) from dkN_sub f3_340_4 rfl), y52_0, y52_1, y52_2, y52_3, y52_4, y52_5, xv3, y4, ((funext fun j => hF3 341 j (dkNin_k rfl dkNin_nil)).trans z52_0), ((funext fun j => hF3 342 j (dkNin_k rfl dkNin_nil)).trans z52_1), trivial⟩))))))⟩, dkW_eq ht hW⟩, hS.F ht⟩) hS.2.2 dX6_row_83
      ·
        have d5 : dkN [(0, 39)] x52_4 := dkN_le1 1 k52_0 (dkN_lit (x := 40) (40) rfl) (dkc_nle c1) rfl
        refine lv_aload_n hx hb dX6_row_59 rfl (lv_at hl 0 rfl) ?_
        refine dk_get (k := 340) hx hb hts iX6_row_6 hown hK (dk_at340 hW) rfl 2 (by decide) (hts (.fieldLink RX6 16 "DogKingsModel" "items" "[I") (List.mem_of_getElem? (i := 4) rfl)) rfl dX6_row_60 ?_
        refine lv_bipush (v := 40) hx hb dX6_row_63 (by decide) ?_
        refine lv_iload_n hx hb dX6_row_65 rfl (lv_at hl 1 rfl) ?_
        refine lv_imul hx hb dX6_row_66 ?_
        refine lv_topi (fun v6 ev6 => ?_)
        have dv6 : dkN [(0, 280)] v6 := by rw [ev6]; exact dkN_mulL 40 (by decide) (dkN_lit (x := 40) (40) rfl) r52_0 rfl
        have xv6 : v6 = (40 : Int32) * p0 := by rw [ev6]
        have q7 : ((40 : Int32) * p0).toInt = (40 : Int) * p0.toInt := by first | (rw [← xv6]; exact (by rw [ev6]; exact dk_mulE 40 (x := 40) rfl r52_0 (by decide) rfl)) | (subst xv6; exact (by rw [ev6]; exact dk_mulE 40 (x := 40) rfl r52_0 (by decide) rfl))
        refine lv_iload hx hb dX6_row_67 (lv_at hl 4 rfl) ?_
        refine lv_iadd hx hb dX6_row_69 ?_
        refine lv_topi (fun v8 ev8 => ?_)
        have dv8 : dkN [(0, 319)] v8 := by rw [ev8]; exact dkN_add dv6 d5 rfl
        refine lv_iconst (v := 0) hx hb dX6_row_70 (by decide) ?_
        refine dk_ist (k := 343) hx hb hK hW (fun _ => rfl) (by decide) hS (dkN_in (n := 320) dv8 rfl) dX6_row_71 (fun I9 H9 L9 eI9 hW hS => ?_)
        have hO := dkO_set hO eI9 (dkN_sub (dkN_lit (x := 0) (0) rfl) rfl)
        have hF := dkF_set hF eI9 (dkIn_v dv8 rfl)
        obtain ⟨v10, ev10⟩ : ∃ y : Int32, y = x52_4 + 1 := ⟨_, rfl⟩
        have dv10 : dkN [(1, 40)] v10 := by rw [ev10]; exact dkN_add d5 (dkN_lit (x := 1) (1) rfl) rfl
        refine lv_iinc (v := v10) (lv' := [(4, .int v10), (0, .ref (z + 340)), (1, .int p0), (2, .int p1), (3, .int p2)]) hx hb dX6_row_72 hl (k := 4) rfl (by rw [ev10]; rfl) (by decide) rfl (fun ls hl => ?_)
        refine lv_goto (tgt := 52) hx hb dX6_row_75 (by decide) ?_
        exact ih52 I9 _ _ ls v10 (dk_near hn52 (by rw [ev10]; exact dk_inc d5 rfl) (dkN_lt d5 rfl)) hW hS hF hO (dkN_sub dv10 rfl) (dkN_sub r52_0 rfl) (dkN_sub r52_1 rfl) (dkN_sub r52_2 rfl) ((by rw [eI9, dkU_n (by decide)] : I9 341 = _).trans z52_0) ((by rw [eI9, dkU_n (by decide)] : I9 342 = _).trans z52_1) y52_0 y52_1 y52_2 y52_3 y52_4 y52_5 (lv_sub hl [1, 2, 3, 4, 0] rfl)
  refine lv_iload_n hx hb dX6_row_0 rfl (lv_at hl 1 rfl) ?_
  refine dk_Si (As := [.int p0]) (rest := []) ⟨hx, hb, hml, hown, hts⟩ (fx_X6_isRow_1 l g z I0 p0 hO) (va_cwS 1 hts gX6_row_X6_isRow rfl rfl rfl (by decide +kernel) ⟨Nat.le_of_ble_eq_true rfl, Nat.le_of_ble_eq_true rfl⟩) hK hT hW hS rfl hl.1 rfl (Nat.le_of_ble_eq_true rfl) dX6_row_1 ⟨Nat.zero_le _, Nat.zero_le _⟩ (fun v11 I11 H11 L11 hp11 hW hS => ?_)
  obtain ⟨hF11, hO, hc11⟩ := hp11
  have hF := dkF_call hF hF11 rfl
  have eI11 : I0 = I11 := (dkF_nil hF11).symm
  subst eI11
  rcases hc11 with ⟨dv11, a11_0, x11_0, xr11, -⟩ | hc11
  ·
    have q12 : p0.toInt + 1 ≤ (0 : Int) := x11_0
    have xv11 : v11 = 0 := by have h := xr11; exact h
    have d13 : dkN [(-2147483648, -1)] p0 := dkN_eq1 (dkN_top p0) a11_0 rfl rfl
    refine lv_if_eq (tgt := 22) hx hb dX6_row_4 (by decide) (fun c14 => ?_) (fun c14 => ?_)
    ·
      refine lv_ldc (v := (-1000001)) hx hb hown (hts (.constant RX6 64 (-1000001)) (List.mem_of_getElem? (i := 1) rfl)) dX6_row_22 ?_
      exact W.iret (v := (-1000001)) hx hb hr (fun t ht hW9 => ⟨⟨(-1000001), I0, rfl, ⟨hF, hO, Or.inl ⟨dkN_sub (dkN_lit (x := (-1000001)) (-1000001) rfl) rfl, dkN_sub d13 rfl, q12, rfl, rfl, rfl, rfl, trivial⟩⟩, dkW_eq ht hW⟩, hS.F ht⟩) hS.2.2 dX6_row_24
    ·
      exact absurd ((xv11).trans (rfl).symm) c14
  rcases hc11 with ⟨dv11, a11_0, x11_0, x11_1, xr11, -⟩ | hc11
  ·
    have q15 : (0 : Int) + 0 ≤ p0.toInt := x11_0
    have q16 : (7 : Int) + 1 ≤ p0.toInt := x11_1
    have xv11 : v11 = 0 := by have h := xr11; exact h
    have d17 : dkN [(8, 2147483647)] p0 := dkN_eq1 (dkN_top p0) a11_0 rfl rfl
    refine lv_if_eq (tgt := 22) hx hb dX6_row_4 (by decide) (fun c18 => ?_) (fun c18 => ?_)
    ·
      refine lv_ldc (v := (-1000001)) hx hb hown (hts (.constant RX6 64 (-1000001)) (List.mem_of_getElem? (i := 1) rfl)) dX6_row_22 ?_
      exact W.iret (v := (-1000001)) hx hb hr (fun t ht hW9 => ⟨⟨(-1000001), I0, rfl, ⟨hF, hO, Or.inr (Or.inl ⟨dkN_sub (dkN_lit (x := (-1000001)) (-1000001) rfl) rfl, dkN_sub d17 rfl, q15, q16, rfl, rfl, rfl, rfl, trivial⟩)⟩, dkW_eq ht hW⟩, hS.F ht⟩) hS.2.2 dX6_row_24
    ·
      exact absurd ((xv11).trans (rfl).symm) c18
  ·
    obtain ⟨dv11, a11_0, x11_0, x11_1, xr11, -⟩ := hc11
    have q19 : (0 : Int) + 0 ≤ p0.toInt := x11_0
    have q20 : p0.toInt + 0 ≤ (7 : Int) := x11_1
    have xv11 : v11 = 1 := by have h := xr11; exact h
    have d21 : dkN [(0, 7)] p0 := dkN_eq1 (dkN_top p0) a11_0 rfl rfl
    refine lv_if_eq (tgt := 22) hx hb dX6_row_4 (by decide) (fun c22 => ?_) (fun c22 => ?_)
    ·
      exact (dkN_nil (show dkN [] v11 from dkN_eq1 dv11 (dkN_lit (x := 0) (0) rfl) (congrArg Int32.toInt c22) rfl)).elim
    ·
      refine lv_iload_n hx hb dX6_row_7 rfl (lv_at hl 2 rfl) ?_
      refine lv_iconst (v := 0) hx hb dX6_row_8 (by decide) ?_
      refine lv_iconst (v := 2) hx hb dX6_row_9 (by decide) ?_
      refine dk_Si (As := [.int p1, .int 0, .int 2]) (rest := []) ⟨hx, hb, hml, hown, hts⟩ (fx_X6_in_32 l g z I0 p1 0 2 (dkN_lit (x := 0) (0) rfl) (dkN_lit (x := 2) (2) rfl) hO) (va_cwS 3 hts gX6_row_X6_in rfl rfl rfl (by decide +kernel) ⟨Nat.le_of_ble_eq_true rfl, Nat.le_of_ble_eq_true rfl⟩) hK hT hW hS rfl hl.1 rfl (Nat.le_of_ble_eq_true rfl) dX6_row_10 ⟨Nat.zero_le _, Nat.zero_le _⟩ (fun v23 I23 H23 L23 hp23 hW hS => ?_)
      obtain ⟨hF23, hO, hc23⟩ := hp23
      have hF := dkF_call hF hF23 rfl
      have eI23 : I0 = I23 := (dkF_nil hF23).symm
      subst eI23
      rcases hc23 with ⟨dv23, a23_0, x23_0, xr23, -⟩ | hc23
      ·
        have q24 : p1.toInt + 1 ≤ (0 : Int) := x23_0
        have xv23 : v23 = 0 := by have h := xr23; exact h
        have d25 : dkN [(-2147483648, -1)] p1 := dkN_eq1 (dkN_top p1) a23_0 rfl rfl
        refine lv_if_eq (tgt := 22) hx hb dX6_row_13 (by decide) (fun c26 => ?_) (fun c26 => ?_)
        ·
          refine lv_ldc (v := (-1000001)) hx hb hown (hts (.constant RX6 64 (-1000001)) (List.mem_of_getElem? (i := 1) rfl)) dX6_row_22 ?_
          exact W.iret (v := (-1000001)) hx hb hr (fun t ht hW9 => ⟨⟨(-1000001), I0, rfl, ⟨hF, hO, Or.inr (Or.inr (Or.inl ⟨dkN_sub (dkN_lit (x := (-1000001)) (-1000001) rfl) rfl, dkN_sub d21 rfl, dkN_sub d25 rfl, q19, q20, q24, rfl, rfl, rfl, rfl, trivial⟩))⟩, dkW_eq ht hW⟩, hS.F ht⟩) hS.2.2 dX6_row_24
        ·
          exact absurd ((xv23).trans (rfl).symm) c26
      rcases hc23 with ⟨dv23, a23_0, x23_0, x23_1, xr23, -⟩ | hc23
      ·
        have q27 : (0 : Int) + 0 ≤ p1.toInt := x23_0
        have q28 : (2 : Int) + 1 ≤ p1.toInt := x23_1
        have xv23 : v23 = 0 := by have h := xr23; exact h
        have d29 : dkN [(3, 2147483647)] p1 := dkN_eq1 (dkN_top p1) a23_0 rfl rfl
        refine lv_if_eq (tgt := 22) hx hb dX6_row_13 (by decide) (fun c30 => ?_) (fun c30 => ?_)
        ·
          refine lv_ldc (v := (-1000001)) hx hb hown (hts (.constant RX6 64 (-1000001)) (List.mem_of_getElem? (i := 1) rfl)) dX6_row_22 ?_
          exact W.iret (v := (-1000001)) hx hb hr (fun t ht hW9 => ⟨⟨(-1000001), I0, rfl, ⟨hF, hO, Or.inr (Or.inr (Or.inr (Or.inl ⟨dkN_sub (dkN_lit (x := (-1000001)) (-1000001) rfl) rfl, dkN_sub d21 rfl, dkN_sub d29 rfl, q19, q20, q27, q28, rfl, rfl, rfl, rfl, trivial⟩)))⟩, dkW_eq ht hW⟩, hS.F ht⟩) hS.2.2 dX6_row_24
        ·
          exact absurd ((xv23).trans (rfl).symm) c30
      ·
        obtain ⟨dv23, a23_0, x23_0, x23_1, xr23, -⟩ := hc23
        have q31 : (0 : Int) + 0 ≤ p1.toInt := x23_0
        have q32 : p1.toInt + 0 ≤ (2 : Int) := x23_1
        have xv23 : v23 = 1 := by have h := xr23; exact h
        have d33 : dkN [(0, 2)] p1 := dkN_eq1 (dkN_top p1) a23_0 rfl rfl
        refine lv_if_eq (tgt := 22) hx hb dX6_row_13 (by decide) (fun c34 => ?_) (fun c34 => ?_)
        ·
          exact (dkN_nil (show dkN [] v23 from dkN_eq1 dv23 (dkN_lit (x := 0) (0) rfl) (congrArg Int32.toInt c34) rfl)).elim
        ·
          refine lv_iload_n hx hb dX6_row_16 rfl (lv_at hl 3 rfl) ?_
          refine lv_bipush (v := 40) hx hb dX6_row_17 (by decide) ?_
          refine lv_icmp_le (tgt := 25) hx hb dX6_row_19 (by decide) (fun c35 => ?_) (fun c35 => ?_)
          ·
            have q36 : p2.toInt + 0 ≤ (40 : Int) := (dkc_le c35)
            have d37 : dkN [(-2147483648, 40)] p2 := dkN_le1 0 (dkN_top p2) (dkN_lit (x := 40) (40) rfl) (dkc_le c35) rfl
            refine lv_iload_n hx hb dX6_row_25 rfl (lv_at hl 3 rfl) ?_
            refine lv_if_ge (tgt := 35) hx hb dX6_row_26 (by decide) (fun c38 => ?_) (fun c38 => ?_)
            ·
              have q39 : (0 : Int) + 0 ≤ p2.toInt := (dkc_le c38)
              have d40 : dkN [(0, 40)] p2 := dkN_le2 0 (dkN_lit (x := 0) (0) rfl) d37 (dkc_le c38) rfl
              refine lv_aload_n hx hb dX6_row_35 rfl (lv_at hl 0 rfl) ?_
              refine dk_get (k := 340) hx hb hts iX6_row_6 hown hK (dk_at340 hW) rfl 0 (by decide) (hts (.fieldLink RX6 7 "DogKingsModel" "lane" "[I") (List.mem_of_getElem? (i := 2) rfl)) rfl dX6_row_36 ?_
              refine lv_iload_n hx hb dX6_row_39 rfl (lv_at hl 1 rfl) ?_
              refine lv_iload_n hx hb dX6_row_40 rfl (lv_at hl 2 rfl) ?_
              refine dk_ist (k := 341) hx hb hK hW (fun _ => rfl) (by decide) hS (dkN_in (n := 8) d21 rfl) dX6_row_41 (fun I41 H41 L41 eI41 hW hS => ?_)
              have hO := dkO_set hO eI41 (dkN_sub d33 rfl)
              have hF := dkF_set hF eI41 (dkIn_v d21 rfl)
              refine lv_aload_n hx hb dX6_row_42 rfl (lv_at hl 0 rfl) ?_
              refine dk_get (k := 340) hx hb hts iX6_row_6 hown hK (dk_at340 hW) rfl 1 (by decide) (hts (.fieldLink RX6 13 "DogKingsModel" "many" "[I") (List.mem_of_getElem? (i := 3) rfl)) rfl dX6_row_43 ?_
              refine lv_iload_n hx hb dX6_row_46 rfl (lv_at hl 1 rfl) ?_
              refine lv_iload_n hx hb dX6_row_47 rfl (lv_at hl 3 rfl) ?_
              refine dk_ist (k := 342) hx hb hK hW (fun _ => rfl) (by decide) hS (dkN_in (n := 8) d21 rfl) dX6_row_48 (fun I42 H42 L42 eI42 hW hS => ?_)
              have hO := dkO_set hO eI42 (dkN_sub d40 rfl)
              have hF := dkF_set hF eI42 (dkIn_v d21 rfl)
              refine lv_iconst (v := 0) hx hb dX6_row_49 (by decide) ?_
              refine lv_istore (lv' := [(4, .int 0), (0, .ref (z + 340)), (1, .int p0), (2, .int p1), (3, .int p2)]) hx hb dX6_row_50 hl (by decide) rfl (fun ls hl => ?_)
              exact C52 _ I42 _ _ ls 0 (Nat.lt_succ_self _) hW hS hF hO (dkN_sub (dkN_lit (x := 0) (0) rfl) rfl) (dkN_sub d21 rfl) (dkN_sub d33 rfl) (dkN_sub d40 rfl) ((by rw [eI42, dkU_n (by decide)] : I42 341 = _).trans (by rw [eI41, dkU_s, show (I0 341) = I0 341 from rfl])) (by rw [eI42, dkU_s, ((by rw [eI41, dkU_n (by decide)] : I41 342 = _).trans rfl)]) q19 q20 q31 q32 q36 q39 (lv_sub hl [1, 2, 3, 4, 0] rfl)
            ·
              have q43 : p2.toInt + 1 ≤ (0 : Int) := (dkc_nle c38)
              have d44 : dkN [(-2147483648, -1)] p2 := dkN_le1 1 d37 (dkN_lit (x := 0) (0) rfl) (dkc_nle c38) rfl
              refine lv_aload_n hx hb dX6_row_29 rfl (lv_at hl 0 rfl) ?_
              refine lv_iconst (v := 4) hx hb dX6_row_30 (by decide) ?_
              refine dk_Vi (As := [.int 4]) (rest := []) ⟨hx, hb, hml, hown, hts⟩ (fx_X6_found_5 l g z I0 4 (dkN_lit (x := 4) (4) rfl) hO) (cwV 1 hts gX6_row_X6_found rfl rfl rfl (by decide +kernel) ⟨Nat.le_of_ble_eq_true rfl, Nat.le_of_ble_eq_true rfl⟩) (dk_at340 hW) rfl hK hT hW hS rfl hl.1 rfl (Nat.le_of_ble_eq_true rfl) dX6_row_31 ⟨Nat.zero_le _, Nat.zero_le _⟩ (fun v45 I45 H45 L45 hp45 hW hS => ?_)
              obtain ⟨hF45, hO, hc45⟩ := hp45
              have hF := dkF_call hF hF45 rfl
              obtain ⟨dv45, f45_340_4, x45_0, xr45, xh45_0, -⟩ := hc45
              have q46 : ((-1000010 : Int32) - (4 : Int32)).toInt = (-1000010 : Int) - (4 : Int) := x45_0
              have y47 : I45 340 4 = 4 := by have h := xh45_0; exact h
              have xv45 : v45 = (-1000010 : Int32) - (4 : Int32) := by have h := xr45; exact h
              exact W.iret (v := v45) hx hb hr (fun t ht hW9 => ⟨⟨v45, I45, rfl, ⟨hF, hO, Or.inr (Or.inr (Or.inr (Or.inr (Or.inl ⟨dkN_sub dv45 rfl, dkN_sub d21 rfl, dkN_sub d33 rfl, dkN_sub d44 rfl, (show dkN [(4, 4)] (I45 340 4) from dkN_sub f45_340_4 rfl), q19, q20, q31, q32, q36, q43, q46, xv45, y47, ((funext fun j => hF45 341 j (dkNin_k rfl dkNin_nil)).trans rfl), ((funext fun j => hF45 342 j (dkNin_k rfl dkNin_nil)).trans rfl), trivial⟩))))⟩, dkW_eq ht hW⟩, hS.F ht⟩) hS.2.2 dX6_row_34
          ·
            have q48 : (40 : Int) + 1 ≤ p2.toInt := (dkc_nle c35)
            have d49 : dkN [(41, 2147483647)] p2 := dkN_le2 1 (dkN_lit (x := 40) (40) rfl) (dkN_top p2) (dkc_nle c35) rfl
            refine lv_ldc (v := (-1000001)) hx hb hown (hts (.constant RX6 64 (-1000001)) (List.mem_of_getElem? (i := 1) rfl)) dX6_row_22 ?_
            exact W.iret (v := (-1000001)) hx hb hr (fun t ht hW9 => ⟨⟨(-1000001), I0, rfl, ⟨hF, hO, Or.inr (Or.inr (Or.inr (Or.inr (Or.inr (Or.inl ⟨dkN_sub (dkN_lit (x := (-1000001)) (-1000001) rfl) rfl, dkN_sub d21 rfl, dkN_sub d33 rfl, dkN_sub d49 rfl, q19, q20, q31, q32, q48, rfl, rfl, rfl, rfl, trivial⟩)))))⟩, dkW_eq ht hW⟩, hS.F ht⟩) hS.2.2 dX6_row_24
set_option maxHeartbeats 4000000 in
set_option maxRecDepth 100000 in
theorem fx_X5_isMissing_1 (l : Launch) (g : dkG) (z : Nat) (I0 : dkI) (p0 : Int32) (dp0 : dkN [(0, 7)] p0)  (hO : dkOk I0) : Met l yX5_isMissing wsX5_isMissing (dkR 0) (dkPc g z [.ref (z + 0), .int p0] I0) (dkQi g z (fun r I1 => dkF [] I0 I1 ∧ dkOk I1 ∧ ((dkN [(0, 0)] r ∧ (I0 11 (Int32.toNatClampNeg p0)).toInt ≠ (-1 : Int) ∧ r = 0 ∧ True) ∨ (dkN [(1, 1)] r ∧ (I0 11 (Int32.toNatClampNeg p0)).toInt = (-1 : Int) ∧ r = 1 ∧ True)))) 0 0 (dkA z) := by
  refine Met.ofW (cc := cX5_isMissing) (maxL := 2) (ret := (some .boolean)) (by decide) rfl ?_
  intro p e s m args below meth c s₁ B hml hv
  obtain ⟨ha, hW, hK, hT⟩ := hv
  have hx := B.exec
  have hb := B.bytes
  have hr := B.returns
  have hts := atoms_spec (ws := wsX5_isMissing) B.pre
  have hown : s.vm.findClass RX5 = some m.cls := findClass_of_methodNamed B.named
  have hlocks := B.notSynchronized
  have hS : va_S (dkA z) s.heap s.heap [] := va_S.rf
  have hF : dkF [] I0 I0 := dkF_rf _ _
  have hl := lv_entry ([.ref (z + 0), .int p0]) (n := 2) (Nat.le_of_ble_eq_true rfl)
  have hgo : entryFrame m args 2 = entryFrame m ([.ref (z + 0), .int p0] : List Value).toArray 2 := by rw [ha]
  rw [hgo, lg_entry_eq]
  generalize (lg_sl ([.ref (z + 0), .int p0]) ++ List.replicate (2 - (lg_sl ([.ref (z + 0), .int p0])).length) Slot.unset).toArray = ls at hl ⊢
  have hl : lv_has ls 2 [(0, .ref (z + 0)), (1, .int p0)] := hl
  refine lv_aload_n hx hb dX5_isMissing_0 rfl (lv_at hl 0 rfl) ?_
  refine dk_get (k := 0) hx hb hts iX5_isMissing_5 hown hK (dk_at0 hW) rfl 2 (by decide) (hts (.fieldLink RX5 18 "DogKings" "sizes" "[I") (List.mem_of_getElem? (i := 1) rfl)) rfl dX5_isMissing_1 ?_
  refine lv_iload_n hx hb dX5_isMissing_4 rfl (lv_at hl 1 rfl) ?_
  refine dk_ild (k := 11) hx hb hK (dk_at11 hW) (dkN_in (n := 8) dp0 rfl) dX5_isMissing_5 ?_
  refine lv_topi (fun v1 ev1 => ?_)
  have dv1 : dkN [(-1, 40)] v1 := by rw [ev1]; exact (hO 11 _)
  have xv1 : v1 = I0 11 (Int32.toNatClampNeg p0) := ev1.trans rfl
  refine lv_iconst (v := (-1)) hx hb dX5_isMissing_6 (by decide) ?_
  refine lv_icmp_ne (tgt := 14) hx hb dX5_isMissing_7 (by decide) (fun c2 => ?_) (fun c2 => ?_)
  ·
    have q3 : (I0 11 (Int32.toNatClampNeg p0)).toInt ≠ (-1 : Int) := by first | (rw [← xv1]; exact (dk_ne c2)) | (subst xv1; exact (dk_ne c2))
    have d4 : dkN [(0, 40)] v1 := dkN_ne1 (-1) dv1 (dkN_lit (x := (-1)) (-1) rfl) (dk_ne c2) rfl
    refine lv_iconst (v := 0) hx hb dX5_isMissing_14 (by decide) ?_
    exact W.zret (v := 0) (ty := .boolean) hx hb hr rfl (fun t ht hW9 => ⟨⟨0, I0, rfl, ⟨hF, hO, Or.inl ⟨dkN_sub (dkN_lit (x := 0) (0) rfl) rfl, q3, rfl, trivial⟩⟩, dkW_eq ht hW⟩, hS.F ht⟩) hS.2.2 dX5_isMissing_15
  ·
    have q5 : (I0 11 (Int32.toNatClampNeg p0)).toInt = (-1 : Int) := by first | (rw [← xv1]; exact (congrArg Int32.toInt c2)) | (subst xv1; exact (congrArg Int32.toInt c2))
    have d6 : dkN [(-1, -1)] v1 := dkN_eq1 dv1 (dkN_lit (x := (-1)) (-1) rfl) (congrArg Int32.toInt c2) rfl
    refine lv_iconst (v := 1) hx hb dX5_isMissing_10 (by decide) ?_
    refine lv_goto (tgt := 15) hx hb dX5_isMissing_11 (by decide) ?_
    exact W.zret (v := 1) (ty := .boolean) hx hb hr rfl (fun t ht hW9 => ⟨⟨1, I0, rfl, ⟨hF, hO, Or.inr (⟨dkN_sub (dkN_lit (x := 1) (1) rfl) rfl, q5, rfl, trivial⟩)⟩, dkW_eq ht hW⟩, hS.F ht⟩) hS.2.2 dX5_isMissing_15
set_option maxHeartbeats 4000000 in
set_option maxRecDepth 100000 in
theorem fx_X5_found_6 (l : Launch) (g : dkG) (z : Nat) (I0 : dkI) (p0 : Int32) (dp0 : dkN [(1, 1)] p0)  (hO : dkOk I0) : Met l yX5_found wsX5_found (dkR 0) (dkPc g z [.ref (z + 0), .int p0] I0) (dkQi g z (fun r I1 => dkF [(0, 0, 3, 3)] I0 I1 ∧ dkOk I1 ∧ ((dkN [(-1000011, -1000011)] r ∧ dkN [(1, 1)] (I1 0 3) ∧ ((-1000010 : Int32) - p0).toInt = (-1000010 : Int) - p0.toInt ∧ r = (-1000010 : Int32) - p0 ∧ I1 0 3 = p0 ∧ True)))) 0 0 (dkA z) := by
  refine Met.ofW (cc := cX5_found) (maxL := 2) (ret := (some .int)) (by decide) rfl ?_
  intro p e s m args below meth c s₁ B hml hv
  obtain ⟨ha, hW, hK, hT⟩ := hv
  have hx := B.exec
  have hb := B.bytes
  have hr := B.returns
  have hts := atoms_spec (ws := wsX5_found) B.pre
  have hown : s.vm.findClass RX5 = some m.cls := findClass_of_methodNamed B.named
  have hlocks := B.notSynchronized
  have hS : va_S (dkA z) s.heap s.heap [] := va_S.rf
  have hF : dkF [(0, 0, 3, 3)] I0 I0 := dkF_rf _ _
  have hl := lv_entry ([.ref (z + 0), .int p0]) (n := 2) (Nat.le_of_ble_eq_true rfl)
  have hgo : entryFrame m args 2 = entryFrame m ([.ref (z + 0), .int p0] : List Value).toArray 2 := by rw [ha]
  rw [hgo, lg_entry_eq]
  generalize (lg_sl ([.ref (z + 0), .int p0]) ++ List.replicate (2 - (lg_sl ([.ref (z + 0), .int p0])).length) Slot.unset).toArray = ls at hl ⊢
  have hl : lv_has ls 2 [(0, .ref (z + 0)), (1, .int p0)] := hl
  refine lv_aload_n hx hb dX5_found_0 rfl (lv_at hl 0 rfl) ?_
  refine lv_iload_n hx hb dX5_found_1 rfl (lv_at hl 1 rfl) ?_
  refine dk_put (k := 0) hx hb hts iX5_found_5 tyX5 tyX5_ok nmX5 hown hK hW (dk_at0 hW) hS rfl 3 (by decide) (hts (.fieldLink RX5 292 "DogKings" "finding" "I") (List.mem_of_getElem? (i := 1) rfl)) rfl rfl (Nat.le_of_ble_eq_true rfl) rfl dX5_found_2 (fun I1 H1 L1 eI1 hW hS => ?_)
  have eI1 : I1 = dkU I0 0 3 p0 := eI1
  have hO := dkO_set hO eI1 (dkN_sub dp0 rfl)
  have hF := dkF_set hF eI1 rfl
  refine lv_ldcw (v := (-1000010)) hx hb hown (hts (.constant RX5 295 (-1000010)) (List.mem_of_getElem? (i := 2) rfl)) dX5_found_5 ?_
  refine lv_iload_n hx hb dX5_found_8 rfl (lv_at hl 1 rfl) ?_
  refine lv_isub hx hb dX5_found_9 ?_
  refine lv_topi (fun v2 ev2 => ?_)
  have dv2 : dkN [(-1000011, -1000011)] v2 := by rw [ev2]; exact dkN_subt (dkN_lit (x := (-1000010)) (-1000010) rfl) dp0 rfl
  have xv2 : v2 = (-1000010 : Int32) - p0 := by rw [ev2]
  have q3 : ((-1000010 : Int32) - p0).toInt = (-1000010 : Int) - p0.toInt := by first | (rw [← xv2]; exact (by rw [ev2]; exact dk_subE (dkN_lit (x := (-1000010)) (-1000010) rfl) dp0 rfl)) | (subst xv2; exact (by rw [ev2]; exact dk_subE (dkN_lit (x := (-1000010)) (-1000010) rfl) dp0 rfl))
  exact W.iret (v := v2) hx hb hr (fun t ht hW9 => ⟨⟨v2, I1, rfl, ⟨hF, hO, ⟨dkN_sub dv2 rfl, (show dkN [(1, 1)] (I1 0 3) from dkN_sub (by rw [eI1, dkU_ss]; exact dp0) rfl), q3, xv2, (by rw [eI1, dkU_ss]), trivial⟩⟩, dkW_eq ht hW⟩, hS.F ht⟩) hS.2.2 dX5_found_10
set_option maxHeartbeats 4000000 in
set_option maxRecDepth 100000 in
theorem fx_X5_drop_1 (l : Launch) (g : dkG) (z : Nat) (I0 : dkI) (p0 : Int32)  (hO : dkOk I0) : Met l yX5_drop wsX5_drop (dkR 2) (dkPc g z [.ref (z + 0), .int p0] I0) (dkQi g z (fun r I1 => dkF [(0, 0, 3, 3), (11, 11, 0, 7)] I0 I1 ∧ dkOk I1 ∧ ((dkN [(-1000001, -1000001)] r ∧ dkN [(-2147483648, -1)] p0 ∧ p0.toInt + 1 ≤ (0 : Int) ∧ r = (-1000001) ∧ I1 0 3 = I0 0 3 ∧ I1 11  = I0 11 ∧ True) ∨ (dkN [(-1000001, -1000001)] r ∧ dkN [(8, 2147483647)] p0 ∧ (0 : Int) + 0 ≤ p0.toInt ∧ (7 : Int) + 1 ≤ p0.toInt ∧ r = (-1000001) ∧ I1 0 3 = I0 0 3 ∧ I1 11  = I0 11 ∧ True) ∨ (True ∧ dkN [(0, 7)] p0 ∧ dkN [(0, 0)] (I1 0 3) ∧ (0 : Int) + 0 ≤ p0.toInt ∧ p0.toInt + 0 ≤ (7 : Int) ∧ (I0 11 (Int32.toNatClampNeg p0)).toInt ≠ (-1 : Int) ∧ r = (I0 11 (Int32.toNatClampNeg p0)) ∧ I1 0 3 = 0 ∧ I1 11  = dkV (I0 11) (Int32.toNatClampNeg p0) (-1) ∧ True) ∨ (dkN [(-1000011, -1000011)] r ∧ dkN [(0, 7)] p0 ∧ dkN [(1, 1)] (I1 0 3) ∧ (0 : Int) + 0 ≤ p0.toInt ∧ p0.toInt + 0 ≤ (7 : Int) ∧ (I0 11 (Int32.toNatClampNeg p0)).toInt = (-1 : Int) ∧ ((-1000010 : Int32) - (1 : Int32)).toInt = (-1000010 : Int) - (1 : Int) ∧ r = (-1000010 : Int32) - (1 : Int32) ∧ I1 0 3 = 1 ∧ I1 11  = I0 11 ∧ True)))) 0 0 (dkA z) := by
  refine Met.ofW (cc := cX5_drop) (maxL := 3) (ret := (some .int)) (by decide) rfl ?_
  intro p e s m args below meth c s₁ B hml hv
  obtain ⟨ha, hW, hK, hT⟩ := hv
  have hx := B.exec
  have hb := B.bytes
  have hr := B.returns
  have hts := atoms_spec (ws := wsX5_drop) B.pre
  have hown : s.vm.findClass RX5 = some m.cls := findClass_of_methodNamed B.named
  have hlocks := B.notSynchronized
  have hS : va_S (dkA z) s.heap s.heap [] := va_S.rf
  have hF : dkF [(0, 0, 3, 3), (11, 11, 0, 7)] I0 I0 := dkF_rf _ _
  have hl := lv_entry ([.ref (z + 0), .int p0]) (n := 3) (Nat.le_of_ble_eq_true rfl)
  have hgo : entryFrame m args 3 = entryFrame m ([.ref (z + 0), .int p0] : List Value).toArray 3 := by rw [ha]
  rw [hgo, lg_entry_eq]
  generalize (lg_sl ([.ref (z + 0), .int p0]) ++ List.replicate (3 - (lg_sl ([.ref (z + 0), .int p0])).length) Slot.unset).toArray = ls at hl ⊢
  have hl : lv_has ls 3 [(0, .ref (z + 0)), (1, .int p0)] := hl
  refine lv_iload_n hx hb dX5_drop_0 rfl (lv_at hl 1 rfl) ?_
  refine dk_Si (As := [.int p0]) (rest := []) ⟨hx, hb, hml, hown, hts⟩ (fx_X5_isRow_1 l g z I0 p0 hO) (va_cwS 1 hts gX5_drop_X5_isRow rfl rfl rfl (by decide +kernel) ⟨Nat.le_of_ble_eq_true rfl, Nat.le_of_ble_eq_true rfl⟩) hK hT hW hS rfl hl.1 rfl (Nat.le_of_ble_eq_true rfl) dX5_drop_1 ⟨Nat.zero_le _, Nat.zero_le _⟩ (fun v1 I1 H1 L1 hp1 hW hS => ?_)
  obtain ⟨hF1, hO, hc1⟩ := hp1
  have hF := dkF_call hF hF1 rfl
  have eI1 : I0 = I1 := (dkF_nil hF1).symm
  subst eI1
  rcases hc1 with ⟨dv1, a1_0, x1_0, xr1, -⟩ | hc1
  ·
    have q2 : p0.toInt + 1 ≤ (0 : Int) := x1_0
    have xv1 : v1 = 0 := by have h := xr1; exact h
    have d3 : dkN [(-2147483648, -1)] p0 := dkN_eq1 (dkN_top p0) a1_0 rfl rfl
    refine lv_if_ne (tgt := 10) hx hb dX5_drop_4 (by decide) (fun c4 => ?_) (fun c4 => ?_)
    ·
      exact absurd ((xv1).trans (rfl).symm) c4
    ·
      refine lv_ldc (v := (-1000001)) hx hb hown (hts (.constant RX5 70 (-1000001)) (List.mem_of_getElem? (i := 1) rfl)) dX5_drop_7 ?_
      exact W.iret (v := (-1000001)) hx hb hr (fun t ht hW9 => ⟨⟨(-1000001), I0, rfl, ⟨hF, hO, Or.inl ⟨dkN_sub (dkN_lit (x := (-1000001)) (-1000001) rfl) rfl, dkN_sub d3 rfl, q2, rfl, rfl, rfl, trivial⟩⟩, dkW_eq ht hW⟩, hS.F ht⟩) hS.2.2 dX5_drop_9
  rcases hc1 with ⟨dv1, a1_0, x1_0, x1_1, xr1, -⟩ | hc1
  ·
    have q5 : (0 : Int) + 0 ≤ p0.toInt := x1_0
    have q6 : (7 : Int) + 1 ≤ p0.toInt := x1_1
    have xv1 : v1 = 0 := by have h := xr1; exact h
    have d7 : dkN [(8, 2147483647)] p0 := dkN_eq1 (dkN_top p0) a1_0 rfl rfl
    refine lv_if_ne (tgt := 10) hx hb dX5_drop_4 (by decide) (fun c8 => ?_) (fun c8 => ?_)
    ·
      exact absurd ((xv1).trans (rfl).symm) c8
    ·
      refine lv_ldc (v := (-1000001)) hx hb hown (hts (.constant RX5 70 (-1000001)) (List.mem_of_getElem? (i := 1) rfl)) dX5_drop_7 ?_
      exact W.iret (v := (-1000001)) hx hb hr (fun t ht hW9 => ⟨⟨(-1000001), I0, rfl, ⟨hF, hO, Or.inr (Or.inl ⟨dkN_sub (dkN_lit (x := (-1000001)) (-1000001) rfl) rfl, dkN_sub d7 rfl, q5, q6, rfl, rfl, rfl, trivial⟩)⟩, dkW_eq ht hW⟩, hS.F ht⟩) hS.2.2 dX5_drop_9
  ·
    obtain ⟨dv1, a1_0, x1_0, x1_1, xr1, -⟩ := hc1
    have q9 : (0 : Int) + 0 ≤ p0.toInt := x1_0
    have q10 : p0.toInt + 0 ≤ (7 : Int) := x1_1
    have xv1 : v1 = 1 := by have h := xr1; exact h
    have d11 : dkN [(0, 7)] p0 := dkN_eq1 (dkN_top p0) a1_0 rfl rfl
    refine lv_if_ne (tgt := 10) hx hb dX5_drop_4 (by decide) (fun c12 => ?_) (fun c12 => ?_)
    ·
      refine lv_aload_n hx hb dX5_drop_10 rfl (lv_at hl 0 rfl) ?_
      refine lv_iload_n hx hb dX5_drop_11 rfl (lv_at hl 1 rfl) ?_
      refine dk_Vi (As := [.int p0]) (rest := []) ⟨hx, hb, hml, hown, hts⟩ (fx_X5_isMissing_1 l g z I0 p0 d11 hO) (cwV 1 hts gX5_drop_X5_isMissing rfl rfl rfl (by decide +kernel) ⟨Nat.le_of_ble_eq_true rfl, Nat.le_of_ble_eq_true rfl⟩) (dk_at0 hW) rfl hK hT hW hS rfl hl.1 rfl (Nat.le_of_ble_eq_true rfl) dX5_drop_12 ⟨Nat.zero_le _, Nat.zero_le _⟩ (fun v13 I13 H13 L13 hp13 hW hS => ?_)
      obtain ⟨hF13, hO, hc13⟩ := hp13
      have hF := dkF_call hF hF13 rfl
      have eI13 : I0 = I13 := (dkF_nil hF13).symm
      subst eI13
      rcases hc13 with ⟨dv13, x13_0, xr13, -⟩ | hc13
      ·
        have q14 : (I0 11 (Int32.toNatClampNeg p0)).toInt ≠ (-1 : Int) := x13_0
        have xv13 : v13 = 0 := by have h := xr13; exact h
        refine lv_if_eq (tgt := 24) hx hb dX5_drop_15 (by decide) (fun c15 => ?_) (fun c15 => ?_)
        ·
          refine lv_aload_n hx hb dX5_drop_24 rfl (lv_at hl 0 rfl) ?_
          refine dk_get (k := 0) hx hb hts iX5_drop_5 hown hK (dk_at0 hW) rfl 2 (by decide) (hts (.fieldLink RX5 18 "DogKings" "sizes" "[I") (List.mem_of_getElem? (i := 2) rfl)) rfl dX5_drop_25 ?_
          refine lv_iload_n hx hb dX5_drop_28 rfl (lv_at hl 1 rfl) ?_
          refine dk_ild (k := 11) hx hb hK (dk_at11 hW) (dkN_in (n := 8) d11 rfl) dX5_drop_29 ?_
          refine lv_topi (fun v16 ev16 => ?_)
          have dv16 : dkN [(-1, 40)] v16 := by rw [ev16]; exact (hO 11 _)
          have xv16 : v16 = I0 11 (Int32.toNatClampNeg p0) := ev16.trans rfl
          refine lv_istore_n (lv' := [(2, .int v16), (0, .ref (z + 0)), (1, .int p0)]) hx hb dX5_drop_30 rfl hl (by decide) rfl (fun ls hl => ?_)
          refine lv_aload_n hx hb dX5_drop_31 rfl (lv_at hl 1 rfl) ?_
          refine dk_get (k := 0) hx hb hts iX5_drop_5 hown hK (dk_at0 hW) rfl 2 (by decide) (hts (.fieldLink RX5 18 "DogKings" "sizes" "[I") (List.mem_of_getElem? (i := 2) rfl)) rfl dX5_drop_32 ?_
          refine lv_iload_n hx hb dX5_drop_35 rfl (lv_at hl 2 rfl) ?_
          refine lv_iconst (v := (-1)) hx hb dX5_drop_36 (by decide) ?_
          refine dk_ist (k := 11) hx hb hK hW (fun _ => rfl) (by decide) hS (dkN_in (n := 8) d11 rfl) dX5_drop_37 (fun I17 H17 L17 eI17 hW hS => ?_)
          have hO := dkO_set hO eI17 (dkN_sub (dkN_lit (x := (-1)) (-1) rfl) rfl)
          have hF := dkF_set hF eI17 (dkIn_v d11 rfl)
          refine lv_aload_n hx hb dX5_drop_38 rfl (lv_at hl 1 rfl) ?_
          refine lv_iload_n hx hb dX5_drop_39 rfl (lv_at hl 0 rfl) ?_
          refine dk_Vi (As := [.int v16]) (rest := []) ⟨hx, hb, hml, hown, hts⟩ (fx_X5_nothingFound_1 l g z I17 v16 hO) (cwV 1 hts gX5_drop_X5_nothingFound rfl rfl rfl (by decide +kernel) ⟨Nat.le_of_ble_eq_true rfl, Nat.le_of_ble_eq_true rfl⟩) (dk_at0 hW) rfl hK hT hW hS rfl hl.1 rfl (Nat.le_of_ble_eq_true rfl) dX5_drop_40 ⟨Nat.zero_le _, Nat.zero_le _⟩ (fun v18 I18 H18 L18 hp18 hW hS => ?_)
          obtain ⟨hF18, hO, hc18⟩ := hp18
          have hF := dkF_call hF hF18 rfl
          obtain ⟨_, f18_0_3, xr18, xh18_0, -⟩ := hc18
          have y19 : I18 0 3 = 0 := by have h := xh18_0; exact h
          have xv18 : v18 = (I0 11 (Int32.toNatClampNeg p0)) := by have h := xr18; rw [xv16] at h; exact h
          exact W.iret (v := v18) hx hb hr (fun t ht hW9 => ⟨⟨v18, I18, rfl, ⟨hF, hO, Or.inr (Or.inr (Or.inl ⟨trivial, dkN_sub d11 rfl, (show dkN [(0, 0)] (I18 0 3) from dkN_sub f18_0_3 rfl), q9, q10, q14, xv18, y19, ((funext fun j => hF18 11 j (dkNin_k rfl dkNin_nil)).trans (by rw [eI17, dkU_s, show (I0 11) = I0 11 from rfl])), trivial⟩))⟩, dkW_eq ht hW⟩, hS.F ht⟩) hS.2.2 dX5_drop_43
        ·
          exact absurd ((xv13).trans (rfl).symm) c15
      ·
        obtain ⟨dv13, x13_0, xr13, -⟩ := hc13
        have q20 : (I0 11 (Int32.toNatClampNeg p0)).toInt = (-1 : Int) := x13_0
        have xv13 : v13 = 1 := by have h := xr13; exact h
        refine lv_if_eq (tgt := 24) hx hb dX5_drop_15 (by decide) (fun c21 => ?_) (fun c21 => ?_)
        ·
          exact (dkN_nil (show dkN [] v13 from dkN_eq1 dv13 (dkN_lit (x := 0) (0) rfl) (congrArg Int32.toInt c21) rfl)).elim
        ·
          refine lv_aload_n hx hb dX5_drop_18 rfl (lv_at hl 0 rfl) ?_
          refine lv_iconst (v := 1) hx hb dX5_drop_19 (by decide) ?_
          refine dk_Vi (As := [.int 1]) (rest := []) ⟨hx, hb, hml, hown, hts⟩ (fx_X5_found_6 l g z I0 1 (dkN_lit (x := 1) (1) rfl) hO) (cwV 1 hts gX5_drop_X5_found rfl rfl rfl (by decide +kernel) ⟨Nat.le_of_ble_eq_true rfl, Nat.le_of_ble_eq_true rfl⟩) (dk_at0 hW) rfl hK hT hW hS rfl hl.1 rfl (Nat.le_of_ble_eq_true rfl) dX5_drop_20 ⟨Nat.zero_le _, Nat.zero_le _⟩ (fun v22 I22 H22 L22 hp22 hW hS => ?_)
          obtain ⟨hF22, hO, hc22⟩ := hp22
          have hF := dkF_call hF hF22 rfl
          obtain ⟨dv22, f22_0_3, x22_0, xr22, xh22_0, -⟩ := hc22
          have q23 : ((-1000010 : Int32) - (1 : Int32)).toInt = (-1000010 : Int) - (1 : Int) := x22_0
          have y24 : I22 0 3 = 1 := by have h := xh22_0; exact h
          have xv22 : v22 = (-1000010 : Int32) - (1 : Int32) := by have h := xr22; exact h
          exact W.iret (v := v22) hx hb hr (fun t ht hW9 => ⟨⟨v22, I22, rfl, ⟨hF, hO, Or.inr (Or.inr (Or.inr (⟨dkN_sub dv22 rfl, dkN_sub d11 rfl, (show dkN [(1, 1)] (I22 0 3) from dkN_sub f22_0_3 rfl), q9, q10, q20, q23, xv22, y24, ((funext fun j => hF22 11 j (dkNin_k rfl dkNin_nil)).trans rfl), trivial⟩)))⟩, dkW_eq ht hW⟩, hS.F ht⟩) hS.2.2 dX5_drop_23
    ·
      exact (dkN_nil (show dkN [] v1 from dkN_eq1 dv1 (dkN_lit (x := 0) (0) rfl) (congrArg Int32.toInt c12) rfl)).elim
set_option maxHeartbeats 4000000 in
set_option maxRecDepth 100000 in
theorem fx_X6_isMissing_1 (l : Launch) (g : dkG) (z : Nat) (I0 : dkI) (p0 : Int32) (dp0 : dkN [(0, 7)] p0)  (hO : dkOk I0) : Met l yX6_isMissing wsX6_isMissing (dkR 0) (dkPc g z [.ref (z + 340), .int p0] I0) (dkQi g z (fun r I1 => dkF [] I0 I1 ∧ dkOk I1 ∧ ((dkN [(0, 0)] r ∧ (I0 341 (Int32.toNatClampNeg p0)).toInt ≠ (-1000000 : Int) ∧ r = 0 ∧ True) ∨ (dkN [(1, 1)] r ∧ (I0 341 (Int32.toNatClampNeg p0)).toInt = (-1000000 : Int) ∧ r = 1 ∧ True)))) 0 0 (dkA z) := by
  refine Met.ofW (cc := cX6_isMissing) (maxL := 2) (ret := (some .boolean)) (by decide) rfl ?_
  intro p e s m args below meth c s₁ B hml hv
  obtain ⟨ha, hW, hK, hT⟩ := hv
  have hx := B.exec
  have hb := B.bytes
  have hr := B.returns
  have hts := atoms_spec (ws := wsX6_isMissing) B.pre
  have hown : s.vm.findClass RX6 = some m.cls := findClass_of_methodNamed B.named
  have hlocks := B.notSynchronized
  have hS : va_S (dkA z) s.heap s.heap [] := va_S.rf
  have hF : dkF [] I0 I0 := dkF_rf _ _
  have hl := lv_entry ([.ref (z + 340), .int p0]) (n := 2) (Nat.le_of_ble_eq_true rfl)
  have hgo : entryFrame m args 2 = entryFrame m ([.ref (z + 340), .int p0] : List Value).toArray 2 := by rw [ha]
  rw [hgo, lg_entry_eq]
  generalize (lg_sl ([.ref (z + 340), .int p0]) ++ List.replicate (2 - (lg_sl ([.ref (z + 340), .int p0])).length) Slot.unset).toArray = ls at hl ⊢
  have hl : lv_has ls 2 [(0, .ref (z + 340)), (1, .int p0)] := hl
  refine lv_aload_n hx hb dX6_isMissing_0 rfl (lv_at hl 0 rfl) ?_
  refine dk_get (k := 340) hx hb hts iX6_isMissing_6 hown hK (dk_at340 hW) rfl 0 (by decide) (hts (.fieldLink RX6 7 "DogKingsModel" "lane" "[I") (List.mem_of_getElem? (i := 1) rfl)) rfl dX6_isMissing_1 ?_
  refine lv_iload_n hx hb dX6_isMissing_4 rfl (lv_at hl 1 rfl) ?_
  refine dk_ild (k := 341) hx hb hK (dk_at341 hW) (dkN_in (n := 8) dp0 rfl) dX6_isMissing_5 ?_
  refine lv_topi (fun v1 ev1 => ?_)
  have dv1 : dkN [(-1000000, -1000000), (0, 2)] v1 := by rw [ev1]; exact (hO 341 _)
  have xv1 : v1 = I0 341 (Int32.toNatClampNeg p0) := ev1.trans rfl
  refine lv_ldc (v := (-1000000)) hx hb hown (hts (.constant RX6 50 (-1000000)) (List.mem_of_getElem? (i := 2) rfl)) dX6_isMissing_6 ?_
  refine lv_icmp_ne (tgt := 15) hx hb dX6_isMissing_8 (by decide) (fun c2 => ?_) (fun c2 => ?_)
  ·
    have q3 : (I0 341 (Int32.toNatClampNeg p0)).toInt ≠ (-1000000 : Int) := by first | (rw [← xv1]; exact (dk_ne c2)) | (subst xv1; exact (dk_ne c2))
    have d4 : dkN [(0, 2)] v1 := dkN_ne1 (-1000000) dv1 (dkN_lit (x := (-1000000)) (-1000000) rfl) (dk_ne c2) rfl
    refine lv_iconst (v := 0) hx hb dX6_isMissing_15 (by decide) ?_
    exact W.zret (v := 0) (ty := .boolean) hx hb hr rfl (fun t ht hW9 => ⟨⟨0, I0, rfl, ⟨hF, hO, Or.inl ⟨dkN_sub (dkN_lit (x := 0) (0) rfl) rfl, q3, rfl, trivial⟩⟩, dkW_eq ht hW⟩, hS.F ht⟩) hS.2.2 dX6_isMissing_16
  ·
    have q5 : (I0 341 (Int32.toNatClampNeg p0)).toInt = (-1000000 : Int) := by first | (rw [← xv1]; exact (congrArg Int32.toInt c2)) | (subst xv1; exact (congrArg Int32.toInt c2))
    have d6 : dkN [(-1000000, -1000000)] v1 := dkN_eq1 dv1 (dkN_lit (x := (-1000000)) (-1000000) rfl) (congrArg Int32.toInt c2) rfl
    refine lv_iconst (v := 1) hx hb dX6_isMissing_11 (by decide) ?_
    refine lv_goto (tgt := 16) hx hb dX6_isMissing_12 (by decide) ?_
    exact W.zret (v := 1) (ty := .boolean) hx hb hr rfl (fun t ht hW9 => ⟨⟨1, I0, rfl, ⟨hF, hO, Or.inr (⟨dkN_sub (dkN_lit (x := 1) (1) rfl) rfl, q5, rfl, trivial⟩)⟩, dkW_eq ht hW⟩, hS.F ht⟩) hS.2.2 dX6_isMissing_16
set_option maxHeartbeats 4000000 in
set_option maxRecDepth 100000 in
theorem fx_X6_found_6 (l : Launch) (g : dkG) (z : Nat) (I0 : dkI) (p0 : Int32) (dp0 : dkN [(1, 1)] p0)  (hO : dkOk I0) : Met l yX6_found wsX6_found (dkR 0) (dkPc g z [.ref (z + 340), .int p0] I0) (dkQi g z (fun r I1 => dkF [(340, 340, 4, 4)] I0 I1 ∧ dkOk I1 ∧ ((dkN [(-1000011, -1000011)] r ∧ dkN [(1, 1)] (I1 340 4) ∧ ((-1000010 : Int32) - p0).toInt = (-1000010 : Int) - p0.toInt ∧ r = (-1000010 : Int32) - p0 ∧ I1 340 4 = p0 ∧ True)))) 0 0 (dkA z) := by
  refine Met.ofW (cc := cX6_found) (maxL := 2) (ret := (some .int)) (by decide) rfl ?_
  intro p e s m args below meth c s₁ B hml hv
  obtain ⟨ha, hW, hK, hT⟩ := hv
  have hx := B.exec
  have hb := B.bytes
  have hr := B.returns
  have hts := atoms_spec (ws := wsX6_found) B.pre
  have hown : s.vm.findClass RX6 = some m.cls := findClass_of_methodNamed B.named
  have hlocks := B.notSynchronized
  have hS : va_S (dkA z) s.heap s.heap [] := va_S.rf
  have hF : dkF [(340, 340, 4, 4)] I0 I0 := dkF_rf _ _
  have hl := lv_entry ([.ref (z + 340), .int p0]) (n := 2) (Nat.le_of_ble_eq_true rfl)
  have hgo : entryFrame m args 2 = entryFrame m ([.ref (z + 340), .int p0] : List Value).toArray 2 := by rw [ha]
  rw [hgo, lg_entry_eq]
  generalize (lg_sl ([.ref (z + 340), .int p0]) ++ List.replicate (2 - (lg_sl ([.ref (z + 340), .int p0])).length) Slot.unset).toArray = ls at hl ⊢
  have hl : lv_has ls 2 [(0, .ref (z + 340)), (1, .int p0)] := hl
  refine lv_aload_n hx hb dX6_found_0 rfl (lv_at hl 0 rfl) ?_
  refine lv_iload_n hx hb dX6_found_1 rfl (lv_at hl 1 rfl) ?_
  refine dk_put (k := 340) hx hb hts iX6_found_6 tyX6 tyX6_ok nmX6 hown hK hW (dk_at340 hW) hS rfl 4 (by decide) (hts (.fieldLink RX6 51 "DogKingsModel" "status" "I") (List.mem_of_getElem? (i := 1) rfl)) rfl rfl (Nat.le_of_ble_eq_true rfl) rfl dX6_found_2 (fun I1 H1 L1 eI1 hW hS => ?_)
  have eI1 : I1 = dkU I0 340 4 p0 := eI1
  have hO := dkO_set hO eI1 (dkN_sub dp0 rfl)
  have hF := dkF_set hF eI1 rfl
  refine lv_ldc (v := (-1000010)) hx hb hown (hts (.constant RX6 55 (-1000010)) (List.mem_of_getElem? (i := 2) rfl)) dX6_found_5 ?_
  refine lv_iload_n hx hb dX6_found_7 rfl (lv_at hl 1 rfl) ?_
  refine lv_isub hx hb dX6_found_8 ?_
  refine lv_topi (fun v2 ev2 => ?_)
  have dv2 : dkN [(-1000011, -1000011)] v2 := by rw [ev2]; exact dkN_subt (dkN_lit (x := (-1000010)) (-1000010) rfl) dp0 rfl
  have xv2 : v2 = (-1000010 : Int32) - p0 := by rw [ev2]
  have q3 : ((-1000010 : Int32) - p0).toInt = (-1000010 : Int) - p0.toInt := by first | (rw [← xv2]; exact (by rw [ev2]; exact dk_subE (dkN_lit (x := (-1000010)) (-1000010) rfl) dp0 rfl)) | (subst xv2; exact (by rw [ev2]; exact dk_subE (dkN_lit (x := (-1000010)) (-1000010) rfl) dp0 rfl))
  exact W.iret (v := v2) hx hb hr (fun t ht hW9 => ⟨⟨v2, I1, rfl, ⟨hF, hO, ⟨dkN_sub dv2 rfl, (show dkN [(1, 1)] (I1 340 4) from dkN_sub (by rw [eI1, dkU_ss]; exact dp0) rfl), q3, xv2, (by rw [eI1, dkU_ss]), trivial⟩⟩, dkW_eq ht hW⟩, hS.F ht⟩) hS.2.2 dX6_found_9
set_option maxHeartbeats 4000000 in
set_option maxRecDepth 100000 in
theorem fx_X6_drop_1 (l : Launch) (g : dkG) (z : Nat) (I0 : dkI) (p0 : Int32)  (hO : dkOk I0) : Met l yX6_drop wsX6_drop (dkR 2) (dkPc g z [.ref (z + 340), .int p0] I0) (dkQi g z (fun r I1 => dkF [(340, 340, 4, 4), (341, 341, 0, 7)] I0 I1 ∧ dkOk I1 ∧ ((dkN [(-1000001, -1000001)] r ∧ dkN [(-2147483648, -1)] p0 ∧ p0.toInt + 1 ≤ (0 : Int) ∧ r = (-1000001) ∧ I1 340 4 = I0 340 4 ∧ I1 341  = I0 341 ∧ I1 342  = I0 342 ∧ True) ∨ (dkN [(-1000001, -1000001)] r ∧ dkN [(8, 2147483647)] p0 ∧ (0 : Int) + 0 ≤ p0.toInt ∧ (7 : Int) + 1 ≤ p0.toInt ∧ r = (-1000001) ∧ I1 340 4 = I0 340 4 ∧ I1 341  = I0 341 ∧ I1 342  = I0 342 ∧ True) ∨ (True ∧ dkN [(0, 7)] p0 ∧ dkN [(0, 0)] (I1 340 4) ∧ (0 : Int) + 0 ≤ p0.toInt ∧ p0.toInt + 0 ≤ (7 : Int) ∧ (I0 341 (Int32.toNatClampNeg p0)).toInt ≠ (-1000000 : Int) ∧ r = (I0 342 (Int32.toNatClampNeg p0)) ∧ I1 340 4 = 0 ∧ I1 341  = dkV (I0 341) (Int32.toNatClampNeg p0) (-1000000) ∧ I1 342  = I0 342 ∧ True) ∨ (dkN [(-1000011, -1000011)] r ∧ dkN [(0, 7)] p0 ∧ dkN [(1, 1)] (I1 340 4) ∧ (0 : Int) + 0 ≤ p0.toInt ∧ p0.toInt + 0 ≤ (7 : Int) ∧ (I0 341 (Int32.toNatClampNeg p0)).toInt = (-1000000 : Int) ∧ ((-1000010 : Int32) - (1 : Int32)).toInt = (-1000010 : Int) - (1 : Int) ∧ r = (-1000010 : Int32) - (1 : Int32) ∧ I1 340 4 = 1 ∧ I1 341  = I0 341 ∧ I1 342  = I0 342 ∧ True)))) 0 0 (dkA z) := by
  refine Met.ofW (cc := cX6_drop) (maxL := 2) (ret := (some .int)) (by decide) rfl ?_
  intro p e s m args below meth c s₁ B hml hv
  obtain ⟨ha, hW, hK, hT⟩ := hv
  have hx := B.exec
  have hb := B.bytes
  have hr := B.returns
  have hts := atoms_spec (ws := wsX6_drop) B.pre
  have hown : s.vm.findClass RX6 = some m.cls := findClass_of_methodNamed B.named
  have hlocks := B.notSynchronized
  have hS : va_S (dkA z) s.heap s.heap [] := va_S.rf
  have hF : dkF [(340, 340, 4, 4), (341, 341, 0, 7)] I0 I0 := dkF_rf _ _
  have hl := lv_entry ([.ref (z + 340), .int p0]) (n := 2) (Nat.le_of_ble_eq_true rfl)
  have hgo : entryFrame m args 2 = entryFrame m ([.ref (z + 340), .int p0] : List Value).toArray 2 := by rw [ha]
  rw [hgo, lg_entry_eq]
  generalize (lg_sl ([.ref (z + 340), .int p0]) ++ List.replicate (2 - (lg_sl ([.ref (z + 340), .int p0])).length) Slot.unset).toArray = ls at hl ⊢
  have hl : lv_has ls 2 [(0, .ref (z + 340)), (1, .int p0)] := hl
  refine lv_iload_n hx hb dX6_drop_0 rfl (lv_at hl 1 rfl) ?_
  refine dk_Si (As := [.int p0]) (rest := []) ⟨hx, hb, hml, hown, hts⟩ (fx_X6_isRow_1 l g z I0 p0 hO) (va_cwS 1 hts gX6_drop_X6_isRow rfl rfl rfl (by decide +kernel) ⟨Nat.le_of_ble_eq_true rfl, Nat.le_of_ble_eq_true rfl⟩) hK hT hW hS rfl hl.1 rfl (Nat.le_of_ble_eq_true rfl) dX6_drop_1 ⟨Nat.zero_le _, Nat.zero_le _⟩ (fun v1 I1 H1 L1 hp1 hW hS => ?_)
  obtain ⟨hF1, hO, hc1⟩ := hp1
  have hF := dkF_call hF hF1 rfl
  have eI1 : I0 = I1 := (dkF_nil hF1).symm
  subst eI1
  rcases hc1 with ⟨dv1, a1_0, x1_0, xr1, -⟩ | hc1
  ·
    have q2 : p0.toInt + 1 ≤ (0 : Int) := x1_0
    have xv1 : v1 = 0 := by have h := xr1; exact h
    have d3 : dkN [(-2147483648, -1)] p0 := dkN_eq1 (dkN_top p0) a1_0 rfl rfl
    refine lv_if_ne (tgt := 10) hx hb dX6_drop_4 (by decide) (fun c4 => ?_) (fun c4 => ?_)
    ·
      exact absurd ((xv1).trans (rfl).symm) c4
    ·
      refine lv_ldc (v := (-1000001)) hx hb hown (hts (.constant RX6 64 (-1000001)) (List.mem_of_getElem? (i := 1) rfl)) dX6_drop_7 ?_
      exact W.iret (v := (-1000001)) hx hb hr (fun t ht hW9 => ⟨⟨(-1000001), I0, rfl, ⟨hF, hO, Or.inl ⟨dkN_sub (dkN_lit (x := (-1000001)) (-1000001) rfl) rfl, dkN_sub d3 rfl, q2, rfl, rfl, rfl, rfl, trivial⟩⟩, dkW_eq ht hW⟩, hS.F ht⟩) hS.2.2 dX6_drop_9
  rcases hc1 with ⟨dv1, a1_0, x1_0, x1_1, xr1, -⟩ | hc1
  ·
    have q5 : (0 : Int) + 0 ≤ p0.toInt := x1_0
    have q6 : (7 : Int) + 1 ≤ p0.toInt := x1_1
    have xv1 : v1 = 0 := by have h := xr1; exact h
    have d7 : dkN [(8, 2147483647)] p0 := dkN_eq1 (dkN_top p0) a1_0 rfl rfl
    refine lv_if_ne (tgt := 10) hx hb dX6_drop_4 (by decide) (fun c8 => ?_) (fun c8 => ?_)
    ·
      exact absurd ((xv1).trans (rfl).symm) c8
    ·
      refine lv_ldc (v := (-1000001)) hx hb hown (hts (.constant RX6 64 (-1000001)) (List.mem_of_getElem? (i := 1) rfl)) dX6_drop_7 ?_
      exact W.iret (v := (-1000001)) hx hb hr (fun t ht hW9 => ⟨⟨(-1000001), I0, rfl, ⟨hF, hO, Or.inr (Or.inl ⟨dkN_sub (dkN_lit (x := (-1000001)) (-1000001) rfl) rfl, dkN_sub d7 rfl, q5, q6, rfl, rfl, rfl, rfl, trivial⟩)⟩, dkW_eq ht hW⟩, hS.F ht⟩) hS.2.2 dX6_drop_9
  ·
    obtain ⟨dv1, a1_0, x1_0, x1_1, xr1, -⟩ := hc1
    have q9 : (0 : Int) + 0 ≤ p0.toInt := x1_0
    have q10 : p0.toInt + 0 ≤ (7 : Int) := x1_1
    have xv1 : v1 = 1 := by have h := xr1; exact h
    have d11 : dkN [(0, 7)] p0 := dkN_eq1 (dkN_top p0) a1_0 rfl rfl
    refine lv_if_ne (tgt := 10) hx hb dX6_drop_4 (by decide) (fun c12 => ?_) (fun c12 => ?_)
    ·
      refine lv_aload_n hx hb dX6_drop_10 rfl (lv_at hl 0 rfl) ?_
      refine lv_iload_n hx hb dX6_drop_11 rfl (lv_at hl 1 rfl) ?_
      refine dk_Vi (As := [.int p0]) (rest := []) ⟨hx, hb, hml, hown, hts⟩ (fx_X6_isMissing_1 l g z I0 p0 d11 hO) (cwV 1 hts gX6_drop_X6_isMissing rfl rfl rfl (by decide +kernel) ⟨Nat.le_of_ble_eq_true rfl, Nat.le_of_ble_eq_true rfl⟩) (dk_at340 hW) rfl hK hT hW hS rfl hl.1 rfl (Nat.le_of_ble_eq_true rfl) dX6_drop_12 ⟨Nat.zero_le _, Nat.zero_le _⟩ (fun v13 I13 H13 L13 hp13 hW hS => ?_)
      obtain ⟨hF13, hO, hc13⟩ := hp13
      have hF := dkF_call hF hF13 rfl
      have eI13 : I0 = I13 := (dkF_nil hF13).symm
      subst eI13
      rcases hc13 with ⟨dv13, x13_0, xr13, -⟩ | hc13
      ·
        have q14 : (I0 341 (Int32.toNatClampNeg p0)).toInt ≠ (-1000000 : Int) := x13_0
        have xv13 : v13 = 0 := by have h := xr13; exact h
        refine lv_if_eq (tgt := 24) hx hb dX6_drop_15 (by decide) (fun c15 => ?_) (fun c15 => ?_)
        ·
          refine lv_aload_n hx hb dX6_drop_24 rfl (lv_at hl 0 rfl) ?_
          refine dk_get (k := 340) hx hb hts iX6_drop_6 hown hK (dk_at340 hW) rfl 0 (by decide) (hts (.fieldLink RX6 7 "DogKingsModel" "lane" "[I") (List.mem_of_getElem? (i := 2) rfl)) rfl dX6_drop_25 ?_
          refine lv_iload_n hx hb dX6_drop_28 rfl (lv_at hl 1 rfl) ?_
          refine lv_ldc (v := (-1000000)) hx hb hown (hts (.constant RX6 50 (-1000000)) (List.mem_of_getElem? (i := 3) rfl)) dX6_drop_29 ?_
          refine dk_ist (k := 341) hx hb hK hW (fun _ => rfl) (by decide) hS (dkN_in (n := 8) d11 rfl) dX6_drop_31 (fun I16 H16 L16 eI16 hW hS => ?_)
          have hO := dkO_set hO eI16 (dkN_sub (dkN_lit (x := (-1000000)) (-1000000) rfl) rfl)
          have hF := dkF_set hF eI16 (dkIn_v d11 rfl)
          refine lv_aload_n hx hb dX6_drop_32 rfl (lv_at hl 0 rfl) ?_
          refine lv_aload_n hx hb dX6_drop_33 rfl (lv_at hl 0 rfl) ?_
          refine dk_get (k := 340) hx hb hts iX6_drop_6 hown hK (dk_at340 hW) rfl 1 (by decide) (hts (.fieldLink RX6 13 "DogKingsModel" "many" "[I") (List.mem_of_getElem? (i := 4) rfl)) rfl dX6_drop_34 ?_
          refine lv_iload_n hx hb dX6_drop_37 rfl (lv_at hl 1 rfl) ?_
          refine dk_ild (k := 342) hx hb hK (dk_at342 hW) (dkN_in (n := 8) d11 rfl) dX6_drop_38 ?_
          refine lv_topi (fun v17 ev17 => ?_)
          have dv17 : dkN [(0, 40)] v17 := by rw [ev17]; exact (hO 342 _)
          have xv17 : v17 = I0 342 (Int32.toNatClampNeg p0) := ev17.trans ((by rw [eI16, dkU_n (by decide)] : I16 342 (Int32.toNatClampNeg p0) = _).trans rfl)
          refine dk_Vi (As := [.int v17]) (rest := []) ⟨hx, hb, hml, hown, hts⟩ (fx_X6_well_1 l g z I16 v17 hO) (cwV 1 hts gX6_drop_X6_well rfl rfl rfl (by decide +kernel) ⟨Nat.le_of_ble_eq_true rfl, Nat.le_of_ble_eq_true rfl⟩) (dk_at340 hW) rfl hK hT hW hS rfl hl.1 rfl (Nat.le_of_ble_eq_true rfl) dX6_drop_39 ⟨Nat.zero_le _, Nat.zero_le _⟩ (fun v18 I18 H18 L18 hp18 hW hS => ?_)
          obtain ⟨hF18, hO, hc18⟩ := hp18
          have hF := dkF_call hF hF18 rfl
          obtain ⟨_, f18_340_4, xr18, xh18_0, -⟩ := hc18
          have y19 : I18 340 4 = 0 := by have h := xh18_0; exact h
          have xv18 : v18 = (I0 342 (Int32.toNatClampNeg p0)) := by have h := xr18; rw [xv17] at h; exact h
          exact W.iret (v := v18) hx hb hr (fun t ht hW9 => ⟨⟨v18, I18, rfl, ⟨hF, hO, Or.inr (Or.inr (Or.inl ⟨trivial, dkN_sub d11 rfl, (show dkN [(0, 0)] (I18 340 4) from dkN_sub f18_340_4 rfl), q9, q10, q14, xv18, y19, ((funext fun j => hF18 341 j (dkNin_k rfl dkNin_nil)).trans (by rw [eI16, dkU_s, show (I0 341) = I0 341 from rfl])), ((funext fun j => hF18 342 j (dkNin_k rfl dkNin_nil)).trans ((by rw [eI16, dkU_n (by decide)] : I16 342 = _).trans rfl)), trivial⟩))⟩, dkW_eq ht hW⟩, hS.F ht⟩) hS.2.2 dX6_drop_42
        ·
          exact absurd ((xv13).trans (rfl).symm) c15
      ·
        obtain ⟨dv13, x13_0, xr13, -⟩ := hc13
        have q20 : (I0 341 (Int32.toNatClampNeg p0)).toInt = (-1000000 : Int) := x13_0
        have xv13 : v13 = 1 := by have h := xr13; exact h
        refine lv_if_eq (tgt := 24) hx hb dX6_drop_15 (by decide) (fun c21 => ?_) (fun c21 => ?_)
        ·
          exact (dkN_nil (show dkN [] v13 from dkN_eq1 dv13 (dkN_lit (x := 0) (0) rfl) (congrArg Int32.toInt c21) rfl)).elim
        ·
          refine lv_aload_n hx hb dX6_drop_18 rfl (lv_at hl 0 rfl) ?_
          refine lv_iconst (v := 1) hx hb dX6_drop_19 (by decide) ?_
          refine dk_Vi (As := [.int 1]) (rest := []) ⟨hx, hb, hml, hown, hts⟩ (fx_X6_found_6 l g z I0 1 (dkN_lit (x := 1) (1) rfl) hO) (cwV 1 hts gX6_drop_X6_found rfl rfl rfl (by decide +kernel) ⟨Nat.le_of_ble_eq_true rfl, Nat.le_of_ble_eq_true rfl⟩) (dk_at340 hW) rfl hK hT hW hS rfl hl.1 rfl (Nat.le_of_ble_eq_true rfl) dX6_drop_20 ⟨Nat.zero_le _, Nat.zero_le _⟩ (fun v22 I22 H22 L22 hp22 hW hS => ?_)
          obtain ⟨hF22, hO, hc22⟩ := hp22
          have hF := dkF_call hF hF22 rfl
          obtain ⟨dv22, f22_340_4, x22_0, xr22, xh22_0, -⟩ := hc22
          have q23 : ((-1000010 : Int32) - (1 : Int32)).toInt = (-1000010 : Int) - (1 : Int) := x22_0
          have y24 : I22 340 4 = 1 := by have h := xh22_0; exact h
          have xv22 : v22 = (-1000010 : Int32) - (1 : Int32) := by have h := xr22; exact h
          exact W.iret (v := v22) hx hb hr (fun t ht hW9 => ⟨⟨v22, I22, rfl, ⟨hF, hO, Or.inr (Or.inr (Or.inr (⟨dkN_sub dv22 rfl, dkN_sub d11 rfl, (show dkN [(1, 1)] (I22 340 4) from dkN_sub f22_340_4 rfl), q9, q10, q20, q23, xv22, y24, ((funext fun j => hF22 341 j (dkNin_k rfl dkNin_nil)).trans rfl), ((funext fun j => hF22 342 j (dkNin_k rfl dkNin_nil)).trans rfl), trivial⟩)))⟩, dkW_eq ht hW⟩, hS.F ht⟩) hS.2.2 dX6_drop_23
    ·
      exact (dkN_nil (show dkN [] v1 from dkN_eq1 dv1 (dkN_lit (x := 0) (0) rfl) (congrArg Int32.toInt c12) rfl)).elim
set_option maxHeartbeats 4000000 in
set_option maxRecDepth 100000 in
theorem fx_X5_found_7 (l : Launch) (g : dkG) (z : Nat) (I0 : dkI) (p0 : Int32) (dp0 : dkN [(2, 2)] p0)  (hO : dkOk I0) : Met l yX5_found wsX5_found (dkR 0) (dkPc g z [.ref (z + 0), .int p0] I0) (dkQi g z (fun r I1 => dkF [(0, 0, 3, 3)] I0 I1 ∧ dkOk I1 ∧ ((dkN [(-1000012, -1000012)] r ∧ dkN [(2, 2)] (I1 0 3) ∧ ((-1000010 : Int32) - p0).toInt = (-1000010 : Int) - p0.toInt ∧ r = (-1000010 : Int32) - p0 ∧ I1 0 3 = p0 ∧ True)))) 0 0 (dkA z) := by
  refine Met.ofW (cc := cX5_found) (maxL := 2) (ret := (some .int)) (by decide) rfl ?_
  intro p e s m args below meth c s₁ B hml hv
  obtain ⟨ha, hW, hK, hT⟩ := hv
  have hx := B.exec
  have hb := B.bytes
  have hr := B.returns
  have hts := atoms_spec (ws := wsX5_found) B.pre
  have hown : s.vm.findClass RX5 = some m.cls := findClass_of_methodNamed B.named
  have hlocks := B.notSynchronized
  have hS : va_S (dkA z) s.heap s.heap [] := va_S.rf
  have hF : dkF [(0, 0, 3, 3)] I0 I0 := dkF_rf _ _
  have hl := lv_entry ([.ref (z + 0), .int p0]) (n := 2) (Nat.le_of_ble_eq_true rfl)
  have hgo : entryFrame m args 2 = entryFrame m ([.ref (z + 0), .int p0] : List Value).toArray 2 := by rw [ha]
  rw [hgo, lg_entry_eq]
  generalize (lg_sl ([.ref (z + 0), .int p0]) ++ List.replicate (2 - (lg_sl ([.ref (z + 0), .int p0])).length) Slot.unset).toArray = ls at hl ⊢
  have hl : lv_has ls 2 [(0, .ref (z + 0)), (1, .int p0)] := hl
  refine lv_aload_n hx hb dX5_found_0 rfl (lv_at hl 0 rfl) ?_
  refine lv_iload_n hx hb dX5_found_1 rfl (lv_at hl 1 rfl) ?_
  refine dk_put (k := 0) hx hb hts iX5_found_5 tyX5 tyX5_ok nmX5 hown hK hW (dk_at0 hW) hS rfl 3 (by decide) (hts (.fieldLink RX5 292 "DogKings" "finding" "I") (List.mem_of_getElem? (i := 1) rfl)) rfl rfl (Nat.le_of_ble_eq_true rfl) rfl dX5_found_2 (fun I1 H1 L1 eI1 hW hS => ?_)
  have eI1 : I1 = dkU I0 0 3 p0 := eI1
  have hO := dkO_set hO eI1 (dkN_sub dp0 rfl)
  have hF := dkF_set hF eI1 rfl
  refine lv_ldcw (v := (-1000010)) hx hb hown (hts (.constant RX5 295 (-1000010)) (List.mem_of_getElem? (i := 2) rfl)) dX5_found_5 ?_
  refine lv_iload_n hx hb dX5_found_8 rfl (lv_at hl 1 rfl) ?_
  refine lv_isub hx hb dX5_found_9 ?_
  refine lv_topi (fun v2 ev2 => ?_)
  have dv2 : dkN [(-1000012, -1000012)] v2 := by rw [ev2]; exact dkN_subt (dkN_lit (x := (-1000010)) (-1000010) rfl) dp0 rfl
  have xv2 : v2 = (-1000010 : Int32) - p0 := by rw [ev2]
  have q3 : ((-1000010 : Int32) - p0).toInt = (-1000010 : Int) - p0.toInt := by first | (rw [← xv2]; exact (by rw [ev2]; exact dk_subE (dkN_lit (x := (-1000010)) (-1000010) rfl) dp0 rfl)) | (subst xv2; exact (by rw [ev2]; exact dk_subE (dkN_lit (x := (-1000010)) (-1000010) rfl) dp0 rfl))
  exact W.iret (v := v2) hx hb hr (fun t ht hW9 => ⟨⟨v2, I1, rfl, ⟨hF, hO, ⟨dkN_sub dv2 rfl, (show dkN [(2, 2)] (I1 0 3) from dkN_sub (by rw [eI1, dkU_ss]; exact dp0) rfl), q3, xv2, (by rw [eI1, dkU_ss]), trivial⟩⟩, dkW_eq ht hW⟩, hS.F ht⟩) hS.2.2 dX5_found_10
set_option maxHeartbeats 4000000 in
set_option maxRecDepth 100000 in
theorem fx_X5_cutTo_1 (l : Launch) (g : dkG) (z : Nat) (I0 : dkI) (p0 : Int32) (p1 : Int32) (dp0 : dkN [(0, 2)] p0)  (hO : dkOk I0) : Met l yX5_cutTo wsX5_cutTo (dkR 0) (dkPc g z [.int p0, .int p1] I0) (dkQi g z (fun r I1 => dkF [] I0 I1 ∧ dkOk I1 ∧ ((True ∧ dkN [(0, 0)] p0 ∧ p0.toInt = (0 : Int) ∧ r = p1.toInt8.toInt32 ∧ True) ∨ (True ∧ dkN [(1, 1)] p0 ∧ p0.toInt ≠ (0 : Int) ∧ p0.toInt = (1 : Int) ∧ r = p1.toInt16.toInt32 ∧ True) ∨ (True ∧ dkN [(2, 2)] p0 ∧ p0.toInt ≠ (0 : Int) ∧ p0.toInt ≠ (1 : Int) ∧ r = p1 ∧ True)))) 0 0 (dkA z) := by
  refine Met.ofW (cc := cX5_cutTo) (maxL := 2) (ret := (some .int)) (by decide) rfl ?_
  intro p e s m args below meth c s₁ B hml hv
  obtain ⟨ha, hW, hK, hT⟩ := hv
  have hx := B.exec
  have hb := B.bytes
  have hr := B.returns
  have hts := atoms_spec (ws := wsX5_cutTo) B.pre
  have hown : s.vm.findClass RX5 = some m.cls := findClass_of_methodNamed B.named
  have hlocks := B.notSynchronized
  have hS : va_S (dkA z) s.heap s.heap [] := va_S.rf
  have hF : dkF [] I0 I0 := dkF_rf _ _
  have hl := lv_entry ([.int p0, .int p1]) (n := 2) (Nat.le_of_ble_eq_true rfl)
  have hgo : entryFrame m args 2 = entryFrame m ([.int p0, .int p1] : List Value).toArray 2 := by rw [ha]
  rw [hgo, lg_entry_eq]
  generalize (lg_sl ([.int p0, .int p1]) ++ List.replicate (2 - (lg_sl ([.int p0, .int p1])).length) Slot.unset).toArray = ls at hl ⊢
  have hl : lv_has ls 2 [(0, .int p0), (1, .int p1)] := hl
  refine lv_iload_n hx hb dX5_cutTo_0 rfl (lv_at hl 0 rfl) ?_
  by_cases c1 : p0 = 0
  ·
    have qc1 : p0.toInt = 0 := by rw [c1]; rfl
    have q3 : p0.toInt = (0 : Int) := qc1
    have d2 : dkN [(0, 0)] p0 := dkN_lit (0) qc1
    refine lv_lookup (off := 27) (tgt := 28) hx hb dX5_cutTo_1 (by decide) (by rw [qc1]; rfl) (by decide) ?_
    refine lv_iload_n hx hb dX5_cutTo_28 rfl (lv_at hl 1 rfl) ?_
    refine lv_i2b hx hb dX5_cutTo_29 rfl ?_
    refine lv_topi (fun v4 ev4 => ?_)
    have xv4 : v4 = p1.toInt8.toInt32 := by rw [ev4]
    exact W.iret (v := v4) hx hb hr (fun t ht hW9 => ⟨⟨v4, I0, rfl, ⟨hF, hO, Or.inl ⟨trivial, dkN_sub d2 rfl, q3, xv4, trivial⟩⟩, dkW_eq ht hW⟩, hS.F ht⟩) hS.2.2 dX5_cutTo_30
  ·
    have q5 : p0.toInt ≠ (0 : Int) := (dk_ne c1)
    have d6 : dkN [(1, 2)] p0 := dkN_ne1 (0) dp0 (dkN_lit (x := 0) (0) rfl) (dk_ne c1) rfl
    by_cases c7 : p0 = 1
    ·
      have qc7 : p0.toInt = 1 := by rw [c7]; rfl
      have q9 : p0.toInt = (1 : Int) := qc7
      have d8 : dkN [(1, 1)] p0 := dkN_lit (1) qc7
      refine lv_lookup (off := 30) (tgt := 31) hx hb dX5_cutTo_1 (by decide) (by rw [qc7]; rfl) (by decide) ?_
      refine lv_iload_n hx hb dX5_cutTo_31 rfl (lv_at hl 1 rfl) ?_
      refine lv_i2s hx hb dX5_cutTo_32 rfl ?_
      refine lv_topi (fun v10 ev10 => ?_)
      have xv10 : v10 = p1.toInt16.toInt32 := by rw [ev10]
      exact W.iret (v := v10) hx hb hr (fun t ht hW9 => ⟨⟨v10, I0, rfl, ⟨hF, hO, Or.inr (Or.inl ⟨trivial, dkN_sub d8 rfl, q5, q9, xv10, trivial⟩)⟩, dkW_eq ht hW⟩, hS.F ht⟩) hS.2.2 dX5_cutTo_33
    ·
      have q11 : p0.toInt ≠ (1 : Int) := (dk_ne c7)
      have d12 : dkN [(2, 2)] p0 := dkN_ne1 (1) d6 (dkN_lit (x := 1) (1) rfl) (dk_ne c7) rfl
      refine lv_lookup (off := 33) (tgt := 34) hx hb dX5_cutTo_1 (by decide) (by exact (lv_osw c1 rfl).trans ((lv_osw c7 rfl).trans (rfl))) (by decide) ?_
      refine lv_iload_n hx hb dX5_cutTo_34 rfl (lv_at hl 1 rfl) ?_
      exact W.iret (v := p1) hx hb hr (fun t ht hW9 => ⟨⟨p1, I0, rfl, ⟨hF, hO, Or.inr (Or.inr (⟨trivial, dkN_sub d12 rfl, q5, q11, rfl, trivial⟩))⟩, dkW_eq ht hW⟩, hS.F ht⟩) hS.2.2 dX5_cutTo_35
set_option maxHeartbeats 4000000 in
set_option maxRecDepth 100000 in
theorem fx_X5_set_1 (l : Launch) (g : dkG) (z : Nat) (I0 : dkI) (p0 : Int32) (p1 : Int32) (p2 : Int32)  (hO : dkOk I0) : Met l yX5_set wsX5_set (dkR 2) (dkPc g z [.ref (z + 0), .int p0, .int p1, .int p2] I0) (dkQi g z (fun r I1 => dkF [(2, 9, 0, 2147483647), (0, 0, 3, 3)] I0 I1 ∧ dkOk I1 ∧ ((dkN [(-1000001, -1000001)] r ∧ dkN [(-2147483648, -1)] p0 ∧ p0.toInt + 1 ≤ (0 : Int) ∧ r = (-1000001) ∧ I1 0 3 = I0 0 3 ∧ True) ∨ (dkN [(-1000001, -1000001)] r ∧ dkN [(8, 2147483647)] p0 ∧ (0 : Int) + 0 ≤ p0.toInt ∧ (7 : Int) + 1 ≤ p0.toInt ∧ r = (-1000001) ∧ I1 0 3 = I0 0 3 ∧ True) ∨ (dkN [(-1000012, -1000012)] r ∧ dkN [(0, 7)] p0 ∧ dkN [(-2147483648, -1)] p1 ∧ dkN [(2, 2)] (I1 0 3) ∧ (0 : Int) + 0 ≤ p0.toInt ∧ p0.toInt + 0 ≤ (7 : Int) ∧ (I0 11 (Int32.toNatClampNeg p0)).toInt ≠ (-1 : Int) ∧ p1.toInt + 1 ≤ (0 : Int) ∧ ((-1000010 : Int32) - (2 : Int32)).toInt = (-1000010 : Int) - (2 : Int) ∧ r = (-1000010 : Int32) - (2 : Int32) ∧ I1 0 3 = 2 ∧ True) ∨ (True ∧ dkN [(0, 7)] p0 ∧ dkN [(0, 39)] p1 ∧ dkN [(0, 0)] (I1 0 3) ∧ (0 : Int) + 0 ≤ p0.toInt ∧ p0.toInt + 0 ≤ (7 : Int) ∧ (I0 11 (Int32.toNatClampNeg p0)).toInt ≠ (-1 : Int) ∧ (0 : Int) + 0 ≤ p1.toInt ∧ p1.toInt + 1 ≤ (I0 11 (Int32.toNatClampNeg p0)).toInt ∧ (I0 10 (Int32.toNatClampNeg p0)).toInt = (0 : Int) ∧ r = p2.toInt8.toInt32 ∧ I1 0 3 = 0 ∧ True) ∨ (True ∧ dkN [(0, 7)] p0 ∧ dkN [(0, 39)] p1 ∧ dkN [(0, 0)] (I1 0 3) ∧ (0 : Int) + 0 ≤ p0.toInt ∧ p0.toInt + 0 ≤ (7 : Int) ∧ (I0 11 (Int32.toNatClampNeg p0)).toInt ≠ (-1 : Int) ∧ (0 : Int) + 0 ≤ p1.toInt ∧ p1.toInt + 1 ≤ (I0 11 (Int32.toNatClampNeg p0)).toInt ∧ (I0 10 (Int32.toNatClampNeg p0)).toInt ≠ (0 : Int) ∧ (I0 10 (Int32.toNatClampNeg p0)).toInt = (1 : Int) ∧ r = p2.toInt16.toInt32 ∧ I1 0 3 = 0 ∧ True) ∨ (True ∧ dkN [(0, 7)] p0 ∧ dkN [(0, 39)] p1 ∧ dkN [(0, 0)] (I1 0 3) ∧ (0 : Int) + 0 ≤ p0.toInt ∧ p0.toInt + 0 ≤ (7 : Int) ∧ (I0 11 (Int32.toNatClampNeg p0)).toInt ≠ (-1 : Int) ∧ (0 : Int) + 0 ≤ p1.toInt ∧ p1.toInt + 1 ≤ (I0 11 (Int32.toNatClampNeg p0)).toInt ∧ (I0 10 (Int32.toNatClampNeg p0)).toInt ≠ (0 : Int) ∧ (I0 10 (Int32.toNatClampNeg p0)).toInt ≠ (1 : Int) ∧ r = p2 ∧ I1 0 3 = 0 ∧ True) ∨ (dkN [(-1000012, -1000012)] r ∧ dkN [(0, 7)] p0 ∧ dkN [(0, 2147483647)] p1 ∧ dkN [(2, 2)] (I1 0 3) ∧ (0 : Int) + 0 ≤ p0.toInt ∧ p0.toInt + 0 ≤ (7 : Int) ∧ (I0 11 (Int32.toNatClampNeg p0)).toInt ≠ (-1 : Int) ∧ (0 : Int) + 0 ≤ p1.toInt ∧ (I0 11 (Int32.toNatClampNeg p0)).toInt + 0 ≤ p1.toInt ∧ ((-1000010 : Int32) - (2 : Int32)).toInt = (-1000010 : Int) - (2 : Int) ∧ r = (-1000010 : Int32) - (2 : Int32) ∧ I1 0 3 = 2 ∧ True) ∨ (dkN [(-1000011, -1000011)] r ∧ dkN [(0, 7)] p0 ∧ dkN [(1, 1)] (I1 0 3) ∧ (0 : Int) + 0 ≤ p0.toInt ∧ p0.toInt + 0 ≤ (7 : Int) ∧ (I0 11 (Int32.toNatClampNeg p0)).toInt = (-1 : Int) ∧ ((-1000010 : Int32) - (1 : Int32)).toInt = (-1000010 : Int) - (1 : Int) ∧ r = (-1000010 : Int32) - (1 : Int32) ∧ I1 0 3 = 1 ∧ True)))) 0 0 (dkA z) := by
  refine Met.ofW (cc := cX5_set) (maxL := 4) (ret := (some .int)) (by decide) rfl ?_
  intro p e s m args below meth c s₁ B hml hv
  obtain ⟨ha, hW, hK, hT⟩ := hv
  have hx := B.exec
  have hb := B.bytes
  have hr := B.returns
  have hts := atoms_spec (ws := wsX5_set) B.pre
  have hown : s.vm.findClass RX5 = some m.cls := findClass_of_methodNamed B.named
  have hlocks := B.notSynchronized
  have hS : va_S (dkA z) s.heap s.heap [] := va_S.rf
  have hF : dkF [(2, 9, 0, 2147483647), (0, 0, 3, 3)] I0 I0 := dkF_rf _ _
  have hl := lv_entry ([.ref (z + 0), .int p0, .int p1, .int p2]) (n := 4) (Nat.le_of_ble_eq_true rfl)
  have hgo : entryFrame m args 4 = entryFrame m ([.ref (z + 0), .int p0, .int p1, .int p2] : List Value).toArray 4 := by rw [ha]
  rw [hgo, lg_entry_eq]
  generalize (lg_sl ([.ref (z + 0), .int p0, .int p1, .int p2]) ++ List.replicate (4 - (lg_sl ([.ref (z + 0), .int p0, .int p1, .int p2])).length) Slot.unset).toArray = ls at hl ⊢
  have hl : lv_has ls 4 [(0, .ref (z + 0)), (1, .int p0), (2, .int p1), (3, .int p2)] := hl
  refine lv_iload_n hx hb dX5_set_0 rfl (lv_at hl 1 rfl) ?_
  refine dk_Si (As := [.int p0]) (rest := []) ⟨hx, hb, hml, hown, hts⟩ (fx_X5_isRow_1 l g z I0 p0 hO) (va_cwS 1 hts gX5_set_X5_isRow rfl rfl rfl (by decide +kernel) ⟨Nat.le_of_ble_eq_true rfl, Nat.le_of_ble_eq_true rfl⟩) hK hT hW hS rfl hl.1 rfl (Nat.le_of_ble_eq_true rfl) dX5_set_1 ⟨Nat.zero_le _, Nat.zero_le _⟩ (fun v1 I1 H1 L1 hp1 hW hS => ?_)
  obtain ⟨hF1, hO, hc1⟩ := hp1
  have hF := dkF_call hF hF1 rfl
  have eI1 : I0 = I1 := (dkF_nil hF1).symm
  subst eI1
  rcases hc1 with ⟨dv1, a1_0, x1_0, xr1, -⟩ | hc1
  ·
    have q2 : p0.toInt + 1 ≤ (0 : Int) := x1_0
    have xv1 : v1 = 0 := by have h := xr1; exact h
    have d3 : dkN [(-2147483648, -1)] p0 := dkN_eq1 (dkN_top p0) a1_0 rfl rfl
    refine lv_if_ne (tgt := 10) hx hb dX5_set_4 (by decide) (fun c4 => ?_) (fun c4 => ?_)
    ·
      exact absurd ((xv1).trans (rfl).symm) c4
    ·
      refine lv_ldc (v := (-1000001)) hx hb hown (hts (.constant RX5 70 (-1000001)) (List.mem_of_getElem? (i := 1) rfl)) dX5_set_7 ?_
      exact W.iret (v := (-1000001)) hx hb hr (fun t ht hW9 => ⟨⟨(-1000001), I0, rfl, ⟨hF, hO, Or.inl ⟨dkN_sub (dkN_lit (x := (-1000001)) (-1000001) rfl) rfl, dkN_sub d3 rfl, q2, rfl, rfl, trivial⟩⟩, dkW_eq ht hW⟩, hS.F ht⟩) hS.2.2 dX5_set_9
  rcases hc1 with ⟨dv1, a1_0, x1_0, x1_1, xr1, -⟩ | hc1
  ·
    have q5 : (0 : Int) + 0 ≤ p0.toInt := x1_0
    have q6 : (7 : Int) + 1 ≤ p0.toInt := x1_1
    have xv1 : v1 = 0 := by have h := xr1; exact h
    have d7 : dkN [(8, 2147483647)] p0 := dkN_eq1 (dkN_top p0) a1_0 rfl rfl
    refine lv_if_ne (tgt := 10) hx hb dX5_set_4 (by decide) (fun c8 => ?_) (fun c8 => ?_)
    ·
      exact absurd ((xv1).trans (rfl).symm) c8
    ·
      refine lv_ldc (v := (-1000001)) hx hb hown (hts (.constant RX5 70 (-1000001)) (List.mem_of_getElem? (i := 1) rfl)) dX5_set_7 ?_
      exact W.iret (v := (-1000001)) hx hb hr (fun t ht hW9 => ⟨⟨(-1000001), I0, rfl, ⟨hF, hO, Or.inr (Or.inl ⟨dkN_sub (dkN_lit (x := (-1000001)) (-1000001) rfl) rfl, dkN_sub d7 rfl, q5, q6, rfl, rfl, trivial⟩)⟩, dkW_eq ht hW⟩, hS.F ht⟩) hS.2.2 dX5_set_9
  ·
    obtain ⟨dv1, a1_0, x1_0, x1_1, xr1, -⟩ := hc1
    have q9 : (0 : Int) + 0 ≤ p0.toInt := x1_0
    have q10 : p0.toInt + 0 ≤ (7 : Int) := x1_1
    have xv1 : v1 = 1 := by have h := xr1; exact h
    have d11 : dkN [(0, 7)] p0 := dkN_eq1 (dkN_top p0) a1_0 rfl rfl
    refine lv_if_ne (tgt := 10) hx hb dX5_set_4 (by decide) (fun c12 => ?_) (fun c12 => ?_)
    ·
      refine lv_aload_n hx hb dX5_set_10 rfl (lv_at hl 0 rfl) ?_
      refine lv_iload_n hx hb dX5_set_11 rfl (lv_at hl 1 rfl) ?_
      refine dk_Vi (As := [.int p0]) (rest := []) ⟨hx, hb, hml, hown, hts⟩ (fx_X5_isMissing_1 l g z I0 p0 d11 hO) (cwV 1 hts gX5_set_X5_isMissing rfl rfl rfl (by decide +kernel) ⟨Nat.le_of_ble_eq_true rfl, Nat.le_of_ble_eq_true rfl⟩) (dk_at0 hW) rfl hK hT hW hS rfl hl.1 rfl (Nat.le_of_ble_eq_true rfl) dX5_set_12 ⟨Nat.zero_le _, Nat.zero_le _⟩ (fun v13 I13 H13 L13 hp13 hW hS => ?_)
      obtain ⟨hF13, hO, hc13⟩ := hp13
      have hF := dkF_call hF hF13 rfl
      have eI13 : I0 = I13 := (dkF_nil hF13).symm
      subst eI13
      rcases hc13 with ⟨dv13, x13_0, xr13, -⟩ | hc13
      ·
        have q14 : (I0 11 (Int32.toNatClampNeg p0)).toInt ≠ (-1 : Int) := x13_0
        have xv13 : v13 = 0 := by have h := xr13; exact h
        refine lv_if_eq (tgt := 24) hx hb dX5_set_15 (by decide) (fun c15 => ?_) (fun c15 => ?_)
        ·
          refine lv_iload_n hx hb dX5_set_24 rfl (lv_at hl 2 rfl) ?_
          refine lv_if_lt (tgt := 38) hx hb dX5_set_25 (by decide) (fun c16 => ?_) (fun c16 => ?_)
          ·
            have q17 : p1.toInt + 1 ≤ (0 : Int) := (dkc_lt c16)
            have d18 : dkN [(-2147483648, -1)] p1 := dkN_le1 1 (dkN_top p1) (dkN_lit (x := 0) (0) rfl) (dkc_lt c16) rfl
            refine lv_aload_n hx hb dX5_set_38 rfl (lv_at hl 0 rfl) ?_
            refine lv_iconst (v := 2) hx hb dX5_set_39 (by decide) ?_
            refine dk_Vi (As := [.int 2]) (rest := []) ⟨hx, hb, hml, hown, hts⟩ (fx_X5_found_7 l g z I0 2 (dkN_lit (x := 2) (2) rfl) hO) (cwV 1 hts gX5_set_X5_found rfl rfl rfl (by decide +kernel) ⟨Nat.le_of_ble_eq_true rfl, Nat.le_of_ble_eq_true rfl⟩) (dk_at0 hW) rfl hK hT hW hS rfl hl.1 rfl (Nat.le_of_ble_eq_true rfl) dX5_set_40 ⟨Nat.zero_le _, Nat.zero_le _⟩ (fun v19 I19 H19 L19 hp19 hW hS => ?_)
            obtain ⟨hF19, hO, hc19⟩ := hp19
            have hF := dkF_call hF hF19 rfl
            obtain ⟨dv19, f19_0_3, x19_0, xr19, xh19_0, -⟩ := hc19
            have q20 : ((-1000010 : Int32) - (2 : Int32)).toInt = (-1000010 : Int) - (2 : Int) := x19_0
            have y21 : I19 0 3 = 2 := by have h := xh19_0; exact h
            have xv19 : v19 = (-1000010 : Int32) - (2 : Int32) := by have h := xr19; exact h
            exact W.iret (v := v19) hx hb hr (fun t ht hW9 => ⟨⟨v19, I19, rfl, ⟨hF, hO, Or.inr (Or.inr (Or.inl ⟨dkN_sub dv19 rfl, dkN_sub d11 rfl, dkN_sub d18 rfl, (show dkN [(2, 2)] (I19 0 3) from dkN_sub f19_0_3 rfl), q9, q10, q14, q17, q20, xv19, y21, trivial⟩))⟩, dkW_eq ht hW⟩, hS.F ht⟩) hS.2.2 dX5_set_43
          ·
            have q22 : (0 : Int) + 0 ≤ p1.toInt := (dkc_nlt c16)
            have d23 : dkN [(0, 2147483647)] p1 := dkN_le2 0 (dkN_lit (x := 0) (0) rfl) (dkN_top p1) (dkc_nlt c16) rfl
            refine lv_iload_n hx hb dX5_set_28 rfl (lv_at hl 2 rfl) ?_
            refine lv_aload_n hx hb dX5_set_29 rfl (lv_at hl 0 rfl) ?_
            refine dk_get (k := 0) hx hb hts iX5_set_5 hown hK (dk_at0 hW) rfl 2 (by decide) (hts (.fieldLink RX5 18 "DogKings" "sizes" "[I") (List.mem_of_getElem? (i := 2) rfl)) rfl dX5_set_30 ?_
            refine lv_iload_n hx hb dX5_set_33 rfl (lv_at hl 1 rfl) ?_
            refine dk_ild (k := 11) hx hb hK (dk_at11 hW) (dkN_in (n := 8) d11 rfl) dX5_set_34 ?_
            refine lv_topi (fun v24 ev24 => ?_)
            have dv24 : dkN [(-1, 40)] v24 := by rw [ev24]; exact (hO 11 _)
            have xv24 : v24 = I0 11 (Int32.toNatClampNeg p0) := ev24.trans rfl
            refine lv_icmp_lt (tgt := 44) hx hb dX5_set_35 (by decide) (fun c25 => ?_) (fun c25 => ?_)
            ·
              have q26 : p1.toInt + 1 ≤ (I0 11 (Int32.toNatClampNeg p0)).toInt := by first | (rw [← xv24]; exact (dkc_lt c25)) | (subst xv24; exact (dkc_lt c25))
              have d27 : dkN [(0, 39)] p1 := dkN_le1 1 d23 dv24 (dkc_lt c25) rfl
              have d28 : dkN [(1, 40)] v24 := dkN_le2 1 d23 dv24 (dkc_lt c25) rfl
              refine lv_aload_n hx hb dX5_set_44 rfl (lv_at hl 0 rfl) ?_
              refine dk_get (k := 0) hx hb hts iX5_set_5 hown hK (dk_at0 hW) rfl 0 (by decide) (hts (.fieldLink RX5 11 "DogKings" "items" "[[I") (List.mem_of_getElem? (i := 3) rfl)) rfl dX5_set_45 ?_
              refine lv_iload_n hx hb dX5_set_48 rfl (lv_at hl 1 rfl) ?_
              obtain ⟨rf29, hrf29, erf29⟩ := dk_rowAt (z := z) (dkN_in (n := 8) d11 rfl)
              refine dk_rld (r := z + rf29) hx hb hK (dk_at1 hW) (dkN_in (n := 8) d11 rfl) erf29 dX5_set_49 ?_
              refine lv_iload_n hx hb dX5_set_50 rfl (lv_at hl 2 rfl) ?_
              refine lv_aload_n hx hb dX5_set_51 rfl (lv_at hl 0 rfl) ?_
              refine dk_get (k := 0) hx hb hts iX5_set_5 hown hK (dk_at0 hW) rfl 1 (by decide) (hts (.fieldLink RX5 14 "DogKings" "lanes" "[I") (List.mem_of_getElem? (i := 4) rfl)) rfl dX5_set_52 ?_
              refine lv_iload_n hx hb dX5_set_55 rfl (lv_at hl 1 rfl) ?_
              refine dk_ild (k := 10) hx hb hK (dk_at10 hW) (dkN_in (n := 8) d11 rfl) dX5_set_56 ?_
              refine lv_topi (fun v30 ev30 => ?_)
              have dv30 : dkN [(0, 2)] v30 := by rw [ev30]; exact (hO 10 _)
              have xv30 : v30 = I0 10 (Int32.toNatClampNeg p0) := ev30.trans rfl
              refine lv_iload_n hx hb dX5_set_57 rfl (lv_at hl 3 rfl) ?_
              refine dk_Si (As := [.int v30, .int p2]) (rest := [.int p1, .ref (z + rf29)]) ⟨hx, hb, hml, hown, hts⟩ (fx_X5_cutTo_1 l g z I0 v30 p2 dv30 hO) (va_cwS 2 hts gX5_set_X5_cutTo rfl rfl rfl (by decide +kernel) ⟨Nat.le_of_ble_eq_true rfl, Nat.le_of_ble_eq_true rfl⟩) hK hT hW hS rfl hl.1 rfl (Nat.le_of_ble_eq_true rfl) dX5_set_58 ⟨Nat.zero_le _, Nat.zero_le _⟩ (fun v31 I31 H31 L31 hp31 hW hS => ?_)
              obtain ⟨hF31, hO, hc31⟩ := hp31
              have hF := dkF_call hF hF31 rfl
              have eI31 : I0 = I31 := (dkF_nil hF31).symm
              subst eI31
              rcases hc31 with ⟨_, a31_0, x31_0, xr31, -⟩ | hc31
              ·
                have q32 : (I0 10 (Int32.toNatClampNeg p0)).toInt = (0 : Int) := by have h := x31_0; rw [xv30] at h; exact h
                have xv31 : v31 = p2.toInt8.toInt32 := by have h := xr31; exact h
                have d33 : dkN [(0, 0)] v30 := dkN_eq1 dv30 a31_0 rfl rfl
                refine dk_ist (k := rf29) hx hb hK hW (dkC_R g z hrf29) (by omega) hS (dkN_in (n := 40) d27 rfl) dX5_set_61 (fun I34 H34 L34 eI34 hW hS => ?_)
                have hO := dkO_setR hO hrf29 eI34
                have hF := dkF_set hF eI34 (dkIn_R hrf29 (dk_clt _) rfl)
                refine lv_aload_n hx hb dX5_set_62 rfl (lv_at hl 0 rfl) ?_
                refine lv_aload_n hx hb dX5_set_63 rfl (lv_at hl 0 rfl) ?_
                refine dk_get (k := 0) hx hb hts iX5_set_5 hown hK (dk_at0 hW) rfl 0 (by decide) (hts (.fieldLink RX5 11 "DogKings" "items" "[[I") (List.mem_of_getElem? (i := 3) rfl)) rfl dX5_set_64 ?_
                refine lv_iload_n hx hb dX5_set_67 rfl (lv_at hl 1 rfl) ?_
                refine dk_rld (r := z + rf29) hx hb hK (dk_at1 hW) (dkN_in (n := 8) d11 rfl) erf29 dX5_set_68 ?_
                refine lv_iload_n hx hb dX5_set_69 rfl (lv_at hl 2 rfl) ?_
                refine dk_ild (k := rf29) hx hb hK (dk_aR hrf29 hW) (dkN_in (n := 40) d27 rfl) dX5_set_70 ?_
                refine lv_topi (fun v35 ev35 => ?_)
                have xv35 : v35 = p2.toInt8.toInt32 := ev35.trans (by rw [eI34, dkU_ss, xv31])
                refine dk_Vi (As := [.int v35]) (rest := []) ⟨hx, hb, hml, hown, hts⟩ (fx_X5_nothingFound_1 l g z I34 v35 hO) (cwV 1 hts gX5_set_X5_nothingFound rfl rfl rfl (by decide +kernel) ⟨Nat.le_of_ble_eq_true rfl, Nat.le_of_ble_eq_true rfl⟩) (dk_at0 hW) rfl hK hT hW hS rfl hl.1 rfl (Nat.le_of_ble_eq_true rfl) dX5_set_71 ⟨Nat.zero_le _, Nat.zero_le _⟩ (fun v36 I36 H36 L36 hp36 hW hS => ?_)
                obtain ⟨hF36, hO, hc36⟩ := hp36
                have hF := dkF_call hF hF36 rfl
                obtain ⟨_, f36_0_3, xr36, xh36_0, -⟩ := hc36
                have y37 : I36 0 3 = 0 := by have h := xh36_0; exact h
                have xv36 : v36 = p2.toInt8.toInt32 := by have h := xr36; rw [xv35] at h; exact h
                exact W.iret (v := v36) hx hb hr (fun t ht hW9 => ⟨⟨v36, I36, rfl, ⟨hF, hO, Or.inr (Or.inr (Or.inr (Or.inl ⟨trivial, dkN_sub d11 rfl, dkN_sub d27 rfl, (show dkN [(0, 0)] (I36 0 3) from dkN_sub f36_0_3 rfl), q9, q10, q14, q22, q26, q32, xv36, y37, trivial⟩)))⟩, dkW_eq ht hW⟩, hS.F ht⟩) hS.2.2 dX5_set_74
              rcases hc31 with ⟨_, a31_0, x31_0, x31_1, xr31, -⟩ | hc31
              ·
                have q38 : (I0 10 (Int32.toNatClampNeg p0)).toInt ≠ (0 : Int) := by have h := x31_0; rw [xv30] at h; exact h
                have q39 : (I0 10 (Int32.toNatClampNeg p0)).toInt = (1 : Int) := by have h := x31_1; rw [xv30] at h; exact h
                have xv31 : v31 = p2.toInt16.toInt32 := by have h := xr31; exact h
                have d40 : dkN [(1, 1)] v30 := dkN_eq1 dv30 a31_0 rfl rfl
                refine dk_ist (k := rf29) hx hb hK hW (dkC_R g z hrf29) (by omega) hS (dkN_in (n := 40) d27 rfl) dX5_set_61 (fun I41 H41 L41 eI41 hW hS => ?_)
                have hO := dkO_setR hO hrf29 eI41
                have hF := dkF_set hF eI41 (dkIn_R hrf29 (dk_clt _) rfl)
                refine lv_aload_n hx hb dX5_set_62 rfl (lv_at hl 0 rfl) ?_
                refine lv_aload_n hx hb dX5_set_63 rfl (lv_at hl 0 rfl) ?_
                refine dk_get (k := 0) hx hb hts iX5_set_5 hown hK (dk_at0 hW) rfl 0 (by decide) (hts (.fieldLink RX5 11 "DogKings" "items" "[[I") (List.mem_of_getElem? (i := 3) rfl)) rfl dX5_set_64 ?_
                refine lv_iload_n hx hb dX5_set_67 rfl (lv_at hl 1 rfl) ?_
                refine dk_rld (r := z + rf29) hx hb hK (dk_at1 hW) (dkN_in (n := 8) d11 rfl) erf29 dX5_set_68 ?_
                refine lv_iload_n hx hb dX5_set_69 rfl (lv_at hl 2 rfl) ?_
                refine dk_ild (k := rf29) hx hb hK (dk_aR hrf29 hW) (dkN_in (n := 40) d27 rfl) dX5_set_70 ?_
                refine lv_topi (fun v42 ev42 => ?_)
                have xv42 : v42 = p2.toInt16.toInt32 := ev42.trans (by rw [eI41, dkU_ss, xv31])
                refine dk_Vi (As := [.int v42]) (rest := []) ⟨hx, hb, hml, hown, hts⟩ (fx_X5_nothingFound_1 l g z I41 v42 hO) (cwV 1 hts gX5_set_X5_nothingFound rfl rfl rfl (by decide +kernel) ⟨Nat.le_of_ble_eq_true rfl, Nat.le_of_ble_eq_true rfl⟩) (dk_at0 hW) rfl hK hT hW hS rfl hl.1 rfl (Nat.le_of_ble_eq_true rfl) dX5_set_71 ⟨Nat.zero_le _, Nat.zero_le _⟩ (fun v43 I43 H43 L43 hp43 hW hS => ?_)
                obtain ⟨hF43, hO, hc43⟩ := hp43
                have hF := dkF_call hF hF43 rfl
                obtain ⟨_, f43_0_3, xr43, xh43_0, -⟩ := hc43
                have y44 : I43 0 3 = 0 := by have h := xh43_0; exact h
                have xv43 : v43 = p2.toInt16.toInt32 := by have h := xr43; rw [xv42] at h; exact h
                exact W.iret (v := v43) hx hb hr (fun t ht hW9 => ⟨⟨v43, I43, rfl, ⟨hF, hO, Or.inr (Or.inr (Or.inr (Or.inr (Or.inl ⟨trivial, dkN_sub d11 rfl, dkN_sub d27 rfl, (show dkN [(0, 0)] (I43 0 3) from dkN_sub f43_0_3 rfl), q9, q10, q14, q22, q26, q38, q39, xv43, y44, trivial⟩))))⟩, dkW_eq ht hW⟩, hS.F ht⟩) hS.2.2 dX5_set_74
              ·
                obtain ⟨_, a31_0, x31_0, x31_1, xr31, -⟩ := hc31
                have q45 : (I0 10 (Int32.toNatClampNeg p0)).toInt ≠ (0 : Int) := by have h := x31_0; rw [xv30] at h; exact h
                have q46 : (I0 10 (Int32.toNatClampNeg p0)).toInt ≠ (1 : Int) := by have h := x31_1; rw [xv30] at h; exact h
                have xv31 : v31 = p2 := by have h := xr31; exact h
                have d47 : dkN [(2, 2)] v30 := dkN_eq1 dv30 a31_0 rfl rfl
                refine dk_ist (k := rf29) hx hb hK hW (dkC_R g z hrf29) (by omega) hS (dkN_in (n := 40) d27 rfl) dX5_set_61 (fun I48 H48 L48 eI48 hW hS => ?_)
                have hO := dkO_setR hO hrf29 eI48
                have hF := dkF_set hF eI48 (dkIn_R hrf29 (dk_clt _) rfl)
                refine lv_aload_n hx hb dX5_set_62 rfl (lv_at hl 0 rfl) ?_
                refine lv_aload_n hx hb dX5_set_63 rfl (lv_at hl 0 rfl) ?_
                refine dk_get (k := 0) hx hb hts iX5_set_5 hown hK (dk_at0 hW) rfl 0 (by decide) (hts (.fieldLink RX5 11 "DogKings" "items" "[[I") (List.mem_of_getElem? (i := 3) rfl)) rfl dX5_set_64 ?_
                refine lv_iload_n hx hb dX5_set_67 rfl (lv_at hl 1 rfl) ?_
                refine dk_rld (r := z + rf29) hx hb hK (dk_at1 hW) (dkN_in (n := 8) d11 rfl) erf29 dX5_set_68 ?_
                refine lv_iload_n hx hb dX5_set_69 rfl (lv_at hl 2 rfl) ?_
                refine dk_ild (k := rf29) hx hb hK (dk_aR hrf29 hW) (dkN_in (n := 40) d27 rfl) dX5_set_70 ?_
                refine lv_topi (fun v49 ev49 => ?_)
                have xv49 : v49 = p2 := ev49.trans (by rw [eI48, dkU_ss, xv31])
                refine dk_Vi (As := [.int v49]) (rest := []) ⟨hx, hb, hml, hown, hts⟩ (fx_X5_nothingFound_1 l g z I48 v49 hO) (cwV 1 hts gX5_set_X5_nothingFound rfl rfl rfl (by decide +kernel) ⟨Nat.le_of_ble_eq_true rfl, Nat.le_of_ble_eq_true rfl⟩) (dk_at0 hW) rfl hK hT hW hS rfl hl.1 rfl (Nat.le_of_ble_eq_true rfl) dX5_set_71 ⟨Nat.zero_le _, Nat.zero_le _⟩ (fun v50 I50 H50 L50 hp50 hW hS => ?_)
                obtain ⟨hF50, hO, hc50⟩ := hp50
                have hF := dkF_call hF hF50 rfl
                obtain ⟨_, f50_0_3, xr50, xh50_0, -⟩ := hc50
                have y51 : I50 0 3 = 0 := by have h := xh50_0; exact h
                have xv50 : v50 = p2 := by have h := xr50; rw [xv49] at h; exact h
                exact W.iret (v := v50) hx hb hr (fun t ht hW9 => ⟨⟨v50, I50, rfl, ⟨hF, hO, Or.inr (Or.inr (Or.inr (Or.inr (Or.inr (Or.inl ⟨trivial, dkN_sub d11 rfl, dkN_sub d27 rfl, (show dkN [(0, 0)] (I50 0 3) from dkN_sub f50_0_3 rfl), q9, q10, q14, q22, q26, q45, q46, xv50, y51, trivial⟩)))))⟩, dkW_eq ht hW⟩, hS.F ht⟩) hS.2.2 dX5_set_74
            ·
              have q52 : (I0 11 (Int32.toNatClampNeg p0)).toInt + 0 ≤ p1.toInt := by first | (rw [← xv24]; exact (dkc_nlt c25)) | (subst xv24; exact (dkc_nlt c25))
              refine lv_aload_n hx hb dX5_set_38 rfl (lv_at hl 0 rfl) ?_
              refine lv_iconst (v := 2) hx hb dX5_set_39 (by decide) ?_
              refine dk_Vi (As := [.int 2]) (rest := []) ⟨hx, hb, hml, hown, hts⟩ (fx_X5_found_7 l g z I0 2 (dkN_lit (x := 2) (2) rfl) hO) (cwV 1 hts gX5_set_X5_found rfl rfl rfl (by decide +kernel) ⟨Nat.le_of_ble_eq_true rfl, Nat.le_of_ble_eq_true rfl⟩) (dk_at0 hW) rfl hK hT hW hS rfl hl.1 rfl (Nat.le_of_ble_eq_true rfl) dX5_set_40 ⟨Nat.zero_le _, Nat.zero_le _⟩ (fun v53 I53 H53 L53 hp53 hW hS => ?_)
              obtain ⟨hF53, hO, hc53⟩ := hp53
              have hF := dkF_call hF hF53 rfl
              obtain ⟨dv53, f53_0_3, x53_0, xr53, xh53_0, -⟩ := hc53
              have q54 : ((-1000010 : Int32) - (2 : Int32)).toInt = (-1000010 : Int) - (2 : Int) := x53_0
              have y55 : I53 0 3 = 2 := by have h := xh53_0; exact h
              have xv53 : v53 = (-1000010 : Int32) - (2 : Int32) := by have h := xr53; exact h
              exact W.iret (v := v53) hx hb hr (fun t ht hW9 => ⟨⟨v53, I53, rfl, ⟨hF, hO, Or.inr (Or.inr (Or.inr (Or.inr (Or.inr (Or.inr (Or.inl ⟨dkN_sub dv53 rfl, dkN_sub d11 rfl, dkN_sub d23 rfl, (show dkN [(2, 2)] (I53 0 3) from dkN_sub f53_0_3 rfl), q9, q10, q14, q22, q52, q54, xv53, y55, trivial⟩))))))⟩, dkW_eq ht hW⟩, hS.F ht⟩) hS.2.2 dX5_set_43
        ·
          exact absurd ((xv13).trans (rfl).symm) c15
      ·
        obtain ⟨dv13, x13_0, xr13, -⟩ := hc13
        have q56 : (I0 11 (Int32.toNatClampNeg p0)).toInt = (-1 : Int) := x13_0
        have xv13 : v13 = 1 := by have h := xr13; exact h
        refine lv_if_eq (tgt := 24) hx hb dX5_set_15 (by decide) (fun c57 => ?_) (fun c57 => ?_)
        ·
          exact (dkN_nil (show dkN [] v13 from dkN_eq1 dv13 (dkN_lit (x := 0) (0) rfl) (congrArg Int32.toInt c57) rfl)).elim
        ·
          refine lv_aload_n hx hb dX5_set_18 rfl (lv_at hl 0 rfl) ?_
          refine lv_iconst (v := 1) hx hb dX5_set_19 (by decide) ?_
          refine dk_Vi (As := [.int 1]) (rest := []) ⟨hx, hb, hml, hown, hts⟩ (fx_X5_found_6 l g z I0 1 (dkN_lit (x := 1) (1) rfl) hO) (cwV 1 hts gX5_set_X5_found rfl rfl rfl (by decide +kernel) ⟨Nat.le_of_ble_eq_true rfl, Nat.le_of_ble_eq_true rfl⟩) (dk_at0 hW) rfl hK hT hW hS rfl hl.1 rfl (Nat.le_of_ble_eq_true rfl) dX5_set_20 ⟨Nat.zero_le _, Nat.zero_le _⟩ (fun v58 I58 H58 L58 hp58 hW hS => ?_)
          obtain ⟨hF58, hO, hc58⟩ := hp58
          have hF := dkF_call hF hF58 rfl
          obtain ⟨dv58, f58_0_3, x58_0, xr58, xh58_0, -⟩ := hc58
          have q59 : ((-1000010 : Int32) - (1 : Int32)).toInt = (-1000010 : Int) - (1 : Int) := x58_0
          have y60 : I58 0 3 = 1 := by have h := xh58_0; exact h
          have xv58 : v58 = (-1000010 : Int32) - (1 : Int32) := by have h := xr58; exact h
          exact W.iret (v := v58) hx hb hr (fun t ht hW9 => ⟨⟨v58, I58, rfl, ⟨hF, hO, Or.inr (Or.inr (Or.inr (Or.inr (Or.inr (Or.inr (Or.inr (⟨dkN_sub dv58 rfl, dkN_sub d11 rfl, (show dkN [(1, 1)] (I58 0 3) from dkN_sub f58_0_3 rfl), q9, q10, q56, q59, xv58, y60, trivial⟩)))))))⟩, dkW_eq ht hW⟩, hS.F ht⟩) hS.2.2 dX5_set_23
    ·
      exact (dkN_nil (show dkN [] v1 from dkN_eq1 dv1 (dkN_lit (x := 0) (0) rfl) (congrArg Int32.toInt c12) rfl)).elim
set_option maxHeartbeats 4000000 in
set_option maxRecDepth 100000 in
theorem fx_X6_in_38 (l : Launch) (g : dkG) (z : Nat) (I0 : dkI) (p0 : Int32) (p1 : Int32) (p2 : Int32) (dp1 : dkN [(0, 0)] p1) (dp2 : dkN [(-1, 39)] p2)  (hO : dkOk I0) : Met l yX6_in wsX6_in (dkR 0) (dkPc g z [.int p0, .int p1, .int p2] I0) (dkQi g z (fun r I1 => dkF [] I0 I1 ∧ dkOk I1 ∧ ((dkN [(0, 0)] r ∧ dkN [(-2147483648, -1)] p0 ∧ p0.toInt + 1 ≤ p1.toInt ∧ r = 0 ∧ True) ∨ (dkN [(0, 0)] r ∧ dkN [(0, 2147483647)] p0 ∧ p1.toInt + 0 ≤ p0.toInt ∧ p2.toInt + 1 ≤ p0.toInt ∧ r = 0 ∧ True) ∨ (dkN [(1, 1)] r ∧ dkN [(0, 39)] p0 ∧ dkN [(0, 39)] p2 ∧ p1.toInt + 0 ≤ p0.toInt ∧ p0.toInt + 0 ≤ p2.toInt ∧ r = 1 ∧ True)))) 0 0 (dkA z) := by
  refine Met.ofW (cc := cX6_in) (maxL := 3) (ret := (some .boolean)) (by decide) rfl ?_
  intro p e s m args below meth c s₁ B hml hv
  obtain ⟨ha, hW, hK, hT⟩ := hv
  have hx := B.exec
  have hb := B.bytes
  have hr := B.returns
  have hts := atoms_spec (ws := wsX6_in) B.pre
  have hown : s.vm.findClass RX6 = some m.cls := findClass_of_methodNamed B.named
  have hlocks := B.notSynchronized
  have hS : va_S (dkA z) s.heap s.heap [] := va_S.rf
  have hF : dkF [] I0 I0 := dkF_rf _ _
  have hl := lv_entry ([.int p0, .int p1, .int p2]) (n := 3) (Nat.le_of_ble_eq_true rfl)
  have hgo : entryFrame m args 3 = entryFrame m ([.int p0, .int p1, .int p2] : List Value).toArray 3 := by rw [ha]
  rw [hgo, lg_entry_eq]
  generalize (lg_sl ([.int p0, .int p1, .int p2]) ++ List.replicate (3 - (lg_sl ([.int p0, .int p1, .int p2])).length) Slot.unset).toArray = ls at hl ⊢
  have hl : lv_has ls 3 [(0, .int p0), (1, .int p1), (2, .int p2)] := hl
  refine lv_iload_n hx hb dX6_in_0 rfl (lv_at hl 0 rfl) ?_
  refine lv_iload_n hx hb dX6_in_1 rfl (lv_at hl 1 rfl) ?_
  refine lv_icmp_lt (tgt := 14) hx hb dX6_in_2 (by decide) (fun c1 => ?_) (fun c1 => ?_)
  ·
    have q2 : p0.toInt + 1 ≤ p1.toInt := (dkc_lt c1)
    have d3 : dkN [(-2147483648, -1)] p0 := dkN_le1 1 (dkN_top p0) dp1 (dkc_lt c1) rfl
    refine lv_iconst (v := 0) hx hb dX6_in_14 (by decide) ?_
    exact W.zret (v := 0) (ty := .boolean) hx hb hr rfl (fun t ht hW9 => ⟨⟨0, I0, rfl, ⟨hF, hO, Or.inl ⟨dkN_sub (dkN_lit (x := 0) (0) rfl) rfl, dkN_sub d3 rfl, q2, rfl, trivial⟩⟩, dkW_eq ht hW⟩, hS.F ht⟩) hS.2.2 dX6_in_15
  ·
    have q4 : p1.toInt + 0 ≤ p0.toInt := (dkc_nlt c1)
    have d5 : dkN [(0, 2147483647)] p0 := dkN_le2 0 dp1 (dkN_top p0) (dkc_nlt c1) rfl
    refine lv_iload_n hx hb dX6_in_5 rfl (lv_at hl 0 rfl) ?_
    refine lv_iload_n hx hb dX6_in_6 rfl (lv_at hl 2 rfl) ?_
    refine lv_icmp_gt (tgt := 14) hx hb dX6_in_7 (by decide) (fun c6 => ?_) (fun c6 => ?_)
    ·
      have q7 : p2.toInt + 1 ≤ p0.toInt := (dkc_lt c6)
      refine lv_iconst (v := 0) hx hb dX6_in_14 (by decide) ?_
      exact W.zret (v := 0) (ty := .boolean) hx hb hr rfl (fun t ht hW9 => ⟨⟨0, I0, rfl, ⟨hF, hO, Or.inr (Or.inl ⟨dkN_sub (dkN_lit (x := 0) (0) rfl) rfl, dkN_sub d5 rfl, q4, q7, rfl, trivial⟩)⟩, dkW_eq ht hW⟩, hS.F ht⟩) hS.2.2 dX6_in_15
    ·
      have q8 : p0.toInt + 0 ≤ p2.toInt := (dkc_nlt c6)
      have d9 : dkN [(0, 39)] p2 := dkN_le2 0 d5 dp2 (dkc_nlt c6) rfl
      have d10 : dkN [(0, 39)] p0 := dkN_le1 0 d5 dp2 (dkc_nlt c6) rfl
      refine lv_iconst (v := 1) hx hb dX6_in_10 (by decide) ?_
      refine lv_goto (tgt := 15) hx hb dX6_in_11 (by decide) ?_
      exact W.zret (v := 1) (ty := .boolean) hx hb hr rfl (fun t ht hW9 => ⟨⟨1, I0, rfl, ⟨hF, hO, Or.inr (Or.inr (⟨dkN_sub (dkN_lit (x := 1) (1) rfl) rfl, dkN_sub d10 rfl, dkN_sub d9 rfl, q4, q8, rfl, trivial⟩))⟩, dkW_eq ht hW⟩, hS.F ht⟩) hS.2.2 dX6_in_15
set_option maxHeartbeats 4000000 in
set_option maxRecDepth 100000 in
theorem fx_X6_found_7 (l : Launch) (g : dkG) (z : Nat) (I0 : dkI) (p0 : Int32) (dp0 : dkN [(2, 2)] p0)  (hO : dkOk I0) : Met l yX6_found wsX6_found (dkR 0) (dkPc g z [.ref (z + 340), .int p0] I0) (dkQi g z (fun r I1 => dkF [(340, 340, 4, 4)] I0 I1 ∧ dkOk I1 ∧ ((dkN [(-1000012, -1000012)] r ∧ dkN [(2, 2)] (I1 340 4) ∧ ((-1000010 : Int32) - p0).toInt = (-1000010 : Int) - p0.toInt ∧ r = (-1000010 : Int32) - p0 ∧ I1 340 4 = p0 ∧ True)))) 0 0 (dkA z) := by
  refine Met.ofW (cc := cX6_found) (maxL := 2) (ret := (some .int)) (by decide) rfl ?_
  intro p e s m args below meth c s₁ B hml hv
  obtain ⟨ha, hW, hK, hT⟩ := hv
  have hx := B.exec
  have hb := B.bytes
  have hr := B.returns
  have hts := atoms_spec (ws := wsX6_found) B.pre
  have hown : s.vm.findClass RX6 = some m.cls := findClass_of_methodNamed B.named
  have hlocks := B.notSynchronized
  have hS : va_S (dkA z) s.heap s.heap [] := va_S.rf
  have hF : dkF [(340, 340, 4, 4)] I0 I0 := dkF_rf _ _
  have hl := lv_entry ([.ref (z + 340), .int p0]) (n := 2) (Nat.le_of_ble_eq_true rfl)
  have hgo : entryFrame m args 2 = entryFrame m ([.ref (z + 340), .int p0] : List Value).toArray 2 := by rw [ha]
  rw [hgo, lg_entry_eq]
  generalize (lg_sl ([.ref (z + 340), .int p0]) ++ List.replicate (2 - (lg_sl ([.ref (z + 340), .int p0])).length) Slot.unset).toArray = ls at hl ⊢
  have hl : lv_has ls 2 [(0, .ref (z + 340)), (1, .int p0)] := hl
  refine lv_aload_n hx hb dX6_found_0 rfl (lv_at hl 0 rfl) ?_
  refine lv_iload_n hx hb dX6_found_1 rfl (lv_at hl 1 rfl) ?_
  refine dk_put (k := 340) hx hb hts iX6_found_6 tyX6 tyX6_ok nmX6 hown hK hW (dk_at340 hW) hS rfl 4 (by decide) (hts (.fieldLink RX6 51 "DogKingsModel" "status" "I") (List.mem_of_getElem? (i := 1) rfl)) rfl rfl (Nat.le_of_ble_eq_true rfl) rfl dX6_found_2 (fun I1 H1 L1 eI1 hW hS => ?_)
  have eI1 : I1 = dkU I0 340 4 p0 := eI1
  have hO := dkO_set hO eI1 (dkN_sub dp0 rfl)
  have hF := dkF_set hF eI1 rfl
  refine lv_ldc (v := (-1000010)) hx hb hown (hts (.constant RX6 55 (-1000010)) (List.mem_of_getElem? (i := 2) rfl)) dX6_found_5 ?_
  refine lv_iload_n hx hb dX6_found_7 rfl (lv_at hl 1 rfl) ?_
  refine lv_isub hx hb dX6_found_8 ?_
  refine lv_topi (fun v2 ev2 => ?_)
  have dv2 : dkN [(-1000012, -1000012)] v2 := by rw [ev2]; exact dkN_subt (dkN_lit (x := (-1000010)) (-1000010) rfl) dp0 rfl
  have xv2 : v2 = (-1000010 : Int32) - p0 := by rw [ev2]
  have q3 : ((-1000010 : Int32) - p0).toInt = (-1000010 : Int) - p0.toInt := by first | (rw [← xv2]; exact (by rw [ev2]; exact dk_subE (dkN_lit (x := (-1000010)) (-1000010) rfl) dp0 rfl)) | (subst xv2; exact (by rw [ev2]; exact dk_subE (dkN_lit (x := (-1000010)) (-1000010) rfl) dp0 rfl))
  exact W.iret (v := v2) hx hb hr (fun t ht hW9 => ⟨⟨v2, I1, rfl, ⟨hF, hO, ⟨dkN_sub dv2 rfl, (show dkN [(2, 2)] (I1 340 4) from dkN_sub (by rw [eI1, dkU_ss]; exact dp0) rfl), q3, xv2, (by rw [eI1, dkU_ss]), trivial⟩⟩, dkW_eq ht hW⟩, hS.F ht⟩) hS.2.2 dX6_found_9
set_option maxHeartbeats 4000000 in
set_option maxRecDepth 100000 in
theorem fx_X6_cut_1 (l : Launch) (g : dkG) (z : Nat) (I0 : dkI) (p0 : Int32) (p1 : Int32) (dp0 : dkN [(-1000000, -1000000), (0, 2)] p0)  (hO : dkOk I0) : Met l yX6_cut wsX6_cut (dkR 0) (dkPc g z [.int p0, .int p1] I0) (dkQi g z (fun r I1 => dkF [] I0 I1 ∧ dkOk I1 ∧ ((True ∧ dkN [(-1000000, -1000000), (2, 2)] p0 ∧ p0.toInt ≠ (0 : Int) ∧ p0.toInt ≠ (1 : Int) ∧ r = p1 ∧ True) ∨ (True ∧ dkN [(1, 1)] p0 ∧ p0.toInt ≠ (0 : Int) ∧ p0.toInt = (1 : Int) ∧ r = (p1 <<< ((16 : Int32) &&& 31)) >>> ((16 : Int32) &&& 31) ∧ True) ∨ (True ∧ dkN [(0, 0)] p0 ∧ p0.toInt = (0 : Int) ∧ r = (p1 <<< ((24 : Int32) &&& 31)) >>> ((24 : Int32) &&& 31) ∧ True)))) 0 0 (dkA z) := by
  refine Met.ofW (cc := cX6_cut) (maxL := 2) (ret := (some .int)) (by decide) rfl ?_
  intro p e s m args below meth c s₁ B hml hv
  obtain ⟨ha, hW, hK, hT⟩ := hv
  have hx := B.exec
  have hb := B.bytes
  have hr := B.returns
  have hts := atoms_spec (ws := wsX6_cut) B.pre
  have hown : s.vm.findClass RX6 = some m.cls := findClass_of_methodNamed B.named
  have hlocks := B.notSynchronized
  have hS : va_S (dkA z) s.heap s.heap [] := va_S.rf
  have hF : dkF [] I0 I0 := dkF_rf _ _
  have hl := lv_entry ([.int p0, .int p1]) (n := 2) (Nat.le_of_ble_eq_true rfl)
  have hgo : entryFrame m args 2 = entryFrame m ([.int p0, .int p1] : List Value).toArray 2 := by rw [ha]
  rw [hgo, lg_entry_eq]
  generalize (lg_sl ([.int p0, .int p1]) ++ List.replicate (2 - (lg_sl ([.int p0, .int p1])).length) Slot.unset).toArray = ls at hl ⊢
  have hl : lv_has ls 2 [(0, .int p0), (1, .int p1)] := hl
  refine lv_iload_n hx hb dX6_cut_0 rfl (lv_at hl 0 rfl) ?_
  refine lv_if_ne (tgt := 14) hx hb dX6_cut_1 (by decide) (fun c1 => ?_) (fun c1 => ?_)
  ·
    have q2 : p0.toInt ≠ (0 : Int) := (dk_ne c1)
    have d3 : dkN [(-1000000, -1000000), (1, 2)] p0 := dkN_ne1 (0) dp0 (dkN_lit (x := 0) (0) rfl) (dk_ne c1) rfl
    refine lv_iload_n hx hb dX6_cut_14 rfl (lv_at hl 0 rfl) ?_
    refine lv_iconst (v := 1) hx hb dX6_cut_15 (by decide) ?_
    refine lv_icmp_ne (tgt := 29) hx hb dX6_cut_16 (by decide) (fun c4 => ?_) (fun c4 => ?_)
    ·
      have q5 : p0.toInt ≠ (1 : Int) := (dk_ne c4)
      have d6 : dkN [(-1000000, -1000000), (2, 2)] p0 := dkN_ne1 (1) d3 (dkN_lit (x := 1) (1) rfl) (dk_ne c4) rfl
      refine lv_iload_n hx hb dX6_cut_29 rfl (lv_at hl 1 rfl) ?_
      exact W.iret (v := p1) hx hb hr (fun t ht hW9 => ⟨⟨p1, I0, rfl, ⟨hF, hO, Or.inl ⟨trivial, dkN_sub d6 rfl, q2, q5, rfl, trivial⟩⟩, dkW_eq ht hW⟩, hS.F ht⟩) hS.2.2 dX6_cut_30
    ·
      have q7 : p0.toInt = (1 : Int) := (congrArg Int32.toInt c4)
      have d8 : dkN [(1, 1)] p0 := dkN_eq1 d3 (dkN_lit (x := 1) (1) rfl) (congrArg Int32.toInt c4) rfl
      refine lv_iload_n hx hb dX6_cut_19 rfl (lv_at hl 1 rfl) ?_
      refine lv_bipush (v := 16) hx hb dX6_cut_20 (by decide) ?_
      refine lv_ishl hx hb dX6_cut_22 ?_
      refine lv_topi (fun v9 ev9 => ?_)
      have xv9 : v9 = p1 <<< ((16 : Int32) &&& 31) := by rw [ev9]
      refine lv_bipush (v := 16) hx hb dX6_cut_23 (by decide) ?_
      refine lv_ishr hx hb dX6_cut_25 ?_
      refine lv_topi (fun v10 ev10 => ?_)
      have xv10 : v10 = (p1 <<< ((16 : Int32) &&& 31)) >>> ((16 : Int32) &&& 31) := by rw [ev10, xv9]
      refine lv_goto (tgt := 30) hx hb dX6_cut_26 (by decide) ?_
      exact W.iret (v := v10) hx hb hr (fun t ht hW9 => ⟨⟨v10, I0, rfl, ⟨hF, hO, Or.inr (Or.inl ⟨trivial, dkN_sub d8 rfl, q2, q7, xv10, trivial⟩)⟩, dkW_eq ht hW⟩, hS.F ht⟩) hS.2.2 dX6_cut_30
  ·
    have q11 : p0.toInt = (0 : Int) := (congrArg Int32.toInt c1)
    have d12 : dkN [(0, 0)] p0 := dkN_eq1 dp0 (dkN_lit (x := 0) (0) rfl) (congrArg Int32.toInt c1) rfl
    refine lv_iload_n hx hb dX6_cut_4 rfl (lv_at hl 1 rfl) ?_
    refine lv_bipush (v := 24) hx hb dX6_cut_5 (by decide) ?_
    refine lv_ishl hx hb dX6_cut_7 ?_
    refine lv_topi (fun v13 ev13 => ?_)
    have xv13 : v13 = p1 <<< ((24 : Int32) &&& 31) := by rw [ev13]
    refine lv_bipush (v := 24) hx hb dX6_cut_8 (by decide) ?_
    refine lv_ishr hx hb dX6_cut_10 ?_
    refine lv_topi (fun v14 ev14 => ?_)
    have xv14 : v14 = (p1 <<< ((24 : Int32) &&& 31)) >>> ((24 : Int32) &&& 31) := by rw [ev14, xv13]
    refine lv_goto (tgt := 30) hx hb dX6_cut_11 (by decide) ?_
    exact W.iret (v := v14) hx hb hr (fun t ht hW9 => ⟨⟨v14, I0, rfl, ⟨hF, hO, Or.inr (Or.inr (⟨trivial, dkN_sub d12 rfl, q11, xv14, trivial⟩))⟩, dkW_eq ht hW⟩, hS.F ht⟩) hS.2.2 dX6_cut_30
