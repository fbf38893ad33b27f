set_option maxHeartbeats 4000000 in
set_option maxRecDepth 100000 in
theorem f_X5_isUpTo_8 (l : Launch) (g : dkG) (z : Nat) (I0 : dkI) (p0 : Int32) (p1 : Int32) (dp1 : dkN [(7, 7)] p1)  (hO : dkOk I0) : Met l yX5_isUpTo wsX5_isUpTo (dkR 0) (dkPc g z [.int p0, .int p1] I0) (dkQi g z (fun r I1 => dkF [] I0 I1 ∧ dkOk I1 ∧ ((dkN [(0, 0)] r ∧ dkN [(-2147483648, -1)] p0 ∧ p0.toInt + 1 ≤ (0 : Int) ∧ r = 0 ∧ True) ∨ (dkN [(0, 0)] r ∧ dkN [(8, 2147483647)] p0 ∧ (0 : Int) + 0 ≤ p0.toInt ∧ p1.toInt + 1 ≤ p0.toInt ∧ r = 0 ∧ True) ∨ (dkN [(1, 1)] r ∧ dkN [(0, 7)] p0 ∧ (0 : Int) + 0 ≤ p0.toInt ∧ p0.toInt + 0 ≤ p1.toInt ∧ r = 1 ∧ True)))) 0 0 (dkA z) := by
  refine Met.ofW (cc := cX5_isUpTo) (maxL := 2) (ret := (some .boolean)) (by decide) rfl ?_
  intro p e s m args below meth c s₁ B hml hv
  obtain ⟨ha, hW, hK, hT⟩ := hv
  have hx := B.exec
  have hb := B.bytes
  have hr := B.returns
  have hts := atoms_spec (ws := wsX5_isUpTo) B.pre
  have hown : s.vm.findClass RX5 = some m.cls := findClass_of_methodNamed B.named
  have hlocks := B.notSynchronized
  have hS : va_S (dkA z) s.heap s.heap [] := va_S.rf
  have hF : dkF [] I0 I0 := dkF_rf _ _
  have hl := lv_entry ([.int p0, .int p1]) (n := 2) (Nat.le_of_ble_eq_true rfl)
  have hgo : entryFrame m args 2 = entryFrame m ([.int p0, .int p1] : List Value).toArray 2 := by rw [ha]
  rw [hgo, lg_entry_eq]
  generalize (lg_sl ([.int p0, .int p1]) ++ List.replicate (2 - (lg_sl ([.int p0, .int p1])).length) Slot.unset).toArray = ls at hl ⊢
  have hl : lv_has ls 2 [(0, .int p0), (1, .int p1)] := hl
  refine lv_iload_n hx hb dX5_isUpTo_0 rfl (lv_at hl 0 rfl) ?_
  refine lv_if_lt (tgt := 13) hx hb dX5_isUpTo_1 (by decide) (fun c1 => ?_) (fun c1 => ?_)
  ·
    have q2 : p0.toInt + 1 ≤ (0 : Int) := (dkc_lt c1)
    have d3 : dkN [(-2147483648, -1)] p0 := dkN_le1 1 (dkN_top p0) (dkN_lit (x := 0) (0) rfl) (dkc_lt c1) rfl
    refine lv_iconst (v := 0) hx hb dX5_isUpTo_13 (by decide) ?_
    exact W.zret (v := 0) (ty := .boolean) hx hb hr rfl (fun t ht hW9 => ⟨⟨0, I0, rfl, ⟨hF, hO, Or.inl ⟨dkN_sub (dkN_lit (x := 0) (0) rfl) rfl, dkN_sub d3 rfl, q2, rfl, trivial⟩⟩, dkW_eq ht hW⟩, hS.F ht⟩) hS.2.2 dX5_isUpTo_14
  ·
    have q4 : (0 : Int) + 0 ≤ p0.toInt := (dkc_nlt c1)
    have d5 : dkN [(0, 2147483647)] p0 := dkN_le2 0 (dkN_lit (x := 0) (0) rfl) (dkN_top p0) (dkc_nlt c1) rfl
    refine lv_iload_n hx hb dX5_isUpTo_4 rfl (lv_at hl 0 rfl) ?_
    refine lv_iload_n hx hb dX5_isUpTo_5 rfl (lv_at hl 1 rfl) ?_
    refine lv_icmp_gt (tgt := 13) hx hb dX5_isUpTo_6 (by decide) (fun c6 => ?_) (fun c6 => ?_)
    ·
      have q7 : p1.toInt + 1 ≤ p0.toInt := (dkc_lt c6)
      have d8 : dkN [(8, 2147483647)] p0 := dkN_le2 1 dp1 d5 (dkc_lt c6) rfl
      refine lv_iconst (v := 0) hx hb dX5_isUpTo_13 (by decide) ?_
      exact W.zret (v := 0) (ty := .boolean) hx hb hr rfl (fun t ht hW9 => ⟨⟨0, I0, rfl, ⟨hF, hO, Or.inr (Or.inl ⟨dkN_sub (dkN_lit (x := 0) (0) rfl) rfl, dkN_sub d8 rfl, q4, q7, rfl, trivial⟩)⟩, dkW_eq ht hW⟩, hS.F ht⟩) hS.2.2 dX5_isUpTo_14
    ·
      have q9 : p0.toInt + 0 ≤ p1.toInt := (dkc_nlt c6)
      have d10 : dkN [(0, 7)] p0 := dkN_le1 0 d5 dp1 (dkc_nlt c6) rfl
      refine lv_iconst (v := 1) hx hb dX5_isUpTo_9 (by decide) ?_
      refine lv_goto (tgt := 14) hx hb dX5_isUpTo_10 (by decide) ?_
      exact W.zret (v := 1) (ty := .boolean) hx hb hr rfl (fun t ht hW9 => ⟨⟨1, I0, rfl, ⟨hF, hO, Or.inr (Or.inr (⟨dkN_sub (dkN_lit (x := 1) (1) rfl) rfl, dkN_sub d10 rfl, q4, q9, rfl, trivial⟩))⟩, dkW_eq ht hW⟩, hS.F ht⟩) hS.2.2 dX5_isUpTo_14
set_option maxHeartbeats 4000000 in
set_option maxRecDepth 100000 in
theorem f_X5_isRow_1 (l : Launch) (g : dkG) (z : Nat) (I0 : dkI) (p0 : Int32)  (hO : dkOk I0) : Met l yX5_isRow wsX5_isRow (dkR 1) (dkPc g z [.int p0] I0) (dkQi g z (fun r I1 => dkF [] I0 I1 ∧ dkOk I1 ∧ ((dkN [(0, 0)] r ∧ dkN [(-2147483648, -1)] p0 ∧ p0.toInt + 1 ≤ (0 : Int) ∧ r = 0 ∧ True) ∨ (dkN [(0, 0)] r ∧ dkN [(8, 2147483647)] p0 ∧ (0 : Int) + 0 ≤ p0.toInt ∧ (7 : Int) + 1 ≤ p0.toInt ∧ r = 0 ∧ True) ∨ (dkN [(1, 1)] r ∧ dkN [(0, 7)] p0 ∧ (0 : Int) + 0 ≤ p0.toInt ∧ p0.toInt + 0 ≤ (7 : Int) ∧ r = 1 ∧ True)))) 0 0 (dkA z) := by
  refine Met.ofW (cc := cX5_isRow) (maxL := 1) (ret := (some .boolean)) (by decide) rfl ?_
  intro p e s m args below meth c s₁ B hml hv
  obtain ⟨ha, hW, hK, hT⟩ := hv
  have hx := B.exec
  have hb := B.bytes
  have hr := B.returns
  have hts := atoms_spec (ws := wsX5_isRow) B.pre
  have hown : s.vm.findClass RX5 = some m.cls := findClass_of_methodNamed B.named
  have hlocks := B.notSynchronized
  have hS : va_S (dkA z) s.heap s.heap [] := va_S.rf
  have hF : dkF [] I0 I0 := dkF_rf _ _
  have hl := lv_entry ([.int p0]) (n := 1) (Nat.le_of_ble_eq_true rfl)
  have hgo : entryFrame m args 1 = entryFrame m ([.int p0] : List Value).toArray 1 := by rw [ha]
  rw [hgo, lg_entry_eq]
  generalize (lg_sl ([.int p0]) ++ List.replicate (1 - (lg_sl ([.int p0])).length) Slot.unset).toArray = ls at hl ⊢
  have hl : lv_has ls 1 [(0, .int p0)] := hl
  refine lv_iload_n hx hb dX5_isRow_0 rfl (lv_at hl 0 rfl) ?_
  refine lv_bipush (v := 7) hx hb dX5_isRow_1 (by decide) ?_
  refine dk_Si (As := [.int p0, .int 7]) (rest := []) ⟨hx, hb, hml, hown, hts⟩ (f_X5_isUpTo_8 l g z I0 p0 7 (dkN_lit (x := 7) (7) rfl) hO) (va_cwS 2 hts gX5_isRow_X5_isUpTo rfl rfl rfl (by decide +kernel) ⟨Nat.le_of_ble_eq_true rfl, Nat.le_of_ble_eq_true rfl⟩) hK hT hW hS rfl hl.1 rfl (Nat.le_of_ble_eq_true rfl) dX5_isRow_3 ⟨Nat.zero_le _, Nat.zero_le _⟩ (fun v1 I1 H1 L1 hp1 hW hS => ?_)
  obtain ⟨hF1, hO, hc1⟩ := hp1
  have hF := dkF_call hF hF1 rfl
  have eI1 : I0 = I1 := (dkF_nil hF1).symm
  subst eI1
  rcases hc1 with ⟨dv1, a1_0, x1_0, xr1, -⟩ | hc1
  ·
    have q2 : p0.toInt + 1 ≤ (0 : Int) := x1_0
    have xv1 : v1 = 0 := by rw [xr1]
    have d3 : dkN [(-2147483648, -1)] p0 := dkN_eq1 (dkN_top p0) a1_0 rfl rfl
    exact W.zret (v := v1) (ty := .boolean) hx hb hr (dkN_zr dv1 rfl) (fun t ht hW9 => ⟨⟨v1, I0, rfl, ⟨hF, hO, Or.inl ⟨dkN_sub dv1 rfl, dkN_sub d3 rfl, q2, xv1, trivial⟩⟩, dkW_eq ht hW⟩, hS.F ht⟩) hS.2.2 dX5_isRow_6
  rcases hc1 with ⟨dv1, a1_0, x1_0, x1_1, xr1, -⟩ | hc1
  ·
    have q4 : (0 : Int) + 0 ≤ p0.toInt := x1_0
    have q5 : (7 : Int) + 1 ≤ p0.toInt := x1_1
    have xv1 : v1 = 0 := by rw [xr1]
    have d6 : dkN [(8, 2147483647)] p0 := dkN_eq1 (dkN_top p0) a1_0 rfl rfl
    exact W.zret (v := v1) (ty := .boolean) hx hb hr (dkN_zr dv1 rfl) (fun t ht hW9 => ⟨⟨v1, I0, rfl, ⟨hF, hO, Or.inr (Or.inl ⟨dkN_sub dv1 rfl, dkN_sub d6 rfl, q4, q5, xv1, trivial⟩)⟩, dkW_eq ht hW⟩, hS.F ht⟩) hS.2.2 dX5_isRow_6
  ·
    obtain ⟨dv1, a1_0, x1_0, x1_1, xr1, -⟩ := hc1
    have q7 : (0 : Int) + 0 ≤ p0.toInt := x1_0
    have q8 : p0.toInt + 0 ≤ (7 : Int) := x1_1
    have xv1 : v1 = 1 := by rw [xr1]
    have d9 : dkN [(0, 7)] p0 := dkN_eq1 (dkN_top p0) a1_0 rfl rfl
    exact W.zret (v := v1) (ty := .boolean) hx hb hr (dkN_zr dv1 rfl) (fun t ht hW9 => ⟨⟨v1, I0, rfl, ⟨hF, hO, Or.inr (Or.inr (⟨dkN_sub dv1 rfl, dkN_sub d9 rfl, q7, q8, xv1, trivial⟩))⟩, dkW_eq ht hW⟩, hS.F ht⟩) hS.2.2 dX5_isRow_6
set_option maxHeartbeats 4000000 in
set_option maxRecDepth 100000 in
theorem f_X5_isUpTo_9 (l : Launch) (g : dkG) (z : Nat) (I0 : dkI) (p0 : Int32) (p1 : Int32) (dp1 : dkN [(2, 2)] p1)  (hO : dkOk I0) : Met l yX5_isUpTo wsX5_isUpTo (dkR 0) (dkPc g z [.int p0, .int p1] I0) (dkQi g z (fun r I1 => dkF [] I0 I1 ∧ dkOk I1 ∧ ((dkN [(0, 0)] r ∧ dkN [(-2147483648, -1)] p0 ∧ p0.toInt + 1 ≤ (0 : Int) ∧ r = 0 ∧ True) ∨ (dkN [(0, 0)] r ∧ dkN [(3, 2147483647)] p0 ∧ (0 : Int) + 0 ≤ p0.toInt ∧ p1.toInt + 1 ≤ p0.toInt ∧ r = 0 ∧ True) ∨ (dkN [(1, 1)] r ∧ dkN [(0, 2)] p0 ∧ (0 : Int) + 0 ≤ p0.toInt ∧ p0.toInt + 0 ≤ p1.toInt ∧ r = 1 ∧ True)))) 0 0 (dkA z) := by
  refine Met.ofW (cc := cX5_isUpTo) (maxL := 2) (ret := (some .boolean)) (by decide) rfl ?_
  intro p e s m args below meth c s₁ B hml hv
  obtain ⟨ha, hW, hK, hT⟩ := hv
  have hx := B.exec
  have hb := B.bytes
  have hr := B.returns
  have hts := atoms_spec (ws := wsX5_isUpTo) B.pre
  have hown : s.vm.findClass RX5 = some m.cls := findClass_of_methodNamed B.named
  have hlocks := B.notSynchronized
  have hS : va_S (dkA z) s.heap s.heap [] := va_S.rf
  have hF : dkF [] I0 I0 := dkF_rf _ _
  have hl := lv_entry ([.int p0, .int p1]) (n := 2) (Nat.le_of_ble_eq_true rfl)
  have hgo : entryFrame m args 2 = entryFrame m ([.int p0, .int p1] : List Value).toArray 2 := by rw [ha]
  rw [hgo, lg_entry_eq]
  generalize (lg_sl ([.int p0, .int p1]) ++ List.replicate (2 - (lg_sl ([.int p0, .int p1])).length) Slot.unset).toArray = ls at hl ⊢
  have hl : lv_has ls 2 [(0, .int p0), (1, .int p1)] := hl
  refine lv_iload_n hx hb dX5_isUpTo_0 rfl (lv_at hl 0 rfl) ?_
  refine lv_if_lt (tgt := 13) hx hb dX5_isUpTo_1 (by decide) (fun c1 => ?_) (fun c1 => ?_)
  ·
    have q2 : p0.toInt + 1 ≤ (0 : Int) := (dkc_lt c1)
    have d3 : dkN [(-2147483648, -1)] p0 := dkN_le1 1 (dkN_top p0) (dkN_lit (x := 0) (0) rfl) (dkc_lt c1) rfl
    refine lv_iconst (v := 0) hx hb dX5_isUpTo_13 (by decide) ?_
    exact W.zret (v := 0) (ty := .boolean) hx hb hr rfl (fun t ht hW9 => ⟨⟨0, I0, rfl, ⟨hF, hO, Or.inl ⟨dkN_sub (dkN_lit (x := 0) (0) rfl) rfl, dkN_sub d3 rfl, q2, rfl, trivial⟩⟩, dkW_eq ht hW⟩, hS.F ht⟩) hS.2.2 dX5_isUpTo_14
  ·
    have q4 : (0 : Int) + 0 ≤ p0.toInt := (dkc_nlt c1)
    have d5 : dkN [(0, 2147483647)] p0 := dkN_le2 0 (dkN_lit (x := 0) (0) rfl) (dkN_top p0) (dkc_nlt c1) rfl
    refine lv_iload_n hx hb dX5_isUpTo_4 rfl (lv_at hl 0 rfl) ?_
    refine lv_iload_n hx hb dX5_isUpTo_5 rfl (lv_at hl 1 rfl) ?_
    refine lv_icmp_gt (tgt := 13) hx hb dX5_isUpTo_6 (by decide) (fun c6 => ?_) (fun c6 => ?_)
    ·
      have q7 : p1.toInt + 1 ≤ p0.toInt := (dkc_lt c6)
      have d8 : dkN [(3, 2147483647)] p0 := dkN_le2 1 dp1 d5 (dkc_lt c6) rfl
      refine lv_iconst (v := 0) hx hb dX5_isUpTo_13 (by decide) ?_
      exact W.zret (v := 0) (ty := .boolean) hx hb hr rfl (fun t ht hW9 => ⟨⟨0, I0, rfl, ⟨hF, hO, Or.inr (Or.inl ⟨dkN_sub (dkN_lit (x := 0) (0) rfl) rfl, dkN_sub d8 rfl, q4, q7, rfl, trivial⟩)⟩, dkW_eq ht hW⟩, hS.F ht⟩) hS.2.2 dX5_isUpTo_14
    ·
      have q9 : p0.toInt + 0 ≤ p1.toInt := (dkc_nlt c6)
      have d10 : dkN [(0, 2)] p0 := dkN_le1 0 d5 dp1 (dkc_nlt c6) rfl
      refine lv_iconst (v := 1) hx hb dX5_isUpTo_9 (by decide) ?_
      refine lv_goto (tgt := 14) hx hb dX5_isUpTo_10 (by decide) ?_
      exact W.zret (v := 1) (ty := .boolean) hx hb hr rfl (fun t ht hW9 => ⟨⟨1, I0, rfl, ⟨hF, hO, Or.inr (Or.inr (⟨dkN_sub (dkN_lit (x := 1) (1) rfl) rfl, dkN_sub d10 rfl, q4, q9, rfl, trivial⟩))⟩, dkW_eq ht hW⟩, hS.F ht⟩) hS.2.2 dX5_isUpTo_14
set_option maxHeartbeats 4000000 in
set_option maxRecDepth 100000 in
theorem f_X5_found_5 (l : Launch) (g : dkG) (z : Nat) (I0 : dkI) (p0 : Int32) (dp0 : dkN [(4, 4)] p0)  (hO : dkOk I0) : Met l yX5_found wsX5_found (dkR 0) (dkPc g z [.ref (z + 0), .int p0] I0) (dkQi g z (fun r I1 => dkF [(0, 0, 3, 3)] I0 I1 ∧ dkOk I1 ∧ ((dkN [(-1000014, -1000014)] r ∧ dkN [(4, 4)] (I1 0 3) ∧ ((-1000010 : Int32) - p0).toInt = (-1000010 : Int) - p0.toInt ∧ r = (-1000010 : Int32) - p0 ∧ True)))) 0 0 (dkA z) := by
  refine Met.ofW (cc := cX5_found) (maxL := 2) (ret := (some .int)) (by decide) rfl ?_
  intro p e s m args below meth c s₁ B hml hv
  obtain ⟨ha, hW, hK, hT⟩ := hv
  have hx := B.exec
  have hb := B.bytes
  have hr := B.returns
  have hts := atoms_spec (ws := wsX5_found) B.pre
  have hown : s.vm.findClass RX5 = some m.cls := findClass_of_methodNamed B.named
  have hlocks := B.notSynchronized
  have hS : va_S (dkA z) s.heap s.heap [] := va_S.rf
  have hF : dkF [(0, 0, 3, 3)] I0 I0 := dkF_rf _ _
  have hl := lv_entry ([.ref (z + 0), .int p0]) (n := 2) (Nat.le_of_ble_eq_true rfl)
  have hgo : entryFrame m args 2 = entryFrame m ([.ref (z + 0), .int p0] : List Value).toArray 2 := by rw [ha]
  rw [hgo, lg_entry_eq]
  generalize (lg_sl ([.ref (z + 0), .int p0]) ++ List.replicate (2 - (lg_sl ([.ref (z + 0), .int p0])).length) Slot.unset).toArray = ls at hl ⊢
  have hl : lv_has ls 2 [(0, .ref (z + 0)), (1, .int p0)] := hl
  refine lv_aload_n hx hb dX5_found_0 rfl (lv_at hl 0 rfl) ?_
  refine lv_iload_n hx hb dX5_found_1 rfl (lv_at hl 1 rfl) ?_
  refine dk_put (k := 0) hx hb hts iX5_found_5 tyX5 tyX5_ok nmX5 hown hK hW (dk_at0 hW) hS rfl 3 (by decide) (hts (.fieldLink RX5 292 "DogKings" "finding" "I") (List.mem_of_getElem? (i := 1) rfl)) rfl rfl (Nat.le_of_ble_eq_true rfl) rfl dX5_found_2 (fun I1 H1 L1 eI1 hW hS => ?_)
  have eI1 : I1 = dkU I0 0 3 p0 := eI1
  have hO := dkO_set hO eI1 (dkN_sub dp0 rfl)
  have hF := dkF_set hF eI1 rfl
  refine lv_ldcw (v := (-1000010)) hx hb hown (hts (.constant RX5 295 (-1000010)) (List.mem_of_getElem? (i := 2) rfl)) dX5_found_5 ?_
  refine lv_iload_n hx hb dX5_found_8 rfl (lv_at hl 1 rfl) ?_
  refine lv_isub hx hb dX5_found_9 ?_
  refine lv_topi (fun v2 ev2 => ?_)
  have dv2 : dkN [(-1000014, -1000014)] v2 := by rw [ev2]; exact dkN_subt (dkN_lit (x := (-1000010)) (-1000010) rfl) dp0 rfl
  have xv2 : v2 = (-1000010 : Int32) - p0 := by rw [ev2]
  have q3 : ((-1000010 : Int32) - p0).toInt = (-1000010 : Int) - p0.toInt := by rw [← xv2]; exact (by rw [ev2]; exact dk_subE (dkN_lit (x := (-1000010)) (-1000010) rfl) dp0 rfl)
  exact W.iret (v := v2) hx hb hr (fun t ht hW9 => ⟨⟨v2, I1, rfl, ⟨hF, hO, ⟨dkN_sub dv2 rfl, (show dkN [(4, 4)] (I1 0 3) from dkN_sub (by rw [eI1, dkU_ss]; exact dp0) rfl), q3, xv2, trivial⟩⟩, dkW_eq ht hW⟩, hS.F ht⟩) hS.2.2 dX5_found_10
set_option maxHeartbeats 4000000 in
set_option maxRecDepth 100000 in
theorem f_X5_nothingFound_1 (l : Launch) (g : dkG) (z : Nat) (I0 : dkI) (p0 : Int32)  (hO : dkOk I0) : Met l yX5_nothingFound wsX5_nothingFound (dkR 0) (dkPc g z [.ref (z + 0), .int p0] I0) (dkQi g z (fun r I1 => dkF [(0, 0, 3, 3)] I0 I1 ∧ dkOk I1 ∧ ((True ∧ dkN [(0, 0)] (I1 0 3) ∧ r = p0 ∧ True)))) 0 0 (dkA z) := by
  refine Met.ofW (cc := cX5_nothingFound) (maxL := 2) (ret := (some .int)) (by decide) rfl ?_
  intro p e s m args below meth c s₁ B hml hv
  obtain ⟨ha, hW, hK, hT⟩ := hv
  have hx := B.exec
  have hb := B.bytes
  have hr := B.returns
  have hts := atoms_spec (ws := wsX5_nothingFound) B.pre
  have hown : s.vm.findClass RX5 = some m.cls := findClass_of_methodNamed B.named
  have hlocks := B.notSynchronized
  have hS : va_S (dkA z) s.heap s.heap [] := va_S.rf
  have hF : dkF [(0, 0, 3, 3)] I0 I0 := dkF_rf _ _
  have hl := lv_entry ([.ref (z + 0), .int p0]) (n := 2) (Nat.le_of_ble_eq_true rfl)
  have hgo : entryFrame m args 2 = entryFrame m ([.ref (z + 0), .int p0] : List Value).toArray 2 := by rw [ha]
  rw [hgo, lg_entry_eq]
  generalize (lg_sl ([.ref (z + 0), .int p0]) ++ List.replicate (2 - (lg_sl ([.ref (z + 0), .int p0])).length) Slot.unset).toArray = ls at hl ⊢
  have hl : lv_has ls 2 [(0, .ref (z + 0)), (1, .int p0)] := hl
  refine lv_aload_n hx hb dX5_nothingFound_0 rfl (lv_at hl 0 rfl) ?_
  refine lv_iconst (v := 0) hx hb dX5_nothingFound_1 (by decide) ?_
  refine dk_put (k := 0) hx hb hts iX5_nothingFound_5 tyX5 tyX5_ok nmX5 hown hK hW (dk_at0 hW) hS rfl 3 (by decide) (hts (.fieldLink RX5 292 "DogKings" "finding" "I") (List.mem_of_getElem? (i := 1) rfl)) rfl rfl (Nat.le_of_ble_eq_true rfl) rfl dX5_nothingFound_2 (fun I1 H1 L1 eI1 hW hS => ?_)
  have eI1 : I1 = dkU I0 0 3 0 := eI1
  have hO := dkO_set hO eI1 (dkN_sub (dkN_lit (x := 0) (0) rfl) rfl)
  have hF := dkF_set hF eI1 rfl
  refine lv_iload_n hx hb dX5_nothingFound_5 rfl (lv_at hl 1 rfl) ?_
  exact W.iret (v := p0) hx hb hr (fun t ht hW9 => ⟨⟨p0, I1, rfl, ⟨hF, hO, ⟨trivial, (show dkN [(0, 0)] (I1 0 3) from dkN_sub (by rw [eI1, dkU_ss]; exact (dkN_lit (x := 0) (0) rfl)) rfl), rfl, trivial⟩⟩, dkW_eq ht hW⟩, hS.F ht⟩) hS.2.2 dX5_nothingFound_6
set_option maxHeartbeats 4000000 in
set_option maxRecDepth 100000 in
theorem f_X5_row_1 (l : Launch) (g : dkG) (z : Nat) (I0 : dkI) (p0 : Int32) (p1 : Int32) (p2 : Int32)  (hO : dkOk I0) : Met l yX5_row wsX5_row (dkR 2) (dkPc g z [.ref (z + 0), .int p0, .int p1, .int p2] I0) (dkQi g z (fun r I1 => dkF [(2, 9, 0, 2147483647), (0, 0, 3, 3), (10, 10, 0, 7), (11, 11, 0, 7)] I0 I1 ∧ dkOk I1 ∧ ((dkN [(-1000001, -1000001)] r ∧ dkN [(-2147483648, -1)] p0 ∧ p0.toInt + 1 ≤ (0 : Int) ∧ r = (-1000001) ∧ I1 10  = I0 10 ∧ I1 11  = I0 11 ∧ True) ∨ (dkN [(-1000001, -1000001)] r ∧ dkN [(8, 2147483647)] p0 ∧ (0 : Int) + 0 ≤ p0.toInt ∧ (7 : Int) + 1 ≤ p0.toInt ∧ r = (-1000001) ∧ I1 10  = I0 10 ∧ I1 11  = I0 11 ∧ True) ∨ (dkN [(-1000001, -1000001)] r ∧ dkN [(0, 7)] p0 ∧ dkN [(-2147483648, -1)] p1 ∧ (0 : Int) + 0 ≤ p0.toInt ∧ p0.toInt + 0 ≤ (7 : Int) ∧ p1.toInt + 1 ≤ (0 : Int) ∧ r = (-1000001) ∧ I1 10  = I0 10 ∧ I1 11  = I0 11 ∧ True) ∨ (dkN [(-1000001, -1000001)] r ∧ dkN [(0, 7)] p0 ∧ dkN [(3, 2147483647)] p1 ∧ (0 : Int) + 0 ≤ p0.toInt ∧ p0.toInt + 0 ≤ (7 : Int) ∧ (0 : Int) + 0 ≤ p1.toInt ∧ (2 : Int) + 1 ≤ p1.toInt ∧ r = (-1000001) ∧ I1 10  = I0 10 ∧ I1 11  = I0 11 ∧ True) ∨ (dkN [(-1000014, -1000014)] r ∧ dkN [(0, 7)] p0 ∧ dkN [(0, 2)] p1 ∧ dkN [(-2147483648, -1)] p2 ∧ dkN [(4, 4)] (I1 0 3) ∧ (0 : Int) + 0 ≤ p0.toInt ∧ p0.toInt + 0 ≤ (7 : Int) ∧ (0 : Int) + 0 ≤ p1.toInt ∧ p1.toInt + 0 ≤ (2 : Int) ∧ p2.toInt + 0 ≤ (40 : Int) ∧ p2.toInt + 1 ≤ (0 : Int) ∧ ((-1000010 : Int32) - (4 : Int32)).toInt = (-1000010 : Int) - (4 : Int) ∧ r = (-1000010 : Int32) - (4 : Int32) ∧ I1 10  = I0 10 ∧ I1 11  = I0 11 ∧ True) ∨ (dkN [(-1000001, -1000001)] r ∧ dkN [(0, 7)] p0 ∧ dkN [(0, 2)] p1 ∧ dkN [(41, 2147483647)] p2 ∧ (0 : Int) + 0 ≤ p0.toInt ∧ p0.toInt + 0 ≤ (7 : Int) ∧ (0 : Int) + 0 ≤ p1.toInt ∧ p1.toInt + 0 ≤ (2 : Int) ∧ (40 : Int) + 1 ≤ p2.toInt ∧ r = (-1000001) ∧ I1 10  = I0 10 ∧ I1 11  = I0 11 ∧ True) ∨ (True ∧ dkN [(0, 7)] p0 ∧ dkN [(0, 2)] p1 ∧ dkN [(0, 40)] p2 ∧ dkN [(0, 0)] (I1 0 3) ∧ (0 : Int) + 0 ≤ p0.toInt ∧ p0.toInt + 0 ≤ (7 : Int) ∧ (0 : Int) + 0 ≤ p1.toInt ∧ p1.toInt + 0 ≤ (2 : Int) ∧ p2.toInt + 0 ≤ (40 : Int) ∧ (0 : Int) + 0 ≤ p2.toInt ∧ r = p2 ∧ I1 10  = dkV (I0 10) (Int32.toNatClampNeg p0) p1 ∧ I1 11  = dkV (I0 11) (Int32.toNatClampNeg p0) p2 ∧ True)))) 0 0 (dkA z) := by
  refine Met.ofW (cc := cX5_row) (maxL := 5) (ret := (some .int)) (by decide) rfl ?_
  intro p e s m args below meth c s₁ B hml hv
  obtain ⟨ha, hW, hK, hT⟩ := hv
  have hx := B.exec
  have hb := B.bytes
  have hr := B.returns
  have hts := atoms_spec (ws := wsX5_row) B.pre
  have hown : s.vm.findClass RX5 = some m.cls := findClass_of_methodNamed B.named
  have hlocks := B.notSynchronized
  have hS : va_S (dkA z) s.heap s.heap [] := va_S.rf
  have hF : dkF [(2, 9, 0, 2147483647), (0, 0, 3, 3), (10, 10, 0, 7), (11, 11, 0, 7)] I0 I0 := dkF_rf _ _
  have hl := lv_entry ([.ref (z + 0), .int p0, .int p1, .int p2]) (n := 5) (Nat.le_of_ble_eq_true rfl)
  have hgo : entryFrame m args 5 = entryFrame m ([.ref (z + 0), .int p0, .int p1, .int p2] : List Value).toArray 5 := by rw [ha]
  rw [hgo, lg_entry_eq]
  generalize (lg_sl ([.ref (z + 0), .int p0, .int p1, .int p2]) ++ List.replicate (5 - (lg_sl ([.ref (z + 0), .int p0, .int p1, .int p2])).length) Slot.unset).toArray = ls at hl ⊢
  have hl : lv_has ls 5 [(0, .ref (z + 0)), (1, .int p0), (2, .int p1), (3, .int p2)] := hl
  have C37 : ∀ (n : Nat), ∀ (I : dkI) (H : Heap) (locs : List Loc) (ls : Array Slot) (x37_4 : Int32), (40 - x37_4.toInt).toNat < n → dkW g z I H → va_S (dkA z) s.heap H locs → dkF [(2, 9, 0, 2147483647), (0, 0, 3, 3), (10, 10, 0, 7), (11, 11, 0, 7)] I0 I → dkOk I → dkN [(0, 40)] x37_4 → dkN [(0, 7)] p0 → dkN [(0, 2)] p1 → dkN [(0, 40)] p2 → I 10 = I0 10 → I 11 = I0 11 → (0 : Int) + 0 ≤ p0.toInt → p0.toInt + 0 ≤ (7 : Int) → (0 : Int) + 0 ≤ p1.toInt → p1.toInt + 0 ≤ (2 : Int) → p2.toInt + 0 ≤ (40 : Int) → (0 : Int) + 0 ≤ p2.toInt → lv_has ls 5 [(0, .ref (z + 0)), (1, .int p0), (2, .int p1), (3, .int p2), (4, .int x37_4)] → W p l e (headSpec wsX5_row (dkR 2)).room s m args below meth c H locs 0 0 (MQ below (dkQi g z (fun r I1 => dkF [(2, 9, 0, 2147483647), (0, 0, 3, 3), (10, 10, 0, 7), (11, 11, 0, 7)] I0 I1 ∧ dkOk I1 ∧ ((dkN [(-1000001, -1000001)] r ∧ dkN [(-2147483648, -1)] p0 ∧ p0.toInt + 1 ≤ (0 : Int) ∧ r = (-1000001) ∧ I1 10  = I0 10 ∧ I1 11  = I0 11 ∧ True) ∨ (dkN [(-1000001, -1000001)] r ∧ dkN [(8, 2147483647)] p0 ∧ (0 : Int) + 0 ≤ p0.toInt ∧ (7 : Int) + 1 ≤ p0.toInt ∧ r = (-1000001) ∧ I1 10  = I0 10 ∧ I1 11  = I0 11 ∧ True) ∨ (dkN [(-1000001, -1000001)] r ∧ dkN [(0, 7)] p0 ∧ dkN [(-2147483648, -1)] p1 ∧ (0 : Int) + 0 ≤ p0.toInt ∧ p0.toInt + 0 ≤ (7 : Int) ∧ p1.toInt + 1 ≤ (0 : Int) ∧ r = (-1000001) ∧ I1 10  = I0 10 ∧ I1 11  = I0 11 ∧ True) ∨ (dkN [(-1000001, -1000001)] r ∧ dkN [(0, 7)] p0 ∧ dkN [(3, 2147483647)] p1 ∧ (0 : Int) + 0 ≤ p0.toInt ∧ p0.toInt + 0 ≤ (7 : Int) ∧ (0 : Int) + 0 ≤ p1.toInt ∧ (2 : Int) + 1 ≤ p1.toInt ∧ r = (-1000001) ∧ I1 10  = I0 10 ∧ I1 11  = I0 11 ∧ True) ∨ (dkN [(-1000014, -1000014)] r ∧ dkN [(0, 7)] p0 ∧ dkN [(0, 2)] p1 ∧ dkN [(-2147483648, -1)] p2 ∧ dkN [(4, 4)] (I1 0 3) ∧ (0 : Int) + 0 ≤ p0.toInt ∧ p0.toInt + 0 ≤ (7 : Int) ∧ (0 : Int) + 0 ≤ p1.toInt ∧ p1.toInt + 0 ≤ (2 : Int) ∧ p2.toInt + 0 ≤ (40 : Int) ∧ p2.toInt + 1 ≤ (0 : Int) ∧ ((-1000010 : Int32) - (4 : Int32)).toInt = (-1000010 : Int) - (4 : Int) ∧ r = (-1000010 : Int32) - (4 : Int32) ∧ I1 10  = I0 10 ∧ I1 11  = I0 11 ∧ True) ∨ (dkN [(-1000001, -1000001)] r ∧ dkN [(0, 7)] p0 ∧ dkN [(0, 2)] p1 ∧ dkN [(41, 2147483647)] p2 ∧ (0 : Int) + 0 ≤ p0.toInt ∧ p0.toInt + 0 ≤ (7 : Int) ∧ (0 : Int) + 0 ≤ p1.toInt ∧ p1.toInt + 0 ≤ (2 : Int) ∧ (40 : Int) + 1 ≤ p2.toInt ∧ r = (-1000001) ∧ I1 10  = I0 10 ∧ I1 11  = I0 11 ∧ True) ∨ (True ∧ dkN [(0, 7)] p0 ∧ dkN [(0, 2)] p1 ∧ dkN [(0, 40)] p2 ∧ dkN [(0, 0)] (I1 0 3) ∧ (0 : Int) + 0 ≤ p0.toInt ∧ p0.toInt + 0 ≤ (7 : Int) ∧ (0 : Int) + 0 ≤ p1.toInt ∧ p1.toInt + 0 ≤ (2 : Int) ∧ p2.toInt + 0 ≤ (40 : Int) ∧ (0 : Int) + 0 ≤ p2.toInt ∧ r = p2 ∧ I1 10  = dkV (I0 10) (Int32.toNatClampNeg p0) p1 ∧ I1 11  = dkV (I0 11) (Int32.toNatClampNeg p0) p2 ∧ True)))) args s 0 0 (dkA z)) (F0 m 37 ls []) := by
    intro n
    induction n with
    | zero => intro I H locs ls x37_4 hn; exact absurd hn (Nat.not_lt_zero _)
    | succ n ih37 =>
      intro I37_ H locs ls x37_4 hn37 hW hS hF_37 hO k37_0 r37_0 r37_1 r37_2 z37_0 z37_1 y37_0 y37_1 y37_2 y37_3 y37_4 y37_5 hl
      have hF := hF_37
      refine lv_iload hx hb dX5_row_37 (lv_at hl 4 rfl) ?_
      refine lv_iload_n hx hb dX5_row_39 rfl (lv_at hl 3 rfl) ?_
      refine lv_icmp_ge (tgt := 59) hx hb dX5_row_40 (by decide) (fun c1 => ?_) (fun c1 => ?_)
      ·
        refine lv_aload_n hx hb dX5_row_59 rfl (lv_at hl 0 rfl) ?_
        refine dk_get (k := 0) hx hb hts iX5_row_5 hown hK (dk_at0 hW) rfl 1 (by decide) (hts (.fieldLink RX5 14 "DogKings" "lanes" "[I") (List.mem_of_getElem? (i := 3) rfl)) rfl dX5_row_60 ?_
        refine lv_iload_n hx hb dX5_row_63 rfl (lv_at hl 1 rfl) ?_
        refine lv_iload_n hx hb dX5_row_64 rfl (lv_at hl 2 rfl) ?_
        refine dk_ist (k := 10) hx hb hK hW (fun _ => rfl) (by decide) hS (dkN_in (n := 8) r37_0 rfl) dX5_row_65 (fun I2 H2 L2 eI2 hW hS => ?_)
        have hO := dkO_set hO eI2 (dkN_sub r37_1 rfl)
        have hF := dkF_set hF eI2 (dkIn_v r37_0 rfl)
        refine lv_aload_n hx hb dX5_row_66 rfl (lv_at hl 0 rfl) ?_
        refine dk_get (k := 0) hx hb hts iX5_row_5 hown hK (dk_at0 hW) rfl 2 (by decide) (hts (.fieldLink RX5 18 "DogKings" "sizes" "[I") (List.mem_of_getElem? (i := 4) rfl)) rfl dX5_row_67 ?_
        refine lv_iload_n hx hb dX5_row_70 rfl (lv_at hl 1 rfl) ?_
        refine lv_iload_n hx hb dX5_row_71 rfl (lv_at hl 3 rfl) ?_
        refine dk_ist (k := 11) hx hb hK hW (fun _ => rfl) (by decide) hS (dkN_in (n := 8) r37_0 rfl) dX5_row_72 (fun I3 H3 L3 eI3 hW hS => ?_)
        have hO := dkO_set hO eI3 (dkN_sub r37_2 rfl)
        have hF := dkF_set hF eI3 (dkIn_v r37_0 rfl)
        refine lv_aload_n hx hb dX5_row_73 rfl (lv_at hl 0 rfl) ?_
        refine lv_iload_n hx hb dX5_row_74 rfl (lv_at hl 3 rfl) ?_
        refine dk_Vi (As := [.int p2]) (rest := []) ⟨hx, hb, hml, hown, hts⟩ (f_X5_nothingFound_1 l g z I3 p2 hO) (cwV 1 hts gX5_row_X5_nothingFound rfl rfl rfl (by decide +kernel) ⟨Nat.le_of_ble_eq_true rfl, Nat.le_of_ble_eq_true rfl⟩) (dk_at0 hW) rfl hK hT hW hS rfl hl.1 rfl (Nat.le_of_ble_eq_true rfl) dX5_row_75 ⟨Nat.zero_le _, Nat.zero_le _⟩ (fun v4 I4 H4 L4 hp4 hW hS => ?_)
        obtain ⟨hF4, hO, hc4⟩ := hp4
        have hF := dkF_call hF hF4 rfl
        obtain ⟨_, f4_0_3, xr4, -⟩ := hc4
        have xv4 : v4 = p2 := by rw [xr4]
        exact W.iret (v := v4) hx hb hr (fun t ht hW9 => ⟨⟨v4, I4, rfl, ⟨hF, hO, Or.inr (Or.inr (Or.inr (Or.inr (Or.inr (Or.inr (⟨trivial, dkN_sub r37_0 rfl, dkN_sub r37_1 rfl, dkN_sub r37_2 rfl, (show dkN [(0, 0)] (I4 0 3) from dkN_sub f4_0_3 rfl), y37_0, y37_1, y37_2, y37_3, y37_4, y37_5, xv4, ((funext fun j => hF4 10 j (dkNin_k rfl dkNin_nil)).trans ((by rw [eI3, dkU_n (by decide)] : I3 10 = _).trans (by rw [eI2, dkU_s, z37_0]))), ((funext fun j => hF4 11 j (dkNin_k rfl dkNin_nil)).trans (by rw [eI3, dkU_s, ((by rw [eI2, dkU_n (by decide)] : I2 11 = _).trans z37_1)])), trivial⟩))))))⟩, dkW_eq ht hW⟩, hS.F ht⟩) hS.2.2 dX5_row_78
      ·
        have d5 : dkN [(1, 40)] p2 := dkN_le2 1 k37_0 r37_2 (dkc_nle c1) rfl
        have d6 : dkN [(0, 39)] x37_4 := dkN_le1 1 k37_0 r37_2 (dkc_nle c1) rfl
        refine lv_aload_n hx hb dX5_row_43 rfl (lv_at hl 0 rfl) ?_
        refine dk_get (k := 0) hx hb hts iX5_row_5 hown hK (dk_at0 hW) rfl 0 (by decide) (hts (.fieldLink RX5 11 "DogKings" "items" "[[I") (List.mem_of_getElem? (i := 2) rfl)) rfl dX5_row_44 ?_
        refine lv_iload_n hx hb dX5_row_47 rfl (lv_at hl 1 rfl) ?_
        obtain ⟨rf7, hrf7, erf7⟩ := dk_rowAt (z := z) (dkN_in (n := 8) r37_0 rfl)
        refine dk_rld (r := z + rf7) hx hb hK (dk_at1 hW) (dkN_in (n := 8) r37_0 rfl) erf7 dX5_row_48 ?_
        refine lv_iload hx hb dX5_row_49 (lv_at hl 4 rfl) ?_
        refine lv_iconst (v := 0) hx hb dX5_row_51 (by decide) ?_
        refine dk_ist (k := rf7) hx hb hK hW (dkC_R g z hrf7) (by omega) hS (dkN_in (n := 40) d6 rfl) dX5_row_52 (fun I8 H8 L8 eI8 hW hS => ?_)
        have hO := dkO_setR hO hrf7 eI8
        have hF := dkF_set hF eI8 (dkIn_R hrf7 (dk_clt _) rfl)
        obtain ⟨v9, ev9⟩ : ∃ y : Int32, y = x37_4 + 1 := ⟨_, rfl⟩
        have dv9 : dkN [(1, 40)] v9 := by rw [ev9]; exact dkN_add d6 (dkN_lit (x := 1) (1) rfl) rfl
        refine lv_iinc (v := v9) (lv' := [(4, .int v9), (0, .ref (z + 0)), (1, .int p0), (2, .int p1), (3, .int p2)]) hx hb dX5_row_53 hl (k := 4) rfl (by rw [ev9]; rfl) (by decide) rfl (fun ls hl => ?_)
        refine lv_goto (tgt := 37) hx hb dX5_row_56 (by decide) ?_
        exact ih37 I8 _ _ ls v9 (dk_near hn37 (by rw [ev9]; exact dk_inc d6 rfl) (dkN_lt d6 rfl)) hW hS hF hO (dkN_sub dv9 rfl) (dkN_sub r37_0 rfl) (dkN_sub r37_1 rfl) (dkN_sub d5 rfl) ((by rw [eI8, dkU_n (Ne.symm (by omega))] : I8 10 = _).trans z37_0) ((by rw [eI8, dkU_n (Ne.symm (by omega))] : I8 11 = _).trans z37_1) y37_0 y37_1 y37_2 y37_3 y37_4 y37_5 (lv_sub hl [1, 2, 3, 4, 0] rfl)
  refine lv_iload_n hx hb dX5_row_0 rfl (lv_at hl 1 rfl) ?_
  refine dk_Si (As := [.int p0]) (rest := []) ⟨hx, hb, hml, hown, hts⟩ (f_X5_isRow_1 l g z I0 p0 hO) (va_cwS 1 hts gX5_row_X5_isRow rfl rfl rfl (by decide +kernel) ⟨Nat.le_of_ble_eq_true rfl, Nat.le_of_ble_eq_true rfl⟩) hK hT hW hS rfl hl.1 rfl (Nat.le_of_ble_eq_true rfl) dX5_row_1 ⟨Nat.zero_le _, Nat.zero_le _⟩ (fun v10 I10 H10 L10 hp10 hW hS => ?_)
  obtain ⟨hF10, hO, hc10⟩ := hp10
  have hF := dkF_call hF hF10 rfl
  have eI10 : I0 = I10 := (dkF_nil hF10).symm
  subst eI10
  rcases hc10 with ⟨dv10, a10_0, x10_0, xr10, -⟩ | hc10
  ·
    have q11 : p0.toInt + 1 ≤ (0 : Int) := x10_0
    have xv10 : v10 = 0 := by rw [xr10]
    have d12 : dkN [(-2147483648, -1)] p0 := dkN_eq1 (dkN_top p0) a10_0 rfl rfl
    refine lv_if_eq (tgt := 21) hx hb dX5_row_4 (by decide) (fun c13 => ?_) (fun c13 => ?_)
    ·
      refine lv_ldc (v := (-1000001)) hx hb hown (hts (.constant RX5 70 (-1000001)) (List.mem_of_getElem? (i := 1) rfl)) dX5_row_21 ?_
      exact W.iret (v := (-1000001)) hx hb hr (fun t ht hW9 => ⟨⟨(-1000001), I0, rfl, ⟨hF, hO, Or.inl ⟨dkN_sub (dkN_lit (x := (-1000001)) (-1000001) rfl) rfl, dkN_sub d12 rfl, q11, rfl, rfl, rfl, trivial⟩⟩, dkW_eq ht hW⟩, hS.F ht⟩) hS.2.2 dX5_row_23
    ·
      exact (dkN_nil (show dkN [] v10 from dkN_ne1 (0) dv10 (dkN_lit (x := 0) (0) rfl) (dk_ne c13) rfl)).elim
  rcases hc10 with ⟨dv10, a10_0, x10_0, x10_1, xr10, -⟩ | hc10
  ·
    have q14 : (0 : Int) + 0 ≤ p0.toInt := x10_0
    have q15 : (7 : Int) + 1 ≤ p0.toInt := x10_1
    have xv10 : v10 = 0 := by rw [xr10]
    have d16 : dkN [(8, 2147483647)] p0 := dkN_eq1 (dkN_top p0) a10_0 rfl rfl
    refine lv_if_eq (tgt := 21) hx hb dX5_row_4 (by decide) (fun c17 => ?_) (fun c17 => ?_)
    ·
      refine lv_ldc (v := (-1000001)) hx hb hown (hts (.constant RX5 70 (-1000001)) (List.mem_of_getElem? (i := 1) rfl)) dX5_row_21 ?_
      exact W.iret (v := (-1000001)) hx hb hr (fun t ht hW9 => ⟨⟨(-1000001), I0, rfl, ⟨hF, hO, Or.inr (Or.inl ⟨dkN_sub (dkN_lit (x := (-1000001)) (-1000001) rfl) rfl, dkN_sub d16 rfl, q14, q15, rfl, rfl, rfl, trivial⟩)⟩, dkW_eq ht hW⟩, hS.F ht⟩) hS.2.2 dX5_row_23
    ·
      exact (dkN_nil (show dkN [] v10 from dkN_ne1 (0) dv10 (dkN_lit (x := 0) (0) rfl) (dk_ne c17) rfl)).elim
  ·
    obtain ⟨dv10, a10_0, x10_0, x10_1, xr10, -⟩ := hc10
    have q18 : (0 : Int) + 0 ≤ p0.toInt := x10_0
    have q19 : p0.toInt + 0 ≤ (7 : Int) := x10_1
    have xv10 : v10 = 1 := by rw [xr10]
    have d20 : dkN [(0, 7)] p0 := dkN_eq1 (dkN_top p0) a10_0 rfl rfl
    refine lv_if_eq (tgt := 21) hx hb dX5_row_4 (by decide) (fun c21 => ?_) (fun c21 => ?_)
    ·
      exact (dkN_nil (show dkN [] v10 from dkN_eq1 dv10 (dkN_lit (x := 0) (0) rfl) (congrArg Int32.toInt c21) rfl)).elim
    ·
      refine lv_iload_n hx hb dX5_row_7 rfl (lv_at hl 2 rfl) ?_
      refine lv_iconst (v := 2) hx hb dX5_row_8 (by decide) ?_
      refine dk_Si (As := [.int p1, .int 2]) (rest := []) ⟨hx, hb, hml, hown, hts⟩ (f_X5_isUpTo_9 l g z I0 p1 2 (dkN_lit (x := 2) (2) rfl) hO) (va_cwS 2 hts gX5_row_X5_isUpTo rfl rfl rfl (by decide +kernel) ⟨Nat.le_of_ble_eq_true rfl, Nat.le_of_ble_eq_true rfl⟩) hK hT hW hS rfl hl.1 rfl (Nat.le_of_ble_eq_true rfl) dX5_row_9 ⟨Nat.zero_le _, Nat.zero_le _⟩ (fun v22 I22 H22 L22 hp22 hW hS => ?_)
      obtain ⟨hF22, hO, hc22⟩ := hp22
      have hF := dkF_call hF hF22 rfl
      have eI22 : I0 = I22 := (dkF_nil hF22).symm
      subst eI22
      rcases hc22 with ⟨dv22, a22_0, x22_0, xr22, -⟩ | hc22
      ·
        have q23 : p1.toInt + 1 ≤ (0 : Int) := x22_0
        have xv22 : v22 = 0 := by rw [xr22]
        have d24 : dkN [(-2147483648, -1)] p1 := dkN_eq1 (dkN_top p1) a22_0 rfl rfl
        refine lv_if_eq (tgt := 21) hx hb dX5_row_12 (by decide) (fun c25 => ?_) (fun c25 => ?_)
        ·
          refine lv_ldc (v := (-1000001)) hx hb hown (hts (.constant RX5 70 (-1000001)) (List.mem_of_getElem? (i := 1) rfl)) dX5_row_21 ?_
          exact W.iret (v := (-1000001)) hx hb hr (fun t ht hW9 => ⟨⟨(-1000001), I0, rfl, ⟨hF, hO, Or.inr (Or.inr (Or.inl ⟨dkN_sub (dkN_lit (x := (-1000001)) (-1000001) rfl) rfl, dkN_sub d20 rfl, dkN_sub d24 rfl, q18, q19, q23, rfl, rfl, rfl, trivial⟩))⟩, dkW_eq ht hW⟩, hS.F ht⟩) hS.2.2 dX5_row_23
        ·
          exact (dkN_nil (show dkN [] v22 from dkN_ne1 (0) dv22 (dkN_lit (x := 0) (0) rfl) (dk_ne c25) rfl)).elim
      rcases hc22 with ⟨dv22, a22_0, x22_0, x22_1, xr22, -⟩ | hc22
      ·
        have q26 : (0 : Int) + 0 ≤ p1.toInt := x22_0
        have q27 : (2 : Int) + 1 ≤ p1.toInt := x22_1
        have xv22 : v22 = 0 := by rw [xr22]
        have d28 : dkN [(3, 2147483647)] p1 := dkN_eq1 (dkN_top p1) a22_0 rfl rfl
        refine lv_if_eq (tgt := 21) hx hb dX5_row_12 (by decide) (fun c29 => ?_) (fun c29 => ?_)
        ·
          refine lv_ldc (v := (-1000001)) hx hb hown (hts (.constant RX5 70 (-1000001)) (List.mem_of_getElem? (i := 1) rfl)) dX5_row_21 ?_
          exact W.iret (v := (-1000001)) hx hb hr (fun t ht hW9 => ⟨⟨(-1000001), I0, rfl, ⟨hF, hO, Or.inr (Or.inr (Or.inr (Or.inl ⟨dkN_sub (dkN_lit (x := (-1000001)) (-1000001) rfl) rfl, dkN_sub d20 rfl, dkN_sub d28 rfl, q18, q19, q26, q27, rfl, rfl, rfl, trivial⟩)))⟩, dkW_eq ht hW⟩, hS.F ht⟩) hS.2.2 dX5_row_23
        ·
          exact (dkN_nil (show dkN [] v22 from dkN_ne1 (0) dv22 (dkN_lit (x := 0) (0) rfl) (dk_ne c29) rfl)).elim
      ·
        obtain ⟨dv22, a22_0, x22_0, x22_1, xr22, -⟩ := hc22
        have q30 : (0 : Int) + 0 ≤ p1.toInt := x22_0
        have q31 : p1.toInt + 0 ≤ (2 : Int) := x22_1
        have xv22 : v22 = 1 := by rw [xr22]
        have d32 : dkN [(0, 2)] p1 := dkN_eq1 (dkN_top p1) a22_0 rfl rfl
        refine lv_if_eq (tgt := 21) hx hb dX5_row_12 (by decide) (fun c33 => ?_) (fun c33 => ?_)
        ·
          exact (dkN_nil (show dkN [] v22 from dkN_eq1 dv22 (dkN_lit (x := 0) (0) rfl) (congrArg Int32.toInt c33) rfl)).elim
        ·
          refine lv_iload_n hx hb dX5_row_15 rfl (lv_at hl 3 rfl) ?_
          refine lv_bipush (v := 40) hx hb dX5_row_16 (by decide) ?_
          refine lv_icmp_le (tgt := 24) hx hb dX5_row_18 (by decide) (fun c34 => ?_) (fun c34 => ?_)
          ·
            have q35 : p2.toInt + 0 ≤ (40 : Int) := (dkc_le c34)
            have d36 : dkN [(-2147483648, 40)] p2 := dkN_le1 0 (dkN_top p2) (dkN_lit (x := 40) (40) rfl) (dkc_le c34) rfl
            refine lv_iload_n hx hb dX5_row_24 rfl (lv_at hl 3 rfl) ?_
            refine lv_if_ge (tgt := 34) hx hb dX5_row_25 (by decide) (fun c37 => ?_) (fun c37 => ?_)
            ·
              have q38 : (0 : Int) + 0 ≤ p2.toInt := (dkc_le c37)
              have d39 : dkN [(0, 40)] p2 := dkN_le2 0 (dkN_lit (x := 0) (0) rfl) d36 (dkc_le c37) rfl
              refine lv_iconst (v := 0) hx hb dX5_row_34 (by decide) ?_
              refine lv_istore (lv' := [(4, .int 0), (0, .ref (z + 0)), (1, .int p0), (2, .int p1), (3, .int p2)]) hx hb dX5_row_35 hl (by decide) rfl (fun ls hl => ?_)
              exact C37 _ I0 _ _ ls 0 (Nat.lt_succ_self _) hW hS hF hO (dkN_sub (dkN_lit (x := 0) (0) rfl) rfl) (dkN_sub d20 rfl) (dkN_sub d32 rfl) (dkN_sub d39 rfl) rfl rfl q18 q19 q30 q31 q35 q38 (lv_sub hl [1, 2, 3, 4, 0] rfl)
            ·
              have q40 : p2.toInt + 1 ≤ (0 : Int) := (dkc_nle c37)
              have d41 : dkN [(-2147483648, -1)] p2 := dkN_le1 1 d36 (dkN_lit (x := 0) (0) rfl) (dkc_nle c37) rfl
              refine lv_aload_n hx hb dX5_row_28 rfl (lv_at hl 0 rfl) ?_
              refine lv_iconst (v := 4) hx hb dX5_row_29 (by decide) ?_
              refine dk_Vi (As := [.int 4]) (rest := []) ⟨hx, hb, hml, hown, hts⟩ (f_X5_found_5 l g z I0 4 (dkN_lit (x := 4) (4) rfl) hO) (cwV 1 hts gX5_row_X5_found rfl rfl rfl (by decide +kernel) ⟨Nat.le_of_ble_eq_true rfl, Nat.le_of_ble_eq_true rfl⟩) (dk_at0 hW) rfl hK hT hW hS rfl hl.1 rfl (Nat.le_of_ble_eq_true rfl) dX5_row_30 ⟨Nat.zero_le _, Nat.zero_le _⟩ (fun v42 I42 H42 L42 hp42 hW hS => ?_)
              obtain ⟨hF42, hO, hc42⟩ := hp42
              have hF := dkF_call hF hF42 rfl
              obtain ⟨dv42, f42_0_3, x42_0, xr42, -⟩ := hc42
              have q43 : ((-1000010 : Int32) - (4 : Int32)).toInt = (-1000010 : Int) - (4 : Int) := x42_0
              have xv42 : v42 = (-1000010 : Int32) - (4 : Int32) := by rw [xr42]
              exact W.iret (v := v42) hx hb hr (fun t ht hW9 => ⟨⟨v42, I42, rfl, ⟨hF, hO, Or.inr (Or.inr (Or.inr (Or.inr (Or.inl ⟨dkN_sub dv42 rfl, dkN_sub d20 rfl, dkN_sub d32 rfl, dkN_sub d41 rfl, (show dkN [(4, 4)] (I42 0 3) from dkN_sub f42_0_3 rfl), q18, q19, q30, q31, q35, q40, q43, xv42, ((funext fun j => hF42 10 j (dkNin_k rfl dkNin_nil)).trans rfl), ((funext fun j => hF42 11 j (dkNin_k rfl dkNin_nil)).trans rfl), trivial⟩))))⟩, dkW_eq ht hW⟩, hS.F ht⟩) hS.2.2 dX5_row_33
          ·
            have q44 : (40 : Int) + 1 ≤ p2.toInt := (dkc_nle c34)
            have d45 : dkN [(41, 2147483647)] p2 := dkN_le2 1 (dkN_lit (x := 40) (40) rfl) (dkN_top p2) (dkc_nle c34) rfl
            refine lv_ldc (v := (-1000001)) hx hb hown (hts (.constant RX5 70 (-1000001)) (List.mem_of_getElem? (i := 1) rfl)) dX5_row_21 ?_
            exact W.iret (v := (-1000001)) hx hb hr (fun t ht hW9 => ⟨⟨(-1000001), I0, rfl, ⟨hF, hO, Or.inr (Or.inr (Or.inr (Or.inr (Or.inr (Or.inl ⟨dkN_sub (dkN_lit (x := (-1000001)) (-1000001) rfl) rfl, dkN_sub d20 rfl, dkN_sub d32 rfl, dkN_sub d45 rfl, q18, q19, q30, q31, q44, rfl, rfl, rfl, trivial⟩)))))⟩, dkW_eq ht hW⟩, hS.F ht⟩) hS.2.2 dX5_row_23
set_option maxHeartbeats 4000000 in
set_option maxRecDepth 100000 in
theorem f_X6_in_22 (l : Launch) (g : dkG) (z : Nat) (I0 : dkI) (p0 : Int32) (p1 : Int32) (p2 : Int32) (dp1 : dkN [(0, 0)] p1) (dp2 : dkN [(7, 7)] p2)  (hO : dkOk I0) : Met l yX6_in wsX6_in (dkR 0) (dkPc g z [.int p0, .int p1, .int p2] I0) (dkQi g z (fun r I1 => dkF [] I0 I1 ∧ dkOk I1 ∧ ((dkN [(0, 0)] r ∧ dkN [(-2147483648, -1)] p0 ∧ p0.toInt + 1 ≤ p1.toInt ∧ r = 0 ∧ True) ∨ (dkN [(0, 0)] r ∧ dkN [(8, 2147483647)] p0 ∧ p1.toInt + 0 ≤ p0.toInt ∧ p2.toInt + 1 ≤ p0.toInt ∧ r = 0 ∧ True) ∨ (dkN [(1, 1)] r ∧ dkN [(0, 7)] p0 ∧ p1.toInt + 0 ≤ p0.toInt ∧ p0.toInt + 0 ≤ p2.toInt ∧ r = 1 ∧ True)))) 0 0 (dkA z) := by
  refine Met.ofW (cc := cX6_in) (maxL := 3) (ret := (some .boolean)) (by decide) rfl ?_
  intro p e s m args below meth c s₁ B hml hv
  obtain ⟨ha, hW, hK, hT⟩ := hv
  have hx := B.exec
  have hb := B.bytes
  have hr := B.returns
  have hts := atoms_spec (ws := wsX6_in) B.pre
  have hown : s.vm.findClass RX6 = some m.cls := findClass_of_methodNamed B.named
  have hlocks := B.notSynchronized
  have hS : va_S (dkA z) s.heap s.heap [] := va_S.rf
  have hF : dkF [] I0 I0 := dkF_rf _ _
  have hl := lv_entry ([.int p0, .int p1, .int p2]) (n := 3) (Nat.le_of_ble_eq_true rfl)
  have hgo : entryFrame m args 3 = entryFrame m ([.int p0, .int p1, .int p2] : List Value).toArray 3 := by rw [ha]
  rw [hgo, lg_entry_eq]
  generalize (lg_sl ([.int p0, .int p1, .int p2]) ++ List.replicate (3 - (lg_sl ([.int p0, .int p1, .int p2])).length) Slot.unset).toArray = ls at hl ⊢
  have hl : lv_has ls 3 [(0, .int p0), (1, .int p1), (2, .int p2)] := hl
  refine lv_iload_n hx hb dX6_in_0 rfl (lv_at hl 0 rfl) ?_
  refine lv_iload_n hx hb dX6_in_1 rfl (lv_at hl 1 rfl) ?_
  refine lv_icmp_lt (tgt := 14) hx hb dX6_in_2 (by decide) (fun c1 => ?_) (fun c1 => ?_)
  ·
    have q2 : p0.toInt + 1 ≤ p1.toInt := (dkc_lt c1)
    have d3 : dkN [(-2147483648, -1)] p0 := dkN_le1 1 (dkN_top p0) dp1 (dkc_lt c1) rfl
    refine lv_iconst (v := 0) hx hb dX6_in_14 (by decide) ?_
    exact W.zret (v := 0) (ty := .boolean) hx hb hr rfl (fun t ht hW9 => ⟨⟨0, I0, rfl, ⟨hF, hO, Or.inl ⟨dkN_sub (dkN_lit (x := 0) (0) rfl) rfl, dkN_sub d3 rfl, q2, rfl, trivial⟩⟩, dkW_eq ht hW⟩, hS.F ht⟩) hS.2.2 dX6_in_15
  ·
    have q4 : p1.toInt + 0 ≤ p0.toInt := (dkc_nlt c1)
    have d5 : dkN [(0, 2147483647)] p0 := dkN_le2 0 dp1 (dkN_top p0) (dkc_nlt c1) rfl
    refine lv_iload_n hx hb dX6_in_5 rfl (lv_at hl 0 rfl) ?_
    refine lv_iload_n hx hb dX6_in_6 rfl (lv_at hl 2 rfl) ?_
    refine lv_icmp_gt (tgt := 14) hx hb dX6_in_7 (by decide) (fun c6 => ?_) (fun c6 => ?_)
    ·
      have q7 : p2.toInt + 1 ≤ p0.toInt := (dkc_lt c6)
      have d8 : dkN [(8, 2147483647)] p0 := dkN_le2 1 dp2 d5 (dkc_lt c6) rfl
      refine lv_iconst (v := 0) hx hb dX6_in_14 (by decide) ?_
      exact W.zret (v := 0) (ty := .boolean) hx hb hr rfl (fun t ht hW9 => ⟨⟨0, I0, rfl, ⟨hF, hO, Or.inr (Or.inl ⟨dkN_sub (dkN_lit (x := 0) (0) rfl) rfl, dkN_sub d8 rfl, q4, q7, rfl, trivial⟩)⟩, dkW_eq ht hW⟩, hS.F ht⟩) hS.2.2 dX6_in_15
    ·
      have q9 : p0.toInt + 0 ≤ p2.toInt := (dkc_nlt c6)
      have d10 : dkN [(0, 7)] p0 := dkN_le1 0 d5 dp2 (dkc_nlt c6) rfl
      refine lv_iconst (v := 1) hx hb dX6_in_10 (by decide) ?_
      refine lv_goto (tgt := 15) hx hb dX6_in_11 (by decide) ?_
      exact W.zret (v := 1) (ty := .boolean) hx hb hr rfl (fun t ht hW9 => ⟨⟨1, I0, rfl, ⟨hF, hO, Or.inr (Or.inr (⟨dkN_sub (dkN_lit (x := 1) (1) rfl) rfl, dkN_sub d10 rfl, q4, q9, rfl, trivial⟩))⟩, dkW_eq ht hW⟩, hS.F ht⟩) hS.2.2 dX6_in_15
set_option maxHeartbeats 4000000 in
set_option maxRecDepth 100000 in
theorem f_X6_isRow_1 (l : Launch) (g : dkG) (z : Nat) (I0 : dkI) (p0 : Int32)  (hO : dkOk I0) : Met l yX6_isRow wsX6_isRow (dkR 1) (dkPc g z [.int p0] I0) (dkQi g z (fun r I1 => dkF [] I0 I1 ∧ dkOk I1 ∧ ((dkN [(0, 0)] r ∧ dkN [(-2147483648, -1)] p0 ∧ p0.toInt + 1 ≤ (0 : Int) ∧ r = 0 ∧ True) ∨ (dkN [(0, 0)] r ∧ dkN [(8, 2147483647)] p0 ∧ (0 : Int) + 0 ≤ p0.toInt ∧ (7 : Int) + 1 ≤ p0.toInt ∧ r = 0 ∧ True) ∨ (dkN [(1, 1)] r ∧ dkN [(0, 7)] p0 ∧ (0 : Int) + 0 ≤ p0.toInt ∧ p0.toInt + 0 ≤ (7 : Int) ∧ r = 1 ∧ True)))) 0 0 (dkA z) := by
  refine Met.ofW (cc := cX6_isRow) (maxL := 1) (ret := (some .boolean)) (by decide) rfl ?_
  intro p e s m args below meth c s₁ B hml hv
  obtain ⟨ha, hW, hK, hT⟩ := hv
  have hx := B.exec
  have hb := B.bytes
  have hr := B.returns
  have hts := atoms_spec (ws := wsX6_isRow) B.pre
  have hown : s.vm.findClass RX6 = some m.cls := findClass_of_methodNamed B.named
  have hlocks := B.notSynchronized
  have hS : va_S (dkA z) s.heap s.heap [] := va_S.rf
  have hF : dkF [] I0 I0 := dkF_rf _ _
  have hl := lv_entry ([.int p0]) (n := 1) (Nat.le_of_ble_eq_true rfl)
  have hgo : entryFrame m args 1 = entryFrame m ([.int p0] : List Value).toArray 1 := by rw [ha]
  rw [hgo, lg_entry_eq]
  generalize (lg_sl ([.int p0]) ++ List.replicate (1 - (lg_sl ([.int p0])).length) Slot.unset).toArray = ls at hl ⊢
  have hl : lv_has ls 1 [(0, .int p0)] := hl
  refine lv_iload_n hx hb dX6_isRow_0 rfl (lv_at hl 0 rfl) ?_
  refine lv_iconst (v := 0) hx hb dX6_isRow_1 (by decide) ?_
  refine lv_bipush (v := 7) hx hb dX6_isRow_2 (by decide) ?_
  refine dk_Si (As := [.int p0, .int 0, .int 7]) (rest := []) ⟨hx, hb, hml, hown, hts⟩ (f_X6_in_22 l g z I0 p0 0 7 (dkN_lit (x := 0) (0) rfl) (dkN_lit (x := 7) (7) rfl) hO) (va_cwS 3 hts gX6_isRow_X6_in rfl rfl rfl (by decide +kernel) ⟨Nat.le_of_ble_eq_true rfl, Nat.le_of_ble_eq_true rfl⟩) hK hT hW hS rfl hl.1 rfl (Nat.le_of_ble_eq_true rfl) dX6_isRow_4 ⟨Nat.zero_le _, Nat.zero_le _⟩ (fun v1 I1 H1 L1 hp1 hW hS => ?_)
  obtain ⟨hF1, hO, hc1⟩ := hp1
  have hF := dkF_call hF hF1 rfl
  have eI1 : I0 = I1 := (dkF_nil hF1).symm
  subst eI1
  rcases hc1 with ⟨dv1, a1_0, x1_0, xr1, -⟩ | hc1
  ·
    have q2 : p0.toInt + 1 ≤ (0 : Int) := x1_0
    have xv1 : v1 = 0 := by rw [xr1]
    have d3 : dkN [(-2147483648, -1)] p0 := dkN_eq1 (dkN_top p0) a1_0 rfl rfl
    exact W.zret (v := v1) (ty := .boolean) hx hb hr (dkN_zr dv1 rfl) (fun t ht hW9 => ⟨⟨v1, I0, rfl, ⟨hF, hO, Or.inl ⟨dkN_sub dv1 rfl, dkN_sub d3 rfl, q2, xv1, trivial⟩⟩, dkW_eq ht hW⟩, hS.F ht⟩) hS.2.2 dX6_isRow_7
  rcases hc1 with ⟨dv1, a1_0, x1_0, x1_1, xr1, -⟩ | hc1
  ·
    have q4 : (0 : Int) + 0 ≤ p0.toInt := x1_0
    have q5 : (7 : Int) + 1 ≤ p0.toInt := x1_1
    have xv1 : v1 = 0 := by rw [xr1]
    have d6 : dkN [(8, 2147483647)] p0 := dkN_eq1 (dkN_top p0) a1_0 rfl rfl
    exact W.zret (v := v1) (ty := .boolean) hx hb hr (dkN_zr dv1 rfl) (fun t ht hW9 => ⟨⟨v1, I0, rfl, ⟨hF, hO, Or.inr (Or.inl ⟨dkN_sub dv1 rfl, dkN_sub d6 rfl, q4, q5, xv1, trivial⟩)⟩, dkW_eq ht hW⟩, hS.F ht⟩) hS.2.2 dX6_isRow_7
  ·
    obtain ⟨dv1, a1_0, x1_0, x1_1, xr1, -⟩ := hc1
    have q7 : (0 : Int) + 0 ≤ p0.toInt := x1_0
    have q8 : p0.toInt + 0 ≤ (7 : Int) := x1_1
    have xv1 : v1 = 1 := by rw [xr1]
    have d9 : dkN [(0, 7)] p0 := dkN_eq1 (dkN_top p0) a1_0 rfl rfl
    exact W.zret (v := v1) (ty := .boolean) hx hb hr (dkN_zr dv1 rfl) (fun t ht hW9 => ⟨⟨v1, I0, rfl, ⟨hF, hO, Or.inr (Or.inr (⟨dkN_sub dv1 rfl, dkN_sub d9 rfl, q7, q8, xv1, trivial⟩))⟩, dkW_eq ht hW⟩, hS.F ht⟩) hS.2.2 dX6_isRow_7
set_option maxHeartbeats 4000000 in
set_option maxRecDepth 100000 in
theorem f_X6_in_23 (l : Launch) (g : dkG) (z : Nat) (I0 : dkI) (p0 : Int32) (p1 : Int32) (p2 : Int32) (dp1 : dkN [(0, 0)] p1) (dp2 : dkN [(2, 2)] p2)  (hO : dkOk I0) : Met l yX6_in wsX6_in (dkR 0) (dkPc g z [.int p0, .int p1, .int p2] I0) (dkQi g z (fun r I1 => dkF [] I0 I1 ∧ dkOk I1 ∧ ((dkN [(0, 0)] r ∧ dkN [(-2147483648, -1)] p0 ∧ p0.toInt + 1 ≤ p1.toInt ∧ r = 0 ∧ True) ∨ (dkN [(0, 0)] r ∧ dkN [(3, 2147483647)] p0 ∧ p1.toInt + 0 ≤ p0.toInt ∧ p2.toInt + 1 ≤ p0.toInt ∧ r = 0 ∧ True) ∨ (dkN [(1, 1)] r ∧ dkN [(0, 2)] p0 ∧ p1.toInt + 0 ≤ p0.toInt ∧ p0.toInt + 0 ≤ p2.toInt ∧ r = 1 ∧ True)))) 0 0 (dkA z) := by
  refine Met.ofW (cc := cX6_in) (maxL := 3) (ret := (some .boolean)) (by decide) rfl ?_
  intro p e s m args below meth c s₁ B hml hv
  obtain ⟨ha, hW, hK, hT⟩ := hv
  have hx := B.exec
  have hb := B.bytes
  have hr := B.returns
  have hts := atoms_spec (ws := wsX6_in) B.pre
  have hown : s.vm.findClass RX6 = some m.cls := findClass_of_methodNamed B.named
  have hlocks := B.notSynchronized
  have hS : va_S (dkA z) s.heap s.heap [] := va_S.rf
  have hF : dkF [] I0 I0 := dkF_rf _ _
  have hl := lv_entry ([.int p0, .int p1, .int p2]) (n := 3) (Nat.le_of_ble_eq_true rfl)
  have hgo : entryFrame m args 3 = entryFrame m ([.int p0, .int p1, .int p2] : List Value).toArray 3 := by rw [ha]
  rw [hgo, lg_entry_eq]
  generalize (lg_sl ([.int p0, .int p1, .int p2]) ++ List.replicate (3 - (lg_sl ([.int p0, .int p1, .int p2])).length) Slot.unset).toArray = ls at hl ⊢
  have hl : lv_has ls 3 [(0, .int p0), (1, .int p1), (2, .int p2)] := hl
  refine lv_iload_n hx hb dX6_in_0 rfl (lv_at hl 0 rfl) ?_
  refine lv_iload_n hx hb dX6_in_1 rfl (lv_at hl 1 rfl) ?_
  refine lv_icmp_lt (tgt := 14) hx hb dX6_in_2 (by decide) (fun c1 => ?_) (fun c1 => ?_)
  ·
    have q2 : p0.toInt + 1 ≤ p1.toInt := (dkc_lt c1)
    have d3 : dkN [(-2147483648, -1)] p0 := dkN_le1 1 (dkN_top p0) dp1 (dkc_lt c1) rfl
    refine lv_iconst (v := 0) hx hb dX6_in_14 (by decide) ?_
    exact W.zret (v := 0) (ty := .boolean) hx hb hr rfl (fun t ht hW9 => ⟨⟨0, I0, rfl, ⟨hF, hO, Or.inl ⟨dkN_sub (dkN_lit (x := 0) (0) rfl) rfl, dkN_sub d3 rfl, q2, rfl, trivial⟩⟩, dkW_eq ht hW⟩, hS.F ht⟩) hS.2.2 dX6_in_15
  ·
    have q4 : p1.toInt + 0 ≤ p0.toInt := (dkc_nlt c1)
    have d5 : dkN [(0, 2147483647)] p0 := dkN_le2 0 dp1 (dkN_top p0) (dkc_nlt c1) rfl
    refine lv_iload_n hx hb dX6_in_5 rfl (lv_at hl 0 rfl) ?_
    refine lv_iload_n hx hb dX6_in_6 rfl (lv_at hl 2 rfl) ?_
    refine lv_icmp_gt (tgt := 14) hx hb dX6_in_7 (by decide) (fun c6 => ?_) (fun c6 => ?_)
    ·
      have q7 : p2.toInt + 1 ≤ p0.toInt := (dkc_lt c6)
      have d8 : dkN [(3, 2147483647)] p0 := dkN_le2 1 dp2 d5 (dkc_lt c6) rfl
      refine lv_iconst (v := 0) hx hb dX6_in_14 (by decide) ?_
      exact W.zret (v := 0) (ty := .boolean) hx hb hr rfl (fun t ht hW9 => ⟨⟨0, I0, rfl, ⟨hF, hO, Or.inr (Or.inl ⟨dkN_sub (dkN_lit (x := 0) (0) rfl) rfl, dkN_sub d8 rfl, q4, q7, rfl, trivial⟩)⟩, dkW_eq ht hW⟩, hS.F ht⟩) hS.2.2 dX6_in_15
    ·
      have q9 : p0.toInt + 0 ≤ p2.toInt := (dkc_nlt c6)
      have d10 : dkN [(0, 2)] p0 := dkN_le1 0 d5 dp2 (dkc_nlt c6) rfl
      refine lv_iconst (v := 1) hx hb dX6_in_10 (by decide) ?_
      refine lv_goto (tgt := 15) hx hb dX6_in_11 (by decide) ?_
      exact W.zret (v := 1) (ty := .boolean) hx hb hr rfl (fun t ht hW9 => ⟨⟨1, I0, rfl, ⟨hF, hO, Or.inr (Or.inr (⟨dkN_sub (dkN_lit (x := 1) (1) rfl) rfl, dkN_sub d10 rfl, q4, q9, rfl, trivial⟩))⟩, dkW_eq ht hW⟩, hS.F ht⟩) hS.2.2 dX6_in_15
set_option maxHeartbeats 4000000 in
set_option maxRecDepth 100000 in
theorem f_X6_found_5 (l : Launch) (g : dkG) (z : Nat) (I0 : dkI) (p0 : Int32) (dp0 : dkN [(4, 4)] p0)  (hO : dkOk I0) : Met l yX6_found wsX6_found (dkR 0) (dkPc g z [.ref (z + 340), .int p0] I0) (dkQi g z (fun r I1 => dkF [(340, 340, 4, 4)] I0 I1 ∧ dkOk I1 ∧ ((dkN [(-1000014, -1000014)] r ∧ dkN [(4, 4)] (I1 340 4) ∧ ((-1000010 : Int32) - p0).toInt = (-1000010 : Int) - p0.toInt ∧ r = (-1000010 : Int32) - p0 ∧ True)))) 0 0 (dkA z) := by
  refine Met.ofW (cc := cX6_found) (maxL := 2) (ret := (some .int)) (by decide) rfl ?_
  intro p e s m args below meth c s₁ B hml hv
  obtain ⟨ha, hW, hK, hT⟩ := hv
  have hx := B.exec
  have hb := B.bytes
  have hr := B.returns
  have hts := atoms_spec (ws := wsX6_found) B.pre
  have hown : s.vm.findClass RX6 = some m.cls := findClass_of_methodNamed B.named
  have hlocks := B.notSynchronized
  have hS : va_S (dkA z) s.heap s.heap [] := va_S.rf
  have hF : dkF [(340, 340, 4, 4)] I0 I0 := dkF_rf _ _
  have hl := lv_entry ([.ref (z + 340), .int p0]) (n := 2) (Nat.le_of_ble_eq_true rfl)
  have hgo : entryFrame m args 2 = entryFrame m ([.ref (z + 340), .int p0] : List Value).toArray 2 := by rw [ha]
  rw [hgo, lg_entry_eq]
  generalize (lg_sl ([.ref (z + 340), .int p0]) ++ List.replicate (2 - (lg_sl ([.ref (z + 340), .int p0])).length) Slot.unset).toArray = ls at hl ⊢
  have hl : lv_has ls 2 [(0, .ref (z + 340)), (1, .int p0)] := hl
  refine lv_aload_n hx hb dX6_found_0 rfl (lv_at hl 0 rfl) ?_
  refine lv_iload_n hx hb dX6_found_1 rfl (lv_at hl 1 rfl) ?_
  refine dk_put (k := 340) hx hb hts iX6_found_6 tyX6 tyX6_ok nmX6 hown hK hW (dk_at340 hW) hS rfl 4 (by decide) (hts (.fieldLink RX6 51 "DogKingsModel" "status" "I") (List.mem_of_getElem? (i := 1) rfl)) rfl rfl (Nat.le_of_ble_eq_true rfl) rfl dX6_found_2 (fun I1 H1 L1 eI1 hW hS => ?_)
  have eI1 : I1 = dkU I0 340 4 p0 := eI1
  have hO := dkO_set hO eI1 (dkN_sub dp0 rfl)
  have hF := dkF_set hF eI1 rfl
  refine lv_ldc (v := (-1000010)) hx hb hown (hts (.constant RX6 55 (-1000010)) (List.mem_of_getElem? (i := 2) rfl)) dX6_found_5 ?_
  refine lv_iload_n hx hb dX6_found_7 rfl (lv_at hl 1 rfl) ?_
  refine lv_isub hx hb dX6_found_8 ?_
  refine lv_topi (fun v2 ev2 => ?_)
  have dv2 : dkN [(-1000014, -1000014)] v2 := by rw [ev2]; exact dkN_subt (dkN_lit (x := (-1000010)) (-1000010) rfl) dp0 rfl
  have xv2 : v2 = (-1000010 : Int32) - p0 := by rw [ev2]
  have q3 : ((-1000010 : Int32) - p0).toInt = (-1000010 : Int) - p0.toInt := by rw [← xv2]; exact (by rw [ev2]; exact dk_subE (dkN_lit (x := (-1000010)) (-1000010) rfl) dp0 rfl)
  exact W.iret (v := v2) hx hb hr (fun t ht hW9 => ⟨⟨v2, I1, rfl, ⟨hF, hO, ⟨dkN_sub dv2 rfl, (show dkN [(4, 4)] (I1 340 4) from dkN_sub (by rw [eI1, dkU_ss]; exact dp0) rfl), q3, xv2, trivial⟩⟩, dkW_eq ht hW⟩, hS.F ht⟩) hS.2.2 dX6_found_9
set_option maxHeartbeats 4000000 in
set_option maxRecDepth 100000 in
theorem f_X6_well_1 (l : Launch) (g : dkG) (z : Nat) (I0 : dkI) (p0 : Int32)  (hO : dkOk I0) : Met l yX6_well wsX6_well (dkR 0) (dkPc g z [.ref (z + 340), .int p0] I0) (dkQi g z (fun r I1 => dkF [(340, 340, 4, 4)] I0 I1 ∧ dkOk I1 ∧ ((True ∧ dkN [(0, 0)] (I1 340 4) ∧ r = p0 ∧ True)))) 0 0 (dkA z) := by
  refine Met.ofW (cc := cX6_well) (maxL := 2) (ret := (some .int)) (by decide) rfl ?_
  intro p e s m args below meth c s₁ B hml hv
  obtain ⟨ha, hW, hK, hT⟩ := hv
  have hx := B.exec
  have hb := B.bytes
  have hr := B.returns
  have hts := atoms_spec (ws := wsX6_well) B.pre
  have hown : s.vm.findClass RX6 = some m.cls := findClass_of_methodNamed B.named
  have hlocks := B.notSynchronized
  have hS : va_S (dkA z) s.heap s.heap [] := va_S.rf
  have hF : dkF [(340, 340, 4, 4)] I0 I0 := dkF_rf _ _
  have hl := lv_entry ([.ref (z + 340), .int p0]) (n := 2) (Nat.le_of_ble_eq_true rfl)
  have hgo : entryFrame m args 2 = entryFrame m ([.ref (z + 340), .int p0] : List Value).toArray 2 := by rw [ha]
  rw [hgo, lg_entry_eq]
  generalize (lg_sl ([.ref (z + 340), .int p0]) ++ List.replicate (2 - (lg_sl ([.ref (z + 340), .int p0])).length) Slot.unset).toArray = ls at hl ⊢
  have hl : lv_has ls 2 [(0, .ref (z + 340)), (1, .int p0)] := hl
  refine lv_aload_n hx hb dX6_well_0 rfl (lv_at hl 0 rfl) ?_
  refine lv_iconst (v := 0) hx hb dX6_well_1 (by decide) ?_
  refine dk_put (k := 340) hx hb hts iX6_well_6 tyX6 tyX6_ok nmX6 hown hK hW (dk_at340 hW) hS rfl 4 (by decide) (hts (.fieldLink RX6 51 "DogKingsModel" "status" "I") (List.mem_of_getElem? (i := 1) rfl)) rfl rfl (Nat.le_of_ble_eq_true rfl) rfl dX6_well_2 (fun I1 H1 L1 eI1 hW hS => ?_)
  have eI1 : I1 = dkU I0 340 4 0 := eI1
  have hO := dkO_set hO eI1 (dkN_sub (dkN_lit (x := 0) (0) rfl) rfl)
  have hF := dkF_set hF eI1 rfl
  refine lv_iload_n hx hb dX6_well_5 rfl (lv_at hl 1 rfl) ?_
  exact W.iret (v := p0) hx hb hr (fun t ht hW9 => ⟨⟨p0, I1, rfl, ⟨hF, hO, ⟨trivial, (show dkN [(0, 0)] (I1 340 4) from dkN_sub (by rw [eI1, dkU_ss]; exact (dkN_lit (x := 0) (0) rfl)) rfl), rfl, trivial⟩⟩, dkW_eq ht hW⟩, hS.F ht⟩) hS.2.2 dX6_well_6
set_option maxHeartbeats 4000000 in
set_option maxRecDepth 100000 in
theorem f_X6_row_1 (l : Launch) (g : dkG) (z : Nat) (I0 : dkI) (p0 : Int32) (p1 : Int32) (p2 : Int32)  (hO : dkOk I0) : Met l yX6_row wsX6_row (dkR 2) (dkPc g z [.ref (z + 340), .int p0, .int p1, .int p2] I0) (dkQi g z (fun r I1 => dkF [(340, 340, 4, 4), (341, 341, 0, 7), (342, 342, 0, 7), (343, 343, 0, 319)] I0 I1 ∧ dkOk I1 ∧ ((dkN [(-1000001, -1000001)] r ∧ dkN [(-2147483648, -1)] p0 ∧ p0.toInt + 1 ≤ (0 : Int) ∧ r = (-1000001) ∧ I1 341  = I0 341 ∧ I1 342  = I0 342 ∧ True) ∨ (dkN [(-1000001, -1000001)] r ∧ dkN [(8, 2147483647)] p0 ∧ (0 : Int) + 0 ≤ p0.toInt ∧ (7 : Int) + 1 ≤ p0.toInt ∧ r = (-1000001) ∧ I1 341  = I0 341 ∧ I1 342  = I0 342 ∧ True) ∨ (dkN [(-1000001, -1000001)] r ∧ dkN [(0, 7)] p0 ∧ dkN [(-2147483648, -1)] p1 ∧ (0 : Int) + 0 ≤ p0.toInt ∧ p0.toInt + 0 ≤ (7 : Int) ∧ p1.toInt + 1 ≤ (0 : Int) ∧ r = (-1000001) ∧ I1 341  = I0 341 ∧ I1 342  = I0 342 ∧ True) ∨ (dkN [(-1000001, -1000001)] r ∧ dkN [(0, 7)] p0 ∧ dkN [(3, 2147483647)] p1 ∧ (0 : Int) + 0 ≤ p0.toInt ∧ p0.toInt + 0 ≤ (7 : Int) ∧ (0 : Int) + 0 ≤ p1.toInt ∧ (2 : Int) + 1 ≤ p1.toInt ∧ r = (-1000001) ∧ I1 341  = I0 341 ∧ I1 342  = I0 342 ∧ True) ∨ (dkN [(-1000014, -1000014)] r ∧ dkN [(0, 7)] p0 ∧ dkN [(0, 2)] p1 ∧ dkN [(-2147483648, -1)] p2 ∧ dkN [(4, 4)] (I1 340 4) ∧ (0 : Int) + 0 ≤ p0.toInt ∧ p0.toInt + 0 ≤ (7 : Int) ∧ (0 : Int) + 0 ≤ p1.toInt ∧ p1.toInt + 0 ≤ (2 : Int) ∧ p2.toInt + 0 ≤ (40 : Int) ∧ p2.toInt + 1 ≤ (0 : Int) ∧ ((-1000010 : Int32) - (4 : Int32)).toInt = (-1000010 : Int) - (4 : Int) ∧ r = (-1000010 : Int32) - (4 : Int32) ∧ I1 341  = I0 341 ∧ I1 342  = I0 342 ∧ True) ∨ (dkN [(-1000001, -1000001)] r ∧ dkN [(0, 7)] p0 ∧ dkN [(0, 2)] p1 ∧ dkN [(41, 2147483647)] p2 ∧ (0 : Int) + 0 ≤ p0.toInt ∧ p0.toInt + 0 ≤ (7 : Int) ∧ (0 : Int) + 0 ≤ p1.toInt ∧ p1.toInt + 0 ≤ (2 : Int) ∧ (40 : Int) + 1 ≤ p2.toInt ∧ r = (-1000001) ∧ I1 341  = I0 341 ∧ I1 342  = I0 342 ∧ True) ∨ (True ∧ dkN [(0, 7)] p0 ∧ dkN [(0, 2)] p1 ∧ dkN [(0, 40)] p2 ∧ dkN [(0, 0)] (I1 340 4) ∧ (0 : Int) + 0 ≤ p0.toInt ∧ p0.toInt + 0 ≤ (7 : Int) ∧ (0 : Int) + 0 ≤ p1.toInt ∧ p1.toInt + 0 ≤ (2 : Int) ∧ p2.toInt + 0 ≤ (40 : Int) ∧ (0 : Int) + 0 ≤ p2.toInt ∧ r = p2 ∧ I1 341  = dkV (I0 341) (Int32.toNatClampNeg p0) p1 ∧ I1 342  = dkV (I0 342) (Int32.toNatClampNeg p0) p2 ∧ True)))) 0 0 (dkA z) := by
  refine Met.ofW (cc := cX6_row) (maxL := 5) (ret := (some .int)) (by decide) rfl ?_
  intro p e s m args below meth c s₁ B hml hv
  obtain ⟨ha, hW, hK, hT⟩ := hv
  have hx := B.exec
  have hb := B.bytes
  have hr := B.returns
  have hts := atoms_spec (ws := wsX6_row) B.pre
  have hown : s.vm.findClass RX6 = some m.cls := findClass_of_methodNamed B.named
  have hlocks := B.notSynchronized
  have hS : va_S (dkA z) s.heap s.heap [] := va_S.rf
  have hF : dkF [(340, 340, 4, 4), (341, 341, 0, 7), (342, 342, 0, 7), (343, 343, 0, 319)] I0 I0 := dkF_rf _ _
  have hl := lv_entry ([.ref (z + 340), .int p0, .int p1, .int p2]) (n := 5) (Nat.le_of_ble_eq_true rfl)
  have hgo : entryFrame m args 5 = entryFrame m ([.ref (z + 340), .int p0, .int p1, .int p2] : List Value).toArray 5 := by rw [ha]
  rw [hgo, lg_entry_eq]
  generalize (lg_sl ([.ref (z + 340), .int p0, .int p1, .int p2]) ++ List.replicate (5 - (lg_sl ([.ref (z + 340), .int p0, .int p1, .int p2])).length) Slot.unset).toArray = ls at hl ⊢
  have hl : lv_has ls 5 [(0, .ref (z + 340)), (1, .int p0), (2, .int p1), (3, .int p2)] := hl
  have C52 : ∀ (n : Nat), ∀ (I : dkI) (H : Heap) (locs : List Loc) (ls : Array Slot) (x52_4 : Int32), (40 - x52_4.toInt).toNat < n → dkW g z I H → va_S (dkA z) s.heap H locs → dkF [(340, 340, 4, 4), (341, 341, 0, 7), (342, 342, 0, 7), (343, 343, 0, 319)] I0 I → dkOk I → dkN [(0, 40)] x52_4 → dkN [(0, 7)] p0 → dkN [(0, 2)] p1 → dkN [(0, 40)] p2 → I 341 = dkV (I0 341) (Int32.toNatClampNeg p0) p1 → I 342 = dkV (I0 342) (Int32.toNatClampNeg p0) p2 → (0 : Int) + 0 ≤ p0.toInt → p0.toInt + 0 ≤ (7 : Int) → (0 : Int) + 0 ≤ p1.toInt → p1.toInt + 0 ≤ (2 : Int) → p2.toInt + 0 ≤ (40 : Int) → (0 : Int) + 0 ≤ p2.toInt → lv_has ls 5 [(0, .ref (z + 340)), (1, .int p0), (2, .int p1), (3, .int p2), (4, .int x52_4)] → W p l e (headSpec wsX6_row (dkR 2)).room s m args below meth c H locs 0 0 (MQ below (dkQi g z (fun r I1 => dkF [(340, 340, 4, 4), (341, 341, 0, 7), (342, 342, 0, 7), (343, 343, 0, 319)] I0 I1 ∧ dkOk I1 ∧ ((dkN [(-1000001, -1000001)] r ∧ dkN [(-2147483648, -1)] p0 ∧ p0.toInt + 1 ≤ (0 : Int) ∧ r = (-1000001) ∧ I1 341  = I0 341 ∧ I1 342  = I0 342 ∧ True) ∨ (dkN [(-1000001, -1000001)] r ∧ dkN [(8, 2147483647)] p0 ∧ (0 : Int) + 0 ≤ p0.toInt ∧ (7 : Int) + 1 ≤ p0.toInt ∧ r = (-1000001) ∧ I1 341  = I0 341 ∧ I1 342  = I0 342 ∧ True) ∨ (dkN [(-1000001, -1000001)] r ∧ dkN [(0, 7)] p0 ∧ dkN [(-2147483648, -1)] p1 ∧ (0 : Int) + 0 ≤ p0.toInt ∧ p0.toInt + 0 ≤ (7 : Int) ∧ p1.toInt + 1 ≤ (0 : Int) ∧ r = (-1000001) ∧ I1 341  = I0 341 ∧ I1 342  = I0 342 ∧ True) ∨ (dkN [(-1000001, -1000001)] r ∧ dkN [(0, 7)] p0 ∧ dkN [(3, 2147483647)] p1 ∧ (0 : Int) + 0 ≤ p0.toInt ∧ p0.toInt + 0 ≤ (7 : Int) ∧ (0 : Int) + 0 ≤ p1.toInt ∧ (2 : Int) + 1 ≤ p1.toInt ∧ r = (-1000001) ∧ I1 341  = I0 341 ∧ I1 342  = I0 342 ∧ True) ∨ (dkN [(-1000014, -1000014)] r ∧ dkN [(0, 7)] p0 ∧ dkN [(0, 2)] p1 ∧ dkN [(-2147483648, -1)] p2 ∧ dkN [(4, 4)] (I1 340 4) ∧ (0 : Int) + 0 ≤ p0.toInt ∧ p0.toInt + 0 ≤ (7 : Int) ∧ (0 : Int) + 0 ≤ p1.toInt ∧ p1.toInt + 0 ≤ (2 : Int) ∧ p2.toInt + 0 ≤ (40 : Int) ∧ p2.toInt + 1 ≤ (0 : Int) ∧ ((-1000010 : Int32) - (4 : Int32)).toInt = (-1000010 : Int) - (4 : Int) ∧ r = (-1000010 : Int32) - (4 : Int32) ∧ I1 341  = I0 341 ∧ I1 342  = I0 342 ∧ True) ∨ (dkN [(-1000001, -1000001)] r ∧ dkN [(0, 7)] p0 ∧ dkN [(0, 2)] p1 ∧ dkN [(41, 2147483647)] p2 ∧ (0 : Int) + 0 ≤ p0.toInt ∧ p0.toInt + 0 ≤ (7 : Int) ∧ (0 : Int) + 0 ≤ p1.toInt ∧ p1.toInt + 0 ≤ (2 : Int) ∧ (40 : Int) + 1 ≤ p2.toInt ∧ r = (-1000001) ∧ I1 341  = I0 341 ∧ I1 342  = I0 342 ∧ True) ∨ (True ∧ dkN [(0, 7)] p0 ∧ dkN [(0, 2)] p1 ∧ dkN [(0, 40)] p2 ∧ dkN [(0, 0)] (I1 340 4) ∧ (0 : Int) + 0 ≤ p0.toInt ∧ p0.toInt + 0 ≤ (7 : Int) ∧ (0 : Int) + 0 ≤ p1.toInt ∧ p1.toInt + 0 ≤ (2 : Int) ∧ p2.toInt + 0 ≤ (40 : Int) ∧ (0 : Int) + 0 ≤ p2.toInt ∧ r = p2 ∧ I1 341  = dkV (I0 341) (Int32.toNatClampNeg p0) p1 ∧ I1 342  = dkV (I0 342) (Int32.toNatClampNeg p0) p2 ∧ True)))) args s 0 0 (dkA z)) (F0 m 52 ls []) := by
    intro n
    induction n with
    | zero => intro I H locs ls x52_4 hn; exact absurd hn (Nat.not_lt_zero _)
    | succ n ih52 =>
      intro I52_ H locs ls x52_4 hn52 hW hS hF_52 hO k52_0 r52_0 r52_1 r52_2 z52_0 z52_1 y52_0 y52_1 y52_2 y52_3 y52_4 y52_5 hl
      have hF := hF_52
      refine lv_iload hx hb dX6_row_52 (lv_at hl 4 rfl) ?_
      refine lv_bipush (v := 40) hx hb dX6_row_54 (by decide) ?_
      refine lv_icmp_ge (tgt := 78) hx hb dX6_row_56 (by decide) (fun c1 => ?_) (fun c1 => ?_)
      ·
        have d2 : dkN [(40, 40)] x52_4 := dkN_le2 0 (dkN_lit (x := 40) (40) rfl) k52_0 (dkc_le c1) rfl
        refine lv_aload_n hx hb dX6_row_78 rfl (lv_at hl 0 rfl) ?_
        refine lv_iload_n hx hb dX6_row_79 rfl (lv_at hl 3 rfl) ?_
        refine dk_Vi (As := [.int p2]) (rest := []) ⟨hx, hb, hml, hown, hts⟩ (f_X6_well_1 l g z I52_ p2 hO) (cwV 1 hts gX6_row_X6_well rfl rfl rfl (by decide +kernel) ⟨Nat.le_of_ble_eq_true rfl, Nat.le_of_ble_eq_true rfl⟩) (dk_at340 hW) rfl hK hT hW hS rfl hl.1 rfl (Nat.le_of_ble_eq_true rfl) dX6_row_80 ⟨Nat.zero_le _, Nat.zero_le _⟩ (fun v3 I3 H3 L3 hp3 hW hS => ?_)
        obtain ⟨hF3, hO, hc3⟩ := hp3
        have hF := dkF_call hF hF3 rfl
        obtain ⟨_, f3_340_4, xr3, -⟩ := hc3
        have xv3 : v3 = p2 := by rw [xr3]
        exact W.iret (v := v3) hx hb hr (fun t ht hW9 => ⟨⟨v3, I3, rfl, ⟨hF, hO, Or.inr (Or.inr (Or.inr (Or.inr (Or.inr (Or.inr (⟨trivial, dkN_sub r52_0 rfl, dkN_sub r52_1 rfl, dkN_sub r52_2 rfl, (show dkN [(0, 0)] (I3 340 4) from dkN_sub f3_340_4 rfl), y52_0, y52_1, y52_2, y52_3, y52_4, y52_5, xv3, ((funext fun j => hF3 341 j (dkNin_k rfl dkNin_nil)).trans z52_0), ((funext fun j => hF3 342 j (dkNin_k rfl dkNin_nil)).trans z52_1), trivial⟩))))))⟩, dkW_eq ht hW⟩, hS.F ht⟩) hS.2.2 dX6_row_83
      ·
        have d4 : dkN [(0, 39)] x52_4 := dkN_le1 1 k52_0 (dkN_lit (x := 40) (40) rfl) (dkc_nle c1) rfl
        refine lv_aload_n hx hb dX6_row_59 rfl (lv_at hl 0 rfl) ?_
        refine dk_get (k := 340) hx hb hts iX6_row_6 hown hK (dk_at340 hW) rfl 2 (by decide) (hts (.fieldLink RX6 16 "DogKingsModel" "items" "[I") (List.mem_of_getElem? (i := 4) rfl)) rfl dX6_row_60 ?_
        refine lv_bipush (v := 40) hx hb dX6_row_63 (by decide) ?_
        refine lv_iload_n hx hb dX6_row_65 rfl (lv_at hl 1 rfl) ?_
        refine lv_imul hx hb dX6_row_66 ?_
        refine lv_topi (fun v5 ev5 => ?_)
        have dv5 : dkN [(0, 280)] v5 := by rw [ev5]; exact dkN_mulL 40 (by decide) (dkN_lit (x := 40) (40) rfl) r52_0 rfl
        have xv5 : v5 = (40 : Int32) * p0 := by rw [ev5]
        refine lv_iload hx hb dX6_row_67 (lv_at hl 4 rfl) ?_
        refine lv_iadd hx hb dX6_row_69 ?_
        refine lv_topi (fun v6 ev6 => ?_)
        have dv6 : dkN [(0, 319)] v6 := by rw [ev6]; exact dkN_add dv5 d4 rfl
        refine lv_iconst (v := 0) hx hb dX6_row_70 (by decide) ?_
        refine dk_ist (k := 343) hx hb hK hW (fun _ => rfl) (by decide) hS (dkN_in (n := 320) dv6 rfl) dX6_row_71 (fun I7 H7 L7 eI7 hW hS => ?_)
        have hO := dkO_set hO eI7 (dkN_sub (dkN_lit (x := 0) (0) rfl) rfl)
        have hF := dkF_set hF eI7 (dkIn_v dv6 rfl)
        obtain ⟨v8, ev8⟩ : ∃ y : Int32, y = x52_4 + 1 := ⟨_, rfl⟩
        have dv8 : dkN [(1, 40)] v8 := by rw [ev8]; exact dkN_add d4 (dkN_lit (x := 1) (1) rfl) rfl
        refine lv_iinc (v := v8) (lv' := [(4, .int v8), (0, .ref (z + 340)), (1, .int p0), (2, .int p1), (3, .int p2)]) hx hb dX6_row_72 hl (k := 4) rfl (by rw [ev8]; rfl) (by decide) rfl (fun ls hl => ?_)
        refine lv_goto (tgt := 52) hx hb dX6_row_75 (by decide) ?_
        exact ih52 I7 _ _ ls v8 (dk_near hn52 (by rw [ev8]; exact dk_inc d4 rfl) (dkN_lt d4 rfl)) hW hS hF hO (dkN_sub dv8 rfl) (dkN_sub r52_0 rfl) (dkN_sub r52_1 rfl) (dkN_sub r52_2 rfl) ((by rw [eI7, dkU_n (by decide)] : I7 341 = _).trans z52_0) ((by rw [eI7, dkU_n (by decide)] : I7 342 = _).trans z52_1) y52_0 y52_1 y52_2 y52_3 y52_4 y52_5 (lv_sub hl [1, 2, 3, 4, 0] rfl)
  refine lv_iload_n hx hb dX6_row_0 rfl (lv_at hl 1 rfl) ?_
  refine dk_Si (As := [.int p0]) (rest := []) ⟨hx, hb, hml, hown, hts⟩ (f_X6_isRow_1 l g z I0 p0 hO) (va_cwS 1 hts gX6_row_X6_isRow rfl rfl rfl (by decide +kernel) ⟨Nat.le_of_ble_eq_true rfl, Nat.le_of_ble_eq_true rfl⟩) hK hT hW hS rfl hl.1 rfl (Nat.le_of_ble_eq_true rfl) dX6_row_1 ⟨Nat.zero_le _, Nat.zero_le _⟩ (fun v9 I9 H9 L9 hp9 hW hS => ?_)
  obtain ⟨hF9, hO, hc9⟩ := hp9
  have hF := dkF_call hF hF9 rfl
  have eI9 : I0 = I9 := (dkF_nil hF9).symm
  subst eI9
  rcases hc9 with ⟨dv9, a9_0, x9_0, xr9, -⟩ | hc9
  ·
    have q10 : p0.toInt + 1 ≤ (0 : Int) := x9_0
    have xv9 : v9 = 0 := by rw [xr9]
    have d11 : dkN [(-2147483648, -1)] p0 := dkN_eq1 (dkN_top p0) a9_0 rfl rfl
    refine lv_if_eq (tgt := 22) hx hb dX6_row_4 (by decide) (fun c12 => ?_) (fun c12 => ?_)
    ·
      refine lv_ldc (v := (-1000001)) hx hb hown (hts (.constant RX6 64 (-1000001)) (List.mem_of_getElem? (i := 1) rfl)) dX6_row_22 ?_
      exact W.iret (v := (-1000001)) hx hb hr (fun t ht hW9 => ⟨⟨(-1000001), I0, rfl, ⟨hF, hO, Or.inl ⟨dkN_sub (dkN_lit (x := (-1000001)) (-1000001) rfl) rfl, dkN_sub d11 rfl, q10, rfl, rfl, rfl, trivial⟩⟩, dkW_eq ht hW⟩, hS.F ht⟩) hS.2.2 dX6_row_24
    ·
      exact (dkN_nil (show dkN [] v9 from dkN_ne1 (0) dv9 (dkN_lit (x := 0) (0) rfl) (dk_ne c12) rfl)).elim
  rcases hc9 with ⟨dv9, a9_0, x9_0, x9_1, xr9, -⟩ | hc9
  ·
    have q13 : (0 : Int) + 0 ≤ p0.toInt := x9_0
    have q14 : (7 : Int) + 1 ≤ p0.toInt := x9_1
    have xv9 : v9 = 0 := by rw [xr9]
    have d15 : dkN [(8, 2147483647)] p0 := dkN_eq1 (dkN_top p0) a9_0 rfl rfl
    refine lv_if_eq (tgt := 22) hx hb dX6_row_4 (by decide) (fun c16 => ?_) (fun c16 => ?_)
    ·
      refine lv_ldc (v := (-1000001)) hx hb hown (hts (.constant RX6 64 (-1000001)) (List.mem_of_getElem? (i := 1) rfl)) dX6_row_22 ?_
      exact W.iret (v := (-1000001)) hx hb hr (fun t ht hW9 => ⟨⟨(-1000001), I0, rfl, ⟨hF, hO, Or.inr (Or.inl ⟨dkN_sub (dkN_lit (x := (-1000001)) (-1000001) rfl) rfl, dkN_sub d15 rfl, q13, q14, rfl, rfl, rfl, trivial⟩)⟩, dkW_eq ht hW⟩, hS.F ht⟩) hS.2.2 dX6_row_24
    ·
      exact (dkN_nil (show dkN [] v9 from dkN_ne1 (0) dv9 (dkN_lit (x := 0) (0) rfl) (dk_ne c16) rfl)).elim
  ·
    obtain ⟨dv9, a9_0, x9_0, x9_1, xr9, -⟩ := hc9
    have q17 : (0 : Int) + 0 ≤ p0.toInt := x9_0
    have q18 : p0.toInt + 0 ≤ (7 : Int) := x9_1
    have xv9 : v9 = 1 := by rw [xr9]
    have d19 : dkN [(0, 7)] p0 := dkN_eq1 (dkN_top p0) a9_0 rfl rfl
    refine lv_if_eq (tgt := 22) hx hb dX6_row_4 (by decide) (fun c20 => ?_) (fun c20 => ?_)
    ·
      exact (dkN_nil (show dkN [] v9 from dkN_eq1 dv9 (dkN_lit (x := 0) (0) rfl) (congrArg Int32.toInt c20) rfl)).elim
    ·
      refine lv_iload_n hx hb dX6_row_7 rfl (lv_at hl 2 rfl) ?_
      refine lv_iconst (v := 0) hx hb dX6_row_8 (by decide) ?_
      refine lv_iconst (v := 2) hx hb dX6_row_9 (by decide) ?_
      refine dk_Si (As := [.int p1, .int 0, .int 2]) (rest := []) ⟨hx, hb, hml, hown, hts⟩ (f_X6_in_23 l g z I0 p1 0 2 (dkN_lit (x := 0) (0) rfl) (dkN_lit (x := 2) (2) rfl) hO) (va_cwS 3 hts gX6_row_X6_in rfl rfl rfl (by decide +kernel) ⟨Nat.le_of_ble_eq_true rfl, Nat.le_of_ble_eq_true rfl⟩) hK hT hW hS rfl hl.1 rfl (Nat.le_of_ble_eq_true rfl) dX6_row_10 ⟨Nat.zero_le _, Nat.zero_le _⟩ (fun v21 I21 H21 L21 hp21 hW hS => ?_)
      obtain ⟨hF21, hO, hc21⟩ := hp21
      have hF := dkF_call hF hF21 rfl
      have eI21 : I0 = I21 := (dkF_nil hF21).symm
      subst eI21
      rcases hc21 with ⟨dv21, a21_0, x21_0, xr21, -⟩ | hc21
      ·
        have q22 : p1.toInt + 1 ≤ (0 : Int) := x21_0
        have xv21 : v21 = 0 := by rw [xr21]
        have d23 : dkN [(-2147483648, -1)] p1 := dkN_eq1 (dkN_top p1) a21_0 rfl rfl
        refine lv_if_eq (tgt := 22) hx hb dX6_row_13 (by decide) (fun c24 => ?_) (fun c24 => ?_)
        ·
          refine lv_ldc (v := (-1000001)) hx hb hown (hts (.constant RX6 64 (-1000001)) (List.mem_of_getElem? (i := 1) rfl)) dX6_row_22 ?_
          exact W.iret (v := (-1000001)) hx hb hr (fun t ht hW9 => ⟨⟨(-1000001), I0, rfl, ⟨hF, hO, Or.inr (Or.inr (Or.inl ⟨dkN_sub (dkN_lit (x := (-1000001)) (-1000001) rfl) rfl, dkN_sub d19 rfl, dkN_sub d23 rfl, q17, q18, q22, rfl, rfl, rfl, trivial⟩))⟩, dkW_eq ht hW⟩, hS.F ht⟩) hS.2.2 dX6_row_24
        ·
          exact (dkN_nil (show dkN [] v21 from dkN_ne1 (0) dv21 (dkN_lit (x := 0) (0) rfl) (dk_ne c24) rfl)).elim
      rcases hc21 with ⟨dv21, a21_0, x21_0, x21_1, xr21, -⟩ | hc21
      ·
        have q25 : (0 : Int) + 0 ≤ p1.toInt := x21_0
        have q26 : (2 : Int) + 1 ≤ p1.toInt := x21_1
        have xv21 : v21 = 0 := by rw [xr21]
        have d27 : dkN [(3, 2147483647)] p1 := dkN_eq1 (dkN_top p1) a21_0 rfl rfl
        refine lv_if_eq (tgt := 22) hx hb dX6_row_13 (by decide) (fun c28 => ?_) (fun c28 => ?_)
        ·
          refine lv_ldc (v := (-1000001)) hx hb hown (hts (.constant RX6 64 (-1000001)) (List.mem_of_getElem? (i := 1) rfl)) dX6_row_22 ?_
          exact W.iret (v := (-1000001)) hx hb hr (fun t ht hW9 => ⟨⟨(-1000001), I0, rfl, ⟨hF, hO, Or.inr (Or.inr (Or.inr (Or.inl ⟨dkN_sub (dkN_lit (x := (-1000001)) (-1000001) rfl) rfl, dkN_sub d19 rfl, dkN_sub d27 rfl, q17, q18, q25, q26, rfl, rfl, rfl, trivial⟩)))⟩, dkW_eq ht hW⟩, hS.F ht⟩) hS.2.2 dX6_row_24
        ·
          exact (dkN_nil (show dkN [] v21 from dkN_ne1 (0) dv21 (dkN_lit (x := 0) (0) rfl) (dk_ne c28) rfl)).elim
      ·
        obtain ⟨dv21, a21_0, x21_0, x21_1, xr21, -⟩ := hc21
        have q29 : (0 : Int) + 0 ≤ p1.toInt := x21_0
        have q30 : p1.toInt + 0 ≤ (2 : Int) := x21_1
        have xv21 : v21 = 1 := by rw [xr21]
        have d31 : dkN [(0, 2)] p1 := dkN_eq1 (dkN_top p1) a21_0 rfl rfl
        refine lv_if_eq (tgt := 22) hx hb dX6_row_13 (by decide) (fun c32 => ?_) (fun c32 => ?_)
        ·
          exact (dkN_nil (show dkN [] v21 from dkN_eq1 dv21 (dkN_lit (x := 0) (0) rfl) (congrArg Int32.toInt c32) rfl)).elim
        ·
          refine lv_iload_n hx hb dX6_row_16 rfl (lv_at hl 3 rfl) ?_
          refine lv_bipush (v := 40) hx hb dX6_row_17 (by decide) ?_
          refine lv_icmp_le (tgt := 25) hx hb dX6_row_19 (by decide) (fun c33 => ?_) (fun c33 => ?_)
          ·
            have q34 : p2.toInt + 0 ≤ (40 : Int) := (dkc_le c33)
            have d35 : dkN [(-2147483648, 40)] p2 := dkN_le1 0 (dkN_top p2) (dkN_lit (x := 40) (40) rfl) (dkc_le c33) rfl
            refine lv_iload_n hx hb dX6_row_25 rfl (lv_at hl 3 rfl) ?_
            refine lv_if_ge (tgt := 35) hx hb dX6_row_26 (by decide) (fun c36 => ?_) (fun c36 => ?_)
            ·
              have q37 : (0 : Int) + 0 ≤ p2.toInt := (dkc_le c36)
              have d38 : dkN [(0, 40)] p2 := dkN_le2 0 (dkN_lit (x := 0) (0) rfl) d35 (dkc_le c36) rfl
              refine lv_aload_n hx hb dX6_row_35 rfl (lv_at hl 0 rfl) ?_
              refine dk_get (k := 340) hx hb hts iX6_row_6 hown hK (dk_at340 hW) rfl 0 (by decide) (hts (.fieldLink RX6 7 "DogKingsModel" "lane" "[I") (List.mem_of_getElem? (i := 2) rfl)) rfl dX6_row_36 ?_
              refine lv_iload_n hx hb dX6_row_39 rfl (lv_at hl 1 rfl) ?_
              refine lv_iload_n hx hb dX6_row_40 rfl (lv_at hl 2 rfl) ?_
              refine dk_ist (k := 341) hx hb hK hW (fun _ => rfl) (by decide) hS (dkN_in (n := 8) d19 rfl) dX6_row_41 (fun I39 H39 L39 eI39 hW hS => ?_)
              have hO := dkO_set hO eI39 (dkN_sub d31 rfl)
              have hF := dkF_set hF eI39 (dkIn_v d19 rfl)
              refine lv_aload_n hx hb dX6_row_42 rfl (lv_at hl 0 rfl) ?_
              refine dk_get (k := 340) hx hb hts iX6_row_6 hown hK (dk_at340 hW) rfl 1 (by decide) (hts (.fieldLink RX6 13 "DogKingsModel" "many" "[I") (List.mem_of_getElem? (i := 3) rfl)) rfl dX6_row_43 ?_
              refine lv_iload_n hx hb dX6_row_46 rfl (lv_at hl 1 rfl) ?_
              refine lv_iload_n hx hb dX6_row_47 rfl (lv_at hl 3 rfl) ?_
              refine dk_ist (k := 342) hx hb hK hW (fun _ => rfl) (by decide) hS (dkN_in (n := 8) d19 rfl) dX6_row_48 (fun I40 H40 L40 eI40 hW hS => ?_)
              have hO := dkO_set hO eI40 (dkN_sub d38 rfl)
              have hF := dkF_set hF eI40 (dkIn_v d19 rfl)
              refine lv_iconst (v := 0) hx hb dX6_row_49 (by decide) ?_
              refine lv_istore (lv' := [(4, .int 0), (0, .ref (z + 340)), (1, .int p0), (2, .int p1), (3, .int p2)]) hx hb dX6_row_50 hl (by decide) rfl (fun ls hl => ?_)
              exact C52 _ I40 _ _ ls 0 (Nat.lt_succ_self _) hW hS hF hO (dkN_sub (dkN_lit (x := 0) (0) rfl) rfl) (dkN_sub d19 rfl) (dkN_sub d31 rfl) (dkN_sub d38 rfl) ((by rw [eI40, dkU_n (by decide)] : I40 341 = _).trans (by rw [eI39, dkU_s, show (I0 341) = I0 341 from rfl])) (by rw [eI40, dkU_s, ((by rw [eI39, dkU_n (by decide)] : I39 342 = _).trans rfl)]) q17 q18 q29 q30 q34 q37 (lv_sub hl [1, 2, 3, 4, 0] rfl)
            ·
              have q41 : p2.toInt + 1 ≤ (0 : Int) := (dkc_nle c36)
              have d42 : dkN [(-2147483648, -1)] p2 := dkN_le1 1 d35 (dkN_lit (x := 0) (0) rfl) (dkc_nle c36) rfl
              refine lv_aload_n hx hb dX6_row_29 rfl (lv_at hl 0 rfl) ?_
              refine lv_iconst (v := 4) hx hb dX6_row_30 (by decide) ?_
              refine dk_Vi (As := [.int 4]) (rest := []) ⟨hx, hb, hml, hown, hts⟩ (f_X6_found_5 l g z I0 4 (dkN_lit (x := 4) (4) rfl) hO) (cwV 1 hts gX6_row_X6_found rfl rfl rfl (by decide +kernel) ⟨Nat.le_of_ble_eq_true rfl, Nat.le_of_ble_eq_true rfl⟩) (dk_at340 hW) rfl hK hT hW hS rfl hl.1 rfl (Nat.le_of_ble_eq_true rfl) dX6_row_31 ⟨Nat.zero_le _, Nat.zero_le _⟩ (fun v43 I43 H43 L43 hp43 hW hS => ?_)
              obtain ⟨hF43, hO, hc43⟩ := hp43
              have hF := dkF_call hF hF43 rfl
              obtain ⟨dv43, f43_340_4, x43_0, xr43, -⟩ := hc43
              have q44 : ((-1000010 : Int32) - (4 : Int32)).toInt = (-1000010 : Int) - (4 : Int) := x43_0
              have xv43 : v43 = (-1000010 : Int32) - (4 : Int32) := by rw [xr43]
              exact W.iret (v := v43) hx hb hr (fun t ht hW9 => ⟨⟨v43, I43, rfl, ⟨hF, hO, Or.inr (Or.inr (Or.inr (Or.inr (Or.inl ⟨dkN_sub dv43 rfl, dkN_sub d19 rfl, dkN_sub d31 rfl, dkN_sub d42 rfl, (show dkN [(4, 4)] (I43 340 4) from dkN_sub f43_340_4 rfl), q17, q18, q29, q30, q34, q41, q44, xv43, ((funext fun j => hF43 341 j (dkNin_k rfl dkNin_nil)).trans rfl), ((funext fun j => hF43 342 j (dkNin_k rfl dkNin_nil)).trans rfl), trivial⟩))))⟩, dkW_eq ht hW⟩, hS.F ht⟩) hS.2.2 dX6_row_34
          ·
            have q45 : (40 : Int) + 1 ≤ p2.toInt := (dkc_nle c33)
            have d46 : dkN [(41, 2147483647)] p2 := dkN_le2 1 (dkN_lit (x := 40) (40) rfl) (dkN_top p2) (dkc_nle c33) rfl
            refine lv_ldc (v := (-1000001)) hx hb hown (hts (.constant RX6 64 (-1000001)) (List.mem_of_getElem? (i := 1) rfl)) dX6_row_22 ?_
            exact W.iret (v := (-1000001)) hx hb hr (fun t ht hW9 => ⟨⟨(-1000001), I0, rfl, ⟨hF, hO, Or.inr (Or.inr (Or.inr (Or.inr (Or.inr (Or.inl ⟨dkN_sub (dkN_lit (x := (-1000001)) (-1000001) rfl) rfl, dkN_sub d19 rfl, dkN_sub d31 rfl, dkN_sub d46 rfl, q17, q18, q29, q30, q45, rfl, rfl, rfl, trivial⟩)))))⟩, dkW_eq ht hW⟩, hS.F ht⟩) hS.2.2 dX6_row_24
set_option maxHeartbeats 4000000 in
set_option maxRecDepth 100000 in
theorem f_X5_isMissing_1 (l : Launch) (g : dkG) (z : Nat) (I0 : dkI) (p0 : Int32) (dp0 : dkN [(0, 7)] p0)  (hO : dkOk I0) : Met l yX5_isMissing wsX5_isMissing (dkR 0) (dkPc g z [.ref (z + 0), .int p0] I0) (dkQi g z (fun r I1 => dkF [] I0 I1 ∧ dkOk I1 ∧ ((dkN [(0, 0)] r ∧ (I0 11 (Int32.toNatClampNeg p0)).toInt ≠ (-1 : Int) ∧ r = 0 ∧ True) ∨ (dkN [(1, 1)] r ∧ (I0 11 (Int32.toNatClampNeg p0)).toInt = (-1 : Int) ∧ r = 1 ∧ True)))) 0 0 (dkA z) := by
  refine Met.ofW (cc := cX5_isMissing) (maxL := 2) (ret := (some .boolean)) (by decide) rfl ?_
  intro p e s m args below meth c s₁ B hml hv
  obtain ⟨ha, hW, hK, hT⟩ := hv
  have hx := B.exec
  have hb := B.bytes
  have hr := B.returns
  have hts := atoms_spec (ws := wsX5_isMissing) B.pre
  have hown : s.vm.findClass RX5 = some m.cls := findClass_of_methodNamed B.named
  have hlocks := B.notSynchronized
  have hS : va_S (dkA z) s.heap s.heap [] := va_S.rf
  have hF : dkF [] I0 I0 := dkF_rf _ _
  have hl := lv_entry ([.ref (z + 0), .int p0]) (n := 2) (Nat.le_of_ble_eq_true rfl)
  have hgo : entryFrame m args 2 = entryFrame m ([.ref (z + 0), .int p0] : List Value).toArray 2 := by rw [ha]
  rw [hgo, lg_entry_eq]
  generalize (lg_sl ([.ref (z + 0), .int p0]) ++ List.replicate (2 - (lg_sl ([.ref (z + 0), .int p0])).length) Slot.unset).toArray = ls at hl ⊢
  have hl : lv_has ls 2 [(0, .ref (z + 0)), (1, .int p0)] := hl
  refine lv_aload_n hx hb dX5_isMissing_0 rfl (lv_at hl 0 rfl) ?_
  refine dk_get (k := 0) hx hb hts iX5_isMissing_5 hown hK (dk_at0 hW) rfl 2 (by decide) (hts (.fieldLink RX5 18 "DogKings" "sizes" "[I") (List.mem_of_getElem? (i := 1) rfl)) rfl dX5_isMissing_1 ?_
  refine lv_iload_n hx hb dX5_isMissing_4 rfl (lv_at hl 1 rfl) ?_
  refine dk_ild (k := 11) hx hb hK (dk_at11 hW) (dkN_in (n := 8) dp0 rfl) dX5_isMissing_5 ?_
  refine lv_topi (fun v1 ev1 => ?_)
  have dv1 : dkN [(-1, 40)] v1 := by rw [ev1]; exact (hO 11 _)
  have xv1 : v1 = I0 11 (Int32.toNatClampNeg p0) := ev1.trans rfl
  refine lv_iconst (v := (-1)) hx hb dX5_isMissing_6 (by decide) ?_
  refine lv_icmp_ne (tgt := 14) hx hb dX5_isMissing_7 (by decide) (fun c2 => ?_) (fun c2 => ?_)
  ·
    have q3 : (I0 11 (Int32.toNatClampNeg p0)).toInt ≠ (-1 : Int) := by rw [← xv1]; exact (dk_ne c2)
    have d4 : dkN [(0, 40)] v1 := dkN_ne1 (-1) dv1 (dkN_lit (x := (-1)) (-1) rfl) (dk_ne c2) rfl
    refine lv_iconst (v := 0) hx hb dX5_isMissing_14 (by decide) ?_
    exact W.zret (v := 0) (ty := .boolean) hx hb hr rfl (fun t ht hW9 => ⟨⟨0, I0, rfl, ⟨hF, hO, Or.inl ⟨dkN_sub (dkN_lit (x := 0) (0) rfl) rfl, q3, rfl, trivial⟩⟩, dkW_eq ht hW⟩, hS.F ht⟩) hS.2.2 dX5_isMissing_15
  ·
    have q5 : (I0 11 (Int32.toNatClampNeg p0)).toInt = (-1 : Int) := by rw [← xv1]; exact (congrArg Int32.toInt c2)
    have d6 : dkN [(-1, -1)] v1 := dkN_eq1 dv1 (dkN_lit (x := (-1)) (-1) rfl) (congrArg Int32.toInt c2) rfl
    refine lv_iconst (v := 1) hx hb dX5_isMissing_10 (by decide) ?_
    refine lv_goto (tgt := 15) hx hb dX5_isMissing_11 (by decide) ?_
    exact W.zret (v := 1) (ty := .boolean) hx hb hr rfl (fun t ht hW9 => ⟨⟨1, I0, rfl, ⟨hF, hO, Or.inr (⟨dkN_sub (dkN_lit (x := 1) (1) rfl) rfl, q5, rfl, trivial⟩)⟩, dkW_eq ht hW⟩, hS.F ht⟩) hS.2.2 dX5_isMissing_15
set_option maxHeartbeats 4000000 in
set_option maxRecDepth 100000 in
theorem f_X5_found_6 (l : Launch) (g : dkG) (z : Nat) (I0 : dkI) (p0 : Int32) (dp0 : dkN [(1, 1)] p0)  (hO : dkOk I0) : Met l yX5_found wsX5_found (dkR 0) (dkPc g z [.ref (z + 0), .int p0] I0) (dkQi g z (fun r I1 => dkF [(0, 0, 3, 3)] I0 I1 ∧ dkOk I1 ∧ ((dkN [(-1000011, -1000011)] r ∧ dkN [(1, 1)] (I1 0 3) ∧ ((-1000010 : Int32) - p0).toInt = (-1000010 : Int) - p0.toInt ∧ r = (-1000010 : Int32) - p0 ∧ True)))) 0 0 (dkA z) := by
  refine Met.ofW (cc := cX5_found) (maxL := 2) (ret := (some .int)) (by decide) rfl ?_
  intro p e s m args below meth c s₁ B hml hv
  obtain ⟨ha, hW, hK, hT⟩ := hv
  have hx := B.exec
  have hb := B.bytes
  have hr := B.returns
  have hts := atoms_spec (ws := wsX5_found) B.pre
  have hown : s.vm.findClass RX5 = some m.cls := findClass_of_methodNamed B.named
  have hlocks := B.notSynchronized
  have hS : va_S (dkA z) s.heap s.heap [] := va_S.rf
  have hF : dkF [(0, 0, 3, 3)] I0 I0 := dkF_rf _ _
  have hl := lv_entry ([.ref (z + 0), .int p0]) (n := 2) (Nat.le_of_ble_eq_true rfl)
  have hgo : entryFrame m args 2 = entryFrame m ([.ref (z + 0), .int p0] : List Value).toArray 2 := by rw [ha]
  rw [hgo, lg_entry_eq]
  generalize (lg_sl ([.ref (z + 0), .int p0]) ++ List.replicate (2 - (lg_sl ([.ref (z + 0), .int p0])).length) Slot.unset).toArray = ls at hl ⊢
  have hl : lv_has ls 2 [(0, .ref (z + 0)), (1, .int p0)] := hl
  refine lv_aload_n hx hb dX5_found_0 rfl (lv_at hl 0 rfl) ?_
  refine lv_iload_n hx hb dX5_found_1 rfl (lv_at hl 1 rfl) ?_
  refine dk_put (k := 0) hx hb hts iX5_found_5 tyX5 tyX5_ok nmX5 hown hK hW (dk_at0 hW) hS rfl 3 (by decide) (hts (.fieldLink RX5 292 "DogKings" "finding" "I") (List.mem_of_getElem? (i := 1) rfl)) rfl rfl (Nat.le_of_ble_eq_true rfl) rfl dX5_found_2 (fun I1 H1 L1 eI1 hW hS => ?_)
  have eI1 : I1 = dkU I0 0 3 p0 := eI1
  have hO := dkO_set hO eI1 (dkN_sub dp0 rfl)
  have hF := dkF_set hF eI1 rfl
  refine lv_ldcw (v := (-1000010)) hx hb hown (hts (.constant RX5 295 (-1000010)) (List.mem_of_getElem? (i := 2) rfl)) dX5_found_5 ?_
  refine lv_iload_n hx hb dX5_found_8 rfl (lv_at hl 1 rfl) ?_
  refine lv_isub hx hb dX5_found_9 ?_
  refine lv_topi (fun v2 ev2 => ?_)
  have dv2 : dkN [(-1000011, -1000011)] v2 := by rw [ev2]; exact dkN_subt (dkN_lit (x := (-1000010)) (-1000010) rfl) dp0 rfl
  have xv2 : v2 = (-1000010 : Int32) - p0 := by rw [ev2]
  have q3 : ((-1000010 : Int32) - p0).toInt = (-1000010 : Int) - p0.toInt := by rw [← xv2]; exact (by rw [ev2]; exact dk_subE (dkN_lit (x := (-1000010)) (-1000010) rfl) dp0 rfl)
  exact W.iret (v := v2) hx hb hr (fun t ht hW9 => ⟨⟨v2, I1, rfl, ⟨hF, hO, ⟨dkN_sub dv2 rfl, (show dkN [(1, 1)] (I1 0 3) from dkN_sub (by rw [eI1, dkU_ss]; exact dp0) rfl), q3, xv2, trivial⟩⟩, dkW_eq ht hW⟩, hS.F ht⟩) hS.2.2 dX5_found_10
set_option maxHeartbeats 4000000 in
set_option maxRecDepth 100000 in
theorem f_X5_drop_1 (l : Launch) (g : dkG) (z : Nat) (I0 : dkI) (p0 : Int32)  (hO : dkOk I0) : Met l yX5_drop wsX5_drop (dkR 2) (dkPc g z [.ref (z + 0), .int p0] I0) (dkQi g z (fun r I1 => dkF [(0, 0, 3, 3), (11, 11, 0, 7)] I0 I1 ∧ dkOk I1 ∧ ((dkN [(-1000001, -1000001)] r ∧ dkN [(-2147483648, -1)] p0 ∧ p0.toInt + 1 ≤ (0 : Int) ∧ r = (-1000001) ∧ I1 11  = I0 11 ∧ True) ∨ (dkN [(-1000001, -1000001)] r ∧ dkN [(8, 2147483647)] p0 ∧ (0 : Int) + 0 ≤ p0.toInt ∧ (7 : Int) + 1 ≤ p0.toInt ∧ r = (-1000001) ∧ I1 11  = I0 11 ∧ True) ∨ (True ∧ dkN [(0, 7)] p0 ∧ dkN [(0, 0)] (I1 0 3) ∧ (0 : Int) + 0 ≤ p0.toInt ∧ p0.toInt + 0 ≤ (7 : Int) ∧ (I0 11 (Int32.toNatClampNeg p0)).toInt ≠ (-1 : Int) ∧ r = (I0 11 (Int32.toNatClampNeg p0)) ∧ I1 11  = dkV (I0 11) (Int32.toNatClampNeg p0) (-1) ∧ True) ∨ (dkN [(-1000011, -1000011)] r ∧ dkN [(0, 7)] p0 ∧ dkN [(1, 1)] (I1 0 3) ∧ (0 : Int) + 0 ≤ p0.toInt ∧ p0.toInt + 0 ≤ (7 : Int) ∧ (I0 11 (Int32.toNatClampNeg p0)).toInt = (-1 : Int) ∧ ((-1000010 : Int32) - (1 : Int32)).toInt = (-1000010 : Int) - (1 : Int) ∧ r = (-1000010 : Int32) - (1 : Int32) ∧ I1 11  = I0 11 ∧ True)))) 0 0 (dkA z) := by
  refine Met.ofW (cc := cX5_drop) (maxL := 3) (ret := (some .int)) (by decide) rfl ?_
  intro p e s m args below meth c s₁ B hml hv
  obtain ⟨ha, hW, hK, hT⟩ := hv
  have hx := B.exec
  have hb := B.bytes
  have hr := B.returns
  have hts := atoms_spec (ws := wsX5_drop) B.pre
  have hown : s.vm.findClass RX5 = some m.cls := findClass_of_methodNamed B.named
  have hlocks := B.notSynchronized
  have hS : va_S (dkA z) s.heap s.heap [] := va_S.rf
  have hF : dkF [(0, 0, 3, 3), (11, 11, 0, 7)] I0 I0 := dkF_rf _ _
  have hl := lv_entry ([.ref (z + 0), .int p0]) (n := 3) (Nat.le_of_ble_eq_true rfl)
  have hgo : entryFrame m args 3 = entryFrame m ([.ref (z + 0), .int p0] : List Value).toArray 3 := by rw [ha]
  rw [hgo, lg_entry_eq]
  generalize (lg_sl ([.ref (z + 0), .int p0]) ++ List.replicate (3 - (lg_sl ([.ref (z + 0), .int p0])).length) Slot.unset).toArray = ls at hl ⊢
  have hl : lv_has ls 3 [(0, .ref (z + 0)), (1, .int p0)] := hl
  refine lv_iload_n hx hb dX5_drop_0 rfl (lv_at hl 1 rfl) ?_
  refine dk_Si (As := [.int p0]) (rest := []) ⟨hx, hb, hml, hown, hts⟩ (f_X5_isRow_1 l g z I0 p0 hO) (va_cwS 1 hts gX5_drop_X5_isRow rfl rfl rfl (by decide +kernel) ⟨Nat.le_of_ble_eq_true rfl, Nat.le_of_ble_eq_true rfl⟩) hK hT hW hS rfl hl.1 rfl (Nat.le_of_ble_eq_true rfl) dX5_drop_1 ⟨Nat.zero_le _, Nat.zero_le _⟩ (fun v1 I1 H1 L1 hp1 hW hS => ?_)
  obtain ⟨hF1, hO, hc1⟩ := hp1
  have hF := dkF_call hF hF1 rfl
  have eI1 : I0 = I1 := (dkF_nil hF1).symm
  subst eI1
  rcases hc1 with ⟨dv1, a1_0, x1_0, xr1, -⟩ | hc1
  ·
    have q2 : p0.toInt + 1 ≤ (0 : Int) := x1_0
    have xv1 : v1 = 0 := by rw [xr1]
    have d3 : dkN [(-2147483648, -1)] p0 := dkN_eq1 (dkN_top p0) a1_0 rfl rfl
    refine lv_if_ne (tgt := 10) hx hb dX5_drop_4 (by decide) (fun c4 => ?_) (fun c4 => ?_)
    ·
      exact (dkN_nil (show dkN [] v1 from dkN_ne1 (0) dv1 (dkN_lit (x := 0) (0) rfl) (dk_ne c4) rfl)).elim
    ·
      refine lv_ldc (v := (-1000001)) hx hb hown (hts (.constant RX5 70 (-1000001)) (List.mem_of_getElem? (i := 1) rfl)) dX5_drop_7 ?_
      exact W.iret (v := (-1000001)) hx hb hr (fun t ht hW9 => ⟨⟨(-1000001), I0, rfl, ⟨hF, hO, Or.inl ⟨dkN_sub (dkN_lit (x := (-1000001)) (-1000001) rfl) rfl, dkN_sub d3 rfl, q2, rfl, rfl, trivial⟩⟩, dkW_eq ht hW⟩, hS.F ht⟩) hS.2.2 dX5_drop_9
  rcases hc1 with ⟨dv1, a1_0, x1_0, x1_1, xr1, -⟩ | hc1
  ·
    have q5 : (0 : Int) + 0 ≤ p0.toInt := x1_0
    have q6 : (7 : Int) + 1 ≤ p0.toInt := x1_1
    have xv1 : v1 = 0 := by rw [xr1]
    have d7 : dkN [(8, 2147483647)] p0 := dkN_eq1 (dkN_top p0) a1_0 rfl rfl
    refine lv_if_ne (tgt := 10) hx hb dX5_drop_4 (by decide) (fun c8 => ?_) (fun c8 => ?_)
    ·
      exact (dkN_nil (show dkN [] v1 from dkN_ne1 (0) dv1 (dkN_lit (x := 0) (0) rfl) (dk_ne c8) rfl)).elim
    ·
      refine lv_ldc (v := (-1000001)) hx hb hown (hts (.constant RX5 70 (-1000001)) (List.mem_of_getElem? (i := 1) rfl)) dX5_drop_7 ?_
      exact W.iret (v := (-1000001)) hx hb hr (fun t ht hW9 => ⟨⟨(-1000001), I0, rfl, ⟨hF, hO, Or.inr (Or.inl ⟨dkN_sub (dkN_lit (x := (-1000001)) (-1000001) rfl) rfl, dkN_sub d7 rfl, q5, q6, rfl, rfl, trivial⟩)⟩, dkW_eq ht hW⟩, hS.F ht⟩) hS.2.2 dX5_drop_9
  ·
    obtain ⟨dv1, a1_0, x1_0, x1_1, xr1, -⟩ := hc1
    have q9 : (0 : Int) + 0 ≤ p0.toInt := x1_0
    have q10 : p0.toInt + 0 ≤ (7 : Int) := x1_1
    have xv1 : v1 = 1 := by rw [xr1]
    have d11 : dkN [(0, 7)] p0 := dkN_eq1 (dkN_top p0) a1_0 rfl rfl
    refine lv_if_ne (tgt := 10) hx hb dX5_drop_4 (by decide) (fun c12 => ?_) (fun c12 => ?_)
    ·
      refine lv_aload_n hx hb dX5_drop_10 rfl (lv_at hl 0 rfl) ?_
      refine lv_iload_n hx hb dX5_drop_11 rfl (lv_at hl 1 rfl) ?_
      refine dk_Vi (As := [.int p0]) (rest := []) ⟨hx, hb, hml, hown, hts⟩ (f_X5_isMissing_1 l g z I0 p0 d11 hO) (cwV 1 hts gX5_drop_X5_isMissing rfl rfl rfl (by decide +kernel) ⟨Nat.le_of_ble_eq_true rfl, Nat.le_of_ble_eq_true rfl⟩) (dk_at0 hW) rfl hK hT hW hS rfl hl.1 rfl (Nat.le_of_ble_eq_true rfl) dX5_drop_12 ⟨Nat.zero_le _, Nat.zero_le _⟩ (fun v13 I13 H13 L13 hp13 hW hS => ?_)
      obtain ⟨hF13, hO, hc13⟩ := hp13
      have hF := dkF_call hF hF13 rfl
      have eI13 : I0 = I13 := (dkF_nil hF13).symm
      subst eI13
      rcases hc13 with ⟨dv13, x13_0, xr13, -⟩ | hc13
      ·
        have q14 : (I0 11 (Int32.toNatClampNeg p0)).toInt ≠ (-1 : Int) := x13_0
        have xv13 : v13 = 0 := by rw [xr13]
        refine lv_if_eq (tgt := 24) hx hb dX5_drop_15 (by decide) (fun c15 => ?_) (fun c15 => ?_)
        ·
          refine lv_aload_n hx hb dX5_drop_24 rfl (lv_at hl 0 rfl) ?_
          refine dk_get (k := 0) hx hb hts iX5_drop_5 hown hK (dk_at0 hW) rfl 2 (by decide) (hts (.fieldLink RX5 18 "DogKings" "sizes" "[I") (List.mem_of_getElem? (i := 2) rfl)) rfl dX5_drop_25 ?_
          refine lv_iload_n hx hb dX5_drop_28 rfl (lv_at hl 1 rfl) ?_
          refine dk_ild (k := 11) hx hb hK (dk_at11 hW) (dkN_in (n := 8) d11 rfl) dX5_drop_29 ?_
          refine lv_topi (fun v16 ev16 => ?_)
          have dv16 : dkN [(-1, 40)] v16 := by rw [ev16]; exact (hO 11 _)
          have xv16 : v16 = I0 11 (Int32.toNatClampNeg p0) := ev16.trans rfl
          refine lv_istore_n (lv' := [(2, .int v16), (0, .ref (z + 0)), (1, .int p0)]) hx hb dX5_drop_30 rfl hl (by decide) rfl (fun ls hl => ?_)
          refine lv_aload_n hx hb dX5_drop_31 rfl (lv_at hl 1 rfl) ?_
          refine dk_get (k := 0) hx hb hts iX5_drop_5 hown hK (dk_at0 hW) rfl 2 (by decide) (hts (.fieldLink RX5 18 "DogKings" "sizes" "[I") (List.mem_of_getElem? (i := 2) rfl)) rfl dX5_drop_32 ?_
          refine lv_iload_n hx hb dX5_drop_35 rfl (lv_at hl 2 rfl) ?_
          refine lv_iconst (v := (-1)) hx hb dX5_drop_36 (by decide) ?_
          refine dk_ist (k := 11) hx hb hK hW (fun _ => rfl) (by decide) hS (dkN_in (n := 8) d11 rfl) dX5_drop_37 (fun I17 H17 L17 eI17 hW hS => ?_)
          have hO := dkO_set hO eI17 (dkN_sub (dkN_lit (x := (-1)) (-1) rfl) rfl)
          have hF := dkF_set hF eI17 (dkIn_v d11 rfl)
          refine lv_aload_n hx hb dX5_drop_38 rfl (lv_at hl 1 rfl) ?_
          refine lv_iload_n hx hb dX5_drop_39 rfl (lv_at hl 0 rfl) ?_
          refine dk_Vi (As := [.int v16]) (rest := []) ⟨hx, hb, hml, hown, hts⟩ (f_X5_nothingFound_1 l g z I17 v16 hO) (cwV 1 hts gX5_drop_X5_nothingFound rfl rfl rfl (by decide +kernel) ⟨Nat.le_of_ble_eq_true rfl, Nat.le_of_ble_eq_true rfl⟩) (dk_at0 hW) rfl hK hT hW hS rfl hl.1 rfl (Nat.le_of_ble_eq_true rfl) dX5_drop_40 ⟨Nat.zero_le _, Nat.zero_le _⟩ (fun v18 I18 H18 L18 hp18 hW hS => ?_)
          obtain ⟨hF18, hO, hc18⟩ := hp18
          have hF := dkF_call hF hF18 rfl
          obtain ⟨_, f18_0_3, xr18, -⟩ := hc18
          have xv18 : v18 = (I0 11 (Int32.toNatClampNeg p0)) := by rw [xr18, xv16]
          exact W.iret (v := v18) hx hb hr (fun t ht hW9 => ⟨⟨v18, I18, rfl, ⟨hF, hO, Or.inr (Or.inr (Or.inl ⟨trivial, dkN_sub d11 rfl, (show dkN [(0, 0)] (I18 0 3) from dkN_sub f18_0_3 rfl), q9, q10, q14, xv18, ((funext fun j => hF18 11 j (dkNin_k rfl dkNin_nil)).trans (by rw [eI17, dkU_s, show (I0 11) = I0 11 from rfl])), trivial⟩))⟩, dkW_eq ht hW⟩, hS.F ht⟩) hS.2.2 dX5_drop_43
        ·
          exact (dkN_nil (show dkN [] v13 from dkN_ne1 (0) dv13 (dkN_lit (x := 0) (0) rfl) (dk_ne c15) rfl)).elim
      ·
        obtain ⟨dv13, x13_0, xr13, -⟩ := hc13
        have q19 : (I0 11 (Int32.toNatClampNeg p0)).toInt = (-1 : Int) := x13_0
        have xv13 : v13 = 1 := by rw [xr13]
        refine lv_if_eq (tgt := 24) hx hb dX5_drop_15 (by decide) (fun c20 => ?_) (fun c20 => ?_)
        ·
          exact (dkN_nil (show dkN [] v13 from dkN_eq1 dv13 (dkN_lit (x := 0) (0) rfl) (congrArg Int32.toInt c20) rfl)).elim
        ·
          refine lv_aload_n hx hb dX5_drop_18 rfl (lv_at hl 0 rfl) ?_
          refine lv_iconst (v := 1) hx hb dX5_drop_19 (by decide) ?_
          refine dk_Vi (As := [.int 1]) (rest := []) ⟨hx, hb, hml, hown, hts⟩ (f_X5_found_6 l g z I0 1 (dkN_lit (x := 1) (1) rfl) hO) (cwV 1 hts gX5_drop_X5_found rfl rfl rfl (by decide +kernel) ⟨Nat.le_of_ble_eq_true rfl, Nat.le_of_ble_eq_true rfl⟩) (dk_at0 hW) rfl hK hT hW hS rfl hl.1 rfl (Nat.le_of_ble_eq_true rfl) dX5_drop_20 ⟨Nat.zero_le _, Nat.zero_le _⟩ (fun v21 I21 H21 L21 hp21 hW hS => ?_)
          obtain ⟨hF21, hO, hc21⟩ := hp21
          have hF := dkF_call hF hF21 rfl
          obtain ⟨dv21, f21_0_3, x21_0, xr21, -⟩ := hc21
          have q22 : ((-1000010 : Int32) - (1 : Int32)).toInt = (-1000010 : Int) - (1 : Int) := x21_0
          have xv21 : v21 = (-1000010 : Int32) - (1 : Int32) := by rw [xr21]
          exact W.iret (v := v21) hx hb hr (fun t ht hW9 => ⟨⟨v21, I21, rfl, ⟨hF, hO, Or.inr (Or.inr (Or.inr (⟨dkN_sub dv21 rfl, dkN_sub d11 rfl, (show dkN [(1, 1)] (I21 0 3) from dkN_sub f21_0_3 rfl), q9, q10, q19, q22, xv21, ((funext fun j => hF21 11 j (dkNin_k rfl dkNin_nil)).trans rfl), trivial⟩)))⟩, dkW_eq ht hW⟩, hS.F ht⟩) hS.2.2 dX5_drop_23
    ·
      exact (dkN_nil (show dkN [] v1 from dkN_eq1 dv1 (dkN_lit (x := 0) (0) rfl) (congrArg Int32.toInt c12) rfl)).elim
set_option maxHeartbeats 4000000 in
set_option maxRecDepth 100000 in
theorem f_X6_isMissing_1 (l : Launch) (g : dkG) (z : Nat) (I0 : dkI) (p0 : Int32) (dp0 : dkN [(0, 7)] p0)  (hO : dkOk I0) : Met l yX6_isMissing wsX6_isMissing (dkR 0) (dkPc g z [.ref (z + 340), .int p0] I0) (dkQi g z (fun r I1 => dkF [] I0 I1 ∧ dkOk I1 ∧ ((dkN [(0, 0)] r ∧ (I0 341 (Int32.toNatClampNeg p0)).toInt ≠ (-1000000 : Int) ∧ r = 0 ∧ True) ∨ (dkN [(1, 1)] r ∧ (I0 341 (Int32.toNatClampNeg p0)).toInt = (-1000000 : Int) ∧ r = 1 ∧ True)))) 0 0 (dkA z) := by
  refine Met.ofW (cc := cX6_isMissing) (maxL := 2) (ret := (some .boolean)) (by decide) rfl ?_
  intro p e s m args below meth c s₁ B hml hv
  obtain ⟨ha, hW, hK, hT⟩ := hv
  have hx := B.exec
  have hb := B.bytes
  have hr := B.returns
  have hts := atoms_spec (ws := wsX6_isMissing) B.pre
  have hown : s.vm.findClass RX6 = some m.cls := findClass_of_methodNamed B.named
  have hlocks := B.notSynchronized
  have hS : va_S (dkA z) s.heap s.heap [] := va_S.rf
  have hF : dkF [] I0 I0 := dkF_rf _ _
  have hl := lv_entry ([.ref (z + 340), .int p0]) (n := 2) (Nat.le_of_ble_eq_true rfl)
  have hgo : entryFrame m args 2 = entryFrame m ([.ref (z + 340), .int p0] : List Value).toArray 2 := by rw [ha]
  rw [hgo, lg_entry_eq]
  generalize (lg_sl ([.ref (z + 340), .int p0]) ++ List.replicate (2 - (lg_sl ([.ref (z + 340), .int p0])).length) Slot.unset).toArray = ls at hl ⊢
  have hl : lv_has ls 2 [(0, .ref (z + 340)), (1, .int p0)] := hl
  refine lv_aload_n hx hb dX6_isMissing_0 rfl (lv_at hl 0 rfl) ?_
  refine dk_get (k := 340) hx hb hts iX6_isMissing_6 hown hK (dk_at340 hW) rfl 0 (by decide) (hts (.fieldLink RX6 7 "DogKingsModel" "lane" "[I") (List.mem_of_getElem? (i := 1) rfl)) rfl dX6_isMissing_1 ?_
  refine lv_iload_n hx hb dX6_isMissing_4 rfl (lv_at hl 1 rfl) ?_
  refine dk_ild (k := 341) hx hb hK (dk_at341 hW) (dkN_in (n := 8) dp0 rfl) dX6_isMissing_5 ?_
  refine lv_topi (fun v1 ev1 => ?_)
  have dv1 : dkN [(-1000000, -1000000), (0, 2)] v1 := by rw [ev1]; exact (hO 341 _)
  have xv1 : v1 = I0 341 (Int32.toNatClampNeg p0) := ev1.trans rfl
  refine lv_ldc (v := (-1000000)) hx hb hown (hts (.constant RX6 50 (-1000000)) (List.mem_of_getElem? (i := 2) rfl)) dX6_isMissing_6 ?_
  refine lv_icmp_ne (tgt := 15) hx hb dX6_isMissing_8 (by decide) (fun c2 => ?_) (fun c2 => ?_)
  ·
    have q3 : (I0 341 (Int32.toNatClampNeg p0)).toInt ≠ (-1000000 : Int) := by rw [← xv1]; exact (dk_ne c2)
    have d4 : dkN [(0, 2)] v1 := dkN_ne1 (-1000000) dv1 (dkN_lit (x := (-1000000)) (-1000000) rfl) (dk_ne c2) rfl
    refine lv_iconst (v := 0) hx hb dX6_isMissing_15 (by decide) ?_
    exact W.zret (v := 0) (ty := .boolean) hx hb hr rfl (fun t ht hW9 => ⟨⟨0, I0, rfl, ⟨hF, hO, Or.inl ⟨dkN_sub (dkN_lit (x := 0) (0) rfl) rfl, q3, rfl, trivial⟩⟩, dkW_eq ht hW⟩, hS.F ht⟩) hS.2.2 dX6_isMissing_16
  ·
    have q5 : (I0 341 (Int32.toNatClampNeg p0)).toInt = (-1000000 : Int) := by rw [← xv1]; exact (congrArg Int32.toInt c2)
    have d6 : dkN [(-1000000, -1000000)] v1 := dkN_eq1 dv1 (dkN_lit (x := (-1000000)) (-1000000) rfl) (congrArg Int32.toInt c2) rfl
    refine lv_iconst (v := 1) hx hb dX6_isMissing_11 (by decide) ?_
    refine lv_goto (tgt := 16) hx hb dX6_isMissing_12 (by decide) ?_
    exact W.zret (v := 1) (ty := .boolean) hx hb hr rfl (fun t ht hW9 => ⟨⟨1, I0, rfl, ⟨hF, hO, Or.inr (⟨dkN_sub (dkN_lit (x := 1) (1) rfl) rfl, q5, rfl, trivial⟩)⟩, dkW_eq ht hW⟩, hS.F ht⟩) hS.2.2 dX6_isMissing_16
set_option maxHeartbeats 4000000 in
set_option maxRecDepth 100000 in
theorem f_X6_found_6 (l : Launch) (g : dkG) (z : Nat) (I0 : dkI) (p0 : Int32) (dp0 : dkN [(1, 1)] p0)  (hO : dkOk I0) : Met l yX6_found wsX6_found (dkR 0) (dkPc g z [.ref (z + 340), .int p0] I0) (dkQi g z (fun r I1 => dkF [(340, 340, 4, 4)] I0 I1 ∧ dkOk I1 ∧ ((dkN [(-1000011, -1000011)] r ∧ dkN [(1, 1)] (I1 340 4) ∧ ((-1000010 : Int32) - p0).toInt = (-1000010 : Int) - p0.toInt ∧ r = (-1000010 : Int32) - p0 ∧ True)))) 0 0 (dkA z) := by
  refine Met.ofW (cc := cX6_found) (maxL := 2) (ret := (some .int)) (by decide) rfl ?_
  intro p e s m args below meth c s₁ B hml hv
  obtain ⟨ha, hW, hK, hT⟩ := hv
  have hx := B.exec
  have hb := B.bytes
  have hr := B.returns
  have hts := atoms_spec (ws := wsX6_found) B.pre
  have hown : s.vm.findClass RX6 = some m.cls := findClass_of_methodNamed B.named
  have hlocks := B.notSynchronized
  have hS : va_S (dkA z) s.heap s.heap [] := va_S.rf
  have hF : dkF [(340, 340, 4, 4)] I0 I0 := dkF_rf _ _
  have hl := lv_entry ([.ref (z + 340), .int p0]) (n := 2) (Nat.le_of_ble_eq_true rfl)
  have hgo : entryFrame m args 2 = entryFrame m ([.ref (z + 340), .int p0] : List Value).toArray 2 := by rw [ha]
  rw [hgo, lg_entry_eq]
  generalize (lg_sl ([.ref (z + 340), .int p0]) ++ List.replicate (2 - (lg_sl ([.ref (z + 340), .int p0])).length) Slot.unset).toArray = ls at hl ⊢
  have hl : lv_has ls 2 [(0, .ref (z + 340)), (1, .int p0)] := hl
  refine lv_aload_n hx hb dX6_found_0 rfl (lv_at hl 0 rfl) ?_
  refine lv_iload_n hx hb dX6_found_1 rfl (lv_at hl 1 rfl) ?_
  refine dk_put (k := 340) hx hb hts iX6_found_6 tyX6 tyX6_ok nmX6 hown hK hW (dk_at340 hW) hS rfl 4 (by decide) (hts (.fieldLink RX6 51 "DogKingsModel" "status" "I") (List.mem_of_getElem? (i := 1) rfl)) rfl rfl (Nat.le_of_ble_eq_true rfl) rfl dX6_found_2 (fun I1 H1 L1 eI1 hW hS => ?_)
  have eI1 : I1 = dkU I0 340 4 p0 := eI1
  have hO := dkO_set hO eI1 (dkN_sub dp0 rfl)
  have hF := dkF_set hF eI1 rfl
  refine lv_ldc (v := (-1000010)) hx hb hown (hts (.constant RX6 55 (-1000010)) (List.mem_of_getElem? (i := 2) rfl)) dX6_found_5 ?_
  refine lv_iload_n hx hb dX6_found_7 rfl (lv_at hl 1 rfl) ?_
  refine lv_isub hx hb dX6_found_8 ?_
  refine lv_topi (fun v2 ev2 => ?_)
  have dv2 : dkN [(-1000011, -1000011)] v2 := by rw [ev2]; exact dkN_subt (dkN_lit (x := (-1000010)) (-1000010) rfl) dp0 rfl
  have xv2 : v2 = (-1000010 : Int32) - p0 := by rw [ev2]
  have q3 : ((-1000010 : Int32) - p0).toInt = (-1000010 : Int) - p0.toInt := by rw [← xv2]; exact (by rw [ev2]; exact dk_subE (dkN_lit (x := (-1000010)) (-1000010) rfl) dp0 rfl)
  exact W.iret (v := v2) hx hb hr (fun t ht hW9 => ⟨⟨v2, I1, rfl, ⟨hF, hO, ⟨dkN_sub dv2 rfl, (show dkN [(1, 1)] (I1 340 4) from dkN_sub (by rw [eI1, dkU_ss]; exact dp0) rfl), q3, xv2, trivial⟩⟩, dkW_eq ht hW⟩, hS.F ht⟩) hS.2.2 dX6_found_9
set_option maxHeartbeats 4000000 in
set_option maxRecDepth 100000 in
theorem f_X6_drop_1 (l : Launch) (g : dkG) (z : Nat) (I0 : dkI) (p0 : Int32)  (hO : dkOk I0) : Met l yX6_drop wsX6_drop (dkR 2) (dkPc g z [.ref (z + 340), .int p0] I0) (dkQi g z (fun r I1 => dkF [(340, 340, 4, 4), (341, 341, 0, 7)] I0 I1 ∧ dkOk I1 ∧ ((dkN [(-1000001, -1000001)] r ∧ dkN [(-2147483648, -1)] p0 ∧ p0.toInt + 1 ≤ (0 : Int) ∧ r = (-1000001) ∧ I1 341  = I0 341 ∧ I1 342  = I0 342 ∧ True) ∨ (dkN [(-1000001, -1000001)] r ∧ dkN [(8, 2147483647)] p0 ∧ (0 : Int) + 0 ≤ p0.toInt ∧ (7 : Int) + 1 ≤ p0.toInt ∧ r = (-1000001) ∧ I1 341  = I0 341 ∧ I1 342  = I0 342 ∧ True) ∨ (True ∧ dkN [(0, 7)] p0 ∧ dkN [(0, 0)] (I1 340 4) ∧ (0 : Int) + 0 ≤ p0.toInt ∧ p0.toInt + 0 ≤ (7 : Int) ∧ (I0 341 (Int32.toNatClampNeg p0)).toInt ≠ (-1000000 : Int) ∧ r = (I0 342 (Int32.toNatClampNeg p0)) ∧ I1 341  = dkV (I0 341) (Int32.toNatClampNeg p0) (-1000000) ∧ I1 342  = I0 342 ∧ True) ∨ (dkN [(-1000011, -1000011)] r ∧ dkN [(0, 7)] p0 ∧ dkN [(1, 1)] (I1 340 4) ∧ (0 : Int) + 0 ≤ p0.toInt ∧ p0.toInt + 0 ≤ (7 : Int) ∧ (I0 341 (Int32.toNatClampNeg p0)).toInt = (-1000000 : Int) ∧ ((-1000010 : Int32) - (1 : Int32)).toInt = (-1000010 : Int) - (1 : Int) ∧ r = (-1000010 : Int32) - (1 : Int32) ∧ I1 341  = I0 341 ∧ I1 342  = I0 342 ∧ True)))) 0 0 (dkA z) := by
  refine Met.ofW (cc := cX6_drop) (maxL := 2) (ret := (some .int)) (by decide) rfl ?_
  intro p e s m args below meth c s₁ B hml hv
  obtain ⟨ha, hW, hK, hT⟩ := hv
  have hx := B.exec
  have hb := B.bytes
  have hr := B.returns
  have hts := atoms_spec (ws := wsX6_drop) B.pre
  have hown : s.vm.findClass RX6 = some m.cls := findClass_of_methodNamed B.named
  have hlocks := B.notSynchronized
  have hS : va_S (dkA z) s.heap s.heap [] := va_S.rf
  have hF : dkF [(340, 340, 4, 4), (341, 341, 0, 7)] I0 I0 := dkF_rf _ _
  have hl := lv_entry ([.ref (z + 340), .int p0]) (n := 2) (Nat.le_of_ble_eq_true rfl)
  have hgo : entryFrame m args 2 = entryFrame m ([.ref (z + 340), .int p0] : List Value).toArray 2 := by rw [ha]
  rw [hgo, lg_entry_eq]
  generalize (lg_sl ([.ref (z + 340), .int p0]) ++ List.replicate (2 - (lg_sl ([.ref (z + 340), .int p0])).length) Slot.unset).toArray = ls at hl ⊢
  have hl : lv_has ls 2 [(0, .ref (z + 340)), (1, .int p0)] := hl
  refine lv_iload_n hx hb dX6_drop_0 rfl (lv_at hl 1 rfl) ?_
  refine dk_Si (As := [.int p0]) (rest := []) ⟨hx, hb, hml, hown, hts⟩ (f_X6_isRow_1 l g z I0 p0 hO) (va_cwS 1 hts gX6_drop_X6_isRow rfl rfl rfl (by decide +kernel) ⟨Nat.le_of_ble_eq_true rfl, Nat.le_of_ble_eq_true rfl⟩) hK hT hW hS rfl hl.1 rfl (Nat.le_of_ble_eq_true rfl) dX6_drop_1 ⟨Nat.zero_le _, Nat.zero_le _⟩ (fun v1 I1 H1 L1 hp1 hW hS => ?_)
  obtain ⟨hF1, hO, hc1⟩ := hp1
  have hF := dkF_call hF hF1 rfl
  have eI1 : I0 = I1 := (dkF_nil hF1).symm
  subst eI1
  rcases hc1 with ⟨dv1, a1_0, x1_0, xr1, -⟩ | hc1
  ·
    have q2 : p0.toInt + 1 ≤ (0 : Int) := x1_0
    have xv1 : v1 = 0 := by rw [xr1]
    have d3 : dkN [(-2147483648, -1)] p0 := dkN_eq1 (dkN_top p0) a1_0 rfl rfl
    refine lv_if_ne (tgt := 10) hx hb dX6_drop_4 (by decide) (fun c4 => ?_) (fun c4 => ?_)
    ·
      exact (dkN_nil (show dkN [] v1 from dkN_ne1 (0) dv1 (dkN_lit (x := 0) (0) rfl) (dk_ne c4) rfl)).elim
    ·
      refine lv_ldc (v := (-1000001)) hx hb hown (hts (.constant RX6 64 (-1000001)) (List.mem_of_getElem? (i := 1) rfl)) dX6_drop_7 ?_
      exact W.iret (v := (-1000001)) hx hb hr (fun t ht hW9 => ⟨⟨(-1000001), I0, rfl, ⟨hF, hO, Or.inl ⟨dkN_sub (dkN_lit (x := (-1000001)) (-1000001) rfl) rfl, dkN_sub d3 rfl, q2, rfl, rfl, rfl, trivial⟩⟩, dkW_eq ht hW⟩, hS.F ht⟩) hS.2.2 dX6_drop_9
  rcases hc1 with ⟨dv1, a1_0, x1_0, x1_1, xr1, -⟩ | hc1
  ·
    have q5 : (0 : Int) + 0 ≤ p0.toInt := x1_0
    have q6 : (7 : Int) + 1 ≤ p0.toInt := x1_1
    have xv1 : v1 = 0 := by rw [xr1]
    have d7 : dkN [(8, 2147483647)] p0 := dkN_eq1 (dkN_top p0) a1_0 rfl rfl
    refine lv_if_ne (tgt := 10) hx hb dX6_drop_4 (by decide) (fun c8 => ?_) (fun c8 => ?_)
    ·
      exact (dkN_nil (show dkN [] v1 from dkN_ne1 (0) dv1 (dkN_lit (x := 0) (0) rfl) (dk_ne c8) rfl)).elim
    ·
      refine lv_ldc (v := (-1000001)) hx hb hown (hts (.constant RX6 64 (-1000001)) (List.mem_of_getElem? (i := 1) rfl)) dX6_drop_7 ?_
      exact W.iret (v := (-1000001)) hx hb hr (fun t ht hW9 => ⟨⟨(-1000001), I0, rfl, ⟨hF, hO, Or.inr (Or.inl ⟨dkN_sub (dkN_lit (x := (-1000001)) (-1000001) rfl) rfl, dkN_sub d7 rfl, q5, q6, rfl, rfl, rfl, trivial⟩)⟩, dkW_eq ht hW⟩, hS.F ht⟩) hS.2.2 dX6_drop_9
  ·
    obtain ⟨dv1, a1_0, x1_0, x1_1, xr1, -⟩ := hc1
    have q9 : (0 : Int) + 0 ≤ p0.toInt := x1_0
    have q10 : p0.toInt + 0 ≤ (7 : Int) := x1_1
    have xv1 : v1 = 1 := by rw [xr1]
    have d11 : dkN [(0, 7)] p0 := dkN_eq1 (dkN_top p0) a1_0 rfl rfl
    refine lv_if_ne (tgt := 10) hx hb dX6_drop_4 (by decide) (fun c12 => ?_) (fun c12 => ?_)
    ·
      refine lv_aload_n hx hb dX6_drop_10 rfl (lv_at hl 0 rfl) ?_
      refine lv_iload_n hx hb dX6_drop_11 rfl (lv_at hl 1 rfl) ?_
      refine dk_Vi (As := [.int p0]) (rest := []) ⟨hx, hb, hml, hown, hts⟩ (f_X6_isMissing_1 l g z I0 p0 d11 hO) (cwV 1 hts gX6_drop_X6_isMissing rfl rfl rfl (by decide +kernel) ⟨Nat.le_of_ble_eq_true rfl, Nat.le_of_ble_eq_true rfl⟩) (dk_at340 hW) rfl hK hT hW hS rfl hl.1 rfl (Nat.le_of_ble_eq_true rfl) dX6_drop_12 ⟨Nat.zero_le _, Nat.zero_le _⟩ (fun v13 I13 H13 L13 hp13 hW hS => ?_)
      obtain ⟨hF13, hO, hc13⟩ := hp13
      have hF := dkF_call hF hF13 rfl
      have eI13 : I0 = I13 := (dkF_nil hF13).symm
      subst eI13
      rcases hc13 with ⟨dv13, x13_0, xr13, -⟩ | hc13
      ·
        have q14 : (I0 341 (Int32.toNatClampNeg p0)).toInt ≠ (-1000000 : Int) := x13_0
        have xv13 : v13 = 0 := by rw [xr13]
        refine lv_if_eq (tgt := 24) hx hb dX6_drop_15 (by decide) (fun c15 => ?_) (fun c15 => ?_)
        ·
          refine lv_aload_n hx hb dX6_drop_24 rfl (lv_at hl 0 rfl) ?_
          refine dk_get (k := 340) hx hb hts iX6_drop_6 hown hK (dk_at340 hW) rfl 0 (by decide) (hts (.fieldLink RX6 7 "DogKingsModel" "lane" "[I") (List.mem_of_getElem? (i := 2) rfl)) rfl dX6_drop_25 ?_
          refine lv_iload_n hx hb dX6_drop_28 rfl (lv_at hl 1 rfl) ?_
          refine lv_ldc (v := (-1000000)) hx hb hown (hts (.constant RX6 50 (-1000000)) (List.mem_of_getElem? (i := 3) rfl)) dX6_drop_29 ?_
          refine dk_ist (k := 341) hx hb hK hW (fun _ => rfl) (by decide) hS (dkN_in (n := 8) d11 rfl) dX6_drop_31 (fun I16 H16 L16 eI16 hW hS => ?_)
          have hO := dkO_set hO eI16 (dkN_sub (dkN_lit (x := (-1000000)) (-1000000) rfl) rfl)
          have hF := dkF_set hF eI16 (dkIn_v d11 rfl)
          refine lv_aload_n hx hb dX6_drop_32 rfl (lv_at hl 0 rfl) ?_
          refine lv_aload_n hx hb dX6_drop_33 rfl (lv_at hl 0 rfl) ?_
          refine dk_get (k := 340) hx hb hts iX6_drop_6 hown hK (dk_at340 hW) rfl 1 (by decide) (hts (.fieldLink RX6 13 "DogKingsModel" "many" "[I") (List.mem_of_getElem? (i := 4) rfl)) rfl dX6_drop_34 ?_
          refine lv_iload_n hx hb dX6_drop_37 rfl (lv_at hl 1 rfl) ?_
          refine dk_ild (k := 342) hx hb hK (dk_at342 hW) (dkN_in (n := 8) d11 rfl) dX6_drop_38 ?_
          refine lv_topi (fun v17 ev17 => ?_)
          have dv17 : dkN [(0, 40)] v17 := by rw [ev17]; exact (hO 342 _)
          have xv17 : v17 = I0 342 (Int32.toNatClampNeg p0) := ev17.trans ((by rw [eI16, dkU_n (by decide)] : I16 342 (Int32.toNatClampNeg p0) = _).trans rfl)
          refine dk_Vi (As := [.int v17]) (rest := []) ⟨hx, hb, hml, hown, hts⟩ (f_X6_well_1 l g z I16 v17 hO) (cwV 1 hts gX6_drop_X6_well rfl rfl rfl (by decide +kernel) ⟨Nat.le_of_ble_eq_true rfl, Nat.le_of_ble_eq_true rfl⟩) (dk_at340 hW) rfl hK hT hW hS rfl hl.1 rfl (Nat.le_of_ble_eq_true rfl) dX6_drop_39 ⟨Nat.zero_le _, Nat.zero_le _⟩ (fun v18 I18 H18 L18 hp18 hW hS => ?_)
          obtain ⟨hF18, hO, hc18⟩ := hp18
          have hF := dkF_call hF hF18 rfl
          obtain ⟨_, f18_340_4, xr18, -⟩ := hc18
          have xv18 : v18 = (I0 342 (Int32.toNatClampNeg p0)) := by rw [xr18, xv17]
          exact W.iret (v := v18) hx hb hr (fun t ht hW9 => ⟨⟨v18, I18, rfl, ⟨hF, hO, Or.inr (Or.inr (Or.inl ⟨trivial, dkN_sub d11 rfl, (show dkN [(0, 0)] (I18 340 4) from dkN_sub f18_340_4 rfl), q9, q10, q14, xv18, ((funext fun j => hF18 341 j (dkNin_k rfl dkNin_nil)).trans (by rw [eI16, dkU_s, show (I0 341) = I0 341 from rfl])), ((funext fun j => hF18 342 j (dkNin_k rfl dkNin_nil)).trans ((by rw [eI16, dkU_n (by decide)] : I16 342 = _).trans rfl)), trivial⟩))⟩, dkW_eq ht hW⟩, hS.F ht⟩) hS.2.2 dX6_drop_42
        ·
          exact (dkN_nil (show dkN [] v13 from dkN_ne1 (0) dv13 (dkN_lit (x := 0) (0) rfl) (dk_ne c15) rfl)).elim
      ·
        obtain ⟨dv13, x13_0, xr13, -⟩ := hc13
        have q19 : (I0 341 (Int32.toNatClampNeg p0)).toInt = (-1000000 : Int) := x13_0
        have xv13 : v13 = 1 := by rw [xr13]
        refine lv_if_eq (tgt := 24) hx hb dX6_drop_15 (by decide) (fun c20 => ?_) (fun c20 => ?_)
        ·
          exact (dkN_nil (show dkN [] v13 from dkN_eq1 dv13 (dkN_lit (x := 0) (0) rfl) (congrArg Int32.toInt c20) rfl)).elim
        ·
          refine lv_aload_n hx hb dX6_drop_18 rfl (lv_at hl 0 rfl) ?_
          refine lv_iconst (v := 1) hx hb dX6_drop_19 (by decide) ?_
          refine dk_Vi (As := [.int 1]) (rest := []) ⟨hx, hb, hml, hown, hts⟩ (f_X6_found_6 l g z I0 1 (dkN_lit (x := 1) (1) rfl) hO) (cwV 1 hts gX6_drop_X6_found rfl rfl rfl (by decide +kernel) ⟨Nat.le_of_ble_eq_true rfl, Nat.le_of_ble_eq_true rfl⟩) (dk_at340 hW) rfl hK hT hW hS rfl hl.1 rfl (Nat.le_of_ble_eq_true rfl) dX6_drop_20 ⟨Nat.zero_le _, Nat.zero_le _⟩ (fun v21 I21 H21 L21 hp21 hW hS => ?_)
          obtain ⟨hF21, hO, hc21⟩ := hp21
          have hF := dkF_call hF hF21 rfl
          obtain ⟨dv21, f21_340_4, x21_0, xr21, -⟩ := hc21
          have q22 : ((-1000010 : Int32) - (1 : Int32)).toInt = (-1000010 : Int) - (1 : Int) := x21_0
          have xv21 : v21 = (-1000010 : Int32) - (1 : Int32) := by rw [xr21]
          exact W.iret (v := v21) hx hb hr (fun t ht hW9 => ⟨⟨v21, I21, rfl, ⟨hF, hO, Or.inr (Or.inr (Or.inr (⟨dkN_sub dv21 rfl, dkN_sub d11 rfl, (show dkN [(1, 1)] (I21 340 4) from dkN_sub f21_340_4 rfl), q9, q10, q19, q22, xv21, ((funext fun j => hF21 341 j (dkNin_k rfl dkNin_nil)).trans rfl), ((funext fun j => hF21 342 j (dkNin_k rfl dkNin_nil)).trans rfl), trivial⟩)))⟩, dkW_eq ht hW⟩, hS.F ht⟩) hS.2.2 dX6_drop_23
    ·
      exact (dkN_nil (show dkN [] v1 from dkN_eq1 dv1 (dkN_lit (x := 0) (0) rfl) (congrArg Int32.toInt c12) rfl)).elim
set_option maxHeartbeats 4000000 in
set_option maxRecDepth 100000 in
theorem f_X5_hasItems_3 (l : Launch) (g : dkG) (z : Nat) (I0 : dkI) (p0 : Int32) (p1 : Int32) (p2 : Int32) (dp0 : dkN [(0, 7)] p0)  (hO : dkOk I0) : Met l yX5_hasItems wsX5_hasItems (dkR 0) (dkPc g z [.ref (z + 0), .int p0, .int p1, .int p2] I0) (dkQi g z (fun r I1 => dkF [] I0 I1 ∧ dkOk I1 ∧ ((dkN [(0, 0)] r ∧ dkN [(-2147483648, -1)] p1 ∧ p1.toInt + 1 ≤ (0 : Int) ∧ r = 0 ∧ True) ∨ (dkN [(0, 0)] r ∧ dkN [(0, 2147483647)] p1 ∧ dkN [(-2147483648, -1)] p2 ∧ (0 : Int) + 0 ≤ p1.toInt ∧ p2.toInt + 1 ≤ (0 : Int) ∧ r = 0 ∧ True) ∨ (dkN [(0, 0)] r ∧ dkN [(0, 2147483647)] p1 ∧ dkN [(0, 2147483647)] p2 ∧ (0 : Int) + 0 ≤ p1.toInt ∧ (0 : Int) + 0 ≤ p2.toInt ∧ ((I0 11 (Int32.toNatClampNeg p0)) - p2).toInt = (I0 11 (Int32.toNatClampNeg p0)).toInt - p2.toInt ∧ ((I0 11 (Int32.toNatClampNeg p0)) - p2).toInt + 1 ≤ p1.toInt ∧ r = 0 ∧ True) ∨ (dkN [(1, 1)] r ∧ dkN [(0, 40)] p1 ∧ dkN [(0, 2147483647)] p2 ∧ p1.toInt + p2.toInt ≤ 40 ∧ (0 : Int) + 0 ≤ p1.toInt ∧ (0 : Int) + 0 ≤ p2.toInt ∧ ((I0 11 (Int32.toNatClampNeg p0)) - p2).toInt = (I0 11 (Int32.toNatClampNeg p0)).toInt - p2.toInt ∧ p1.toInt + 0 ≤ ((I0 11 (Int32.toNatClampNeg p0)) - p2).toInt ∧ r = 1 ∧ True)))) 0 0 (dkA z) := by
  refine Met.ofW (cc := cX5_hasItems) (maxL := 4) (ret := (some .boolean)) (by decide) rfl ?_
  intro p e s m args below meth c s₁ B hml hv
  obtain ⟨ha, hW, hK, hT⟩ := hv
  have hx := B.exec
  have hb := B.bytes
  have hr := B.returns
  have hts := atoms_spec (ws := wsX5_hasItems) B.pre
  have hown : s.vm.findClass RX5 = some m.cls := findClass_of_methodNamed B.named
  have hlocks := B.notSynchronized
  have hS : va_S (dkA z) s.heap s.heap [] := va_S.rf
  have hF : dkF [] I0 I0 := dkF_rf _ _
  have hl := lv_entry ([.ref (z + 0), .int p0, .int p1, .int p2]) (n := 4) (Nat.le_of_ble_eq_true rfl)
  have hgo : entryFrame m args 4 = entryFrame m ([.ref (z + 0), .int p0, .int p1, .int p2] : List Value).toArray 4 := by rw [ha]
  rw [hgo, lg_entry_eq]
  generalize (lg_sl ([.ref (z + 0), .int p0, .int p1, .int p2]) ++ List.replicate (4 - (lg_sl ([.ref (z + 0), .int p0, .int p1, .int p2])).length) Slot.unset).toArray = ls at hl ⊢
  have hl : lv_has ls 4 [(0, .ref (z + 0)), (1, .int p0), (2, .int p1), (3, .int p2)] := hl
  refine lv_iload_n hx hb dX5_hasItems_0 rfl (lv_at hl 2 rfl) ?_
  refine lv_if_lt (tgt := 24) hx hb dX5_hasItems_1 (by decide) (fun c1 => ?_) (fun c1 => ?_)
  ·
    have q2 : p1.toInt + 1 ≤ (0 : Int) := (dkc_lt c1)
    have d3 : dkN [(-2147483648, -1)] p1 := dkN_le1 1 (dkN_top p1) (dkN_lit (x := 0) (0) rfl) (dkc_lt c1) rfl
    refine lv_iconst (v := 0) hx hb dX5_hasItems_24 (by decide) ?_
    exact W.zret (v := 0) (ty := .boolean) hx hb hr rfl (fun t ht hW9 => ⟨⟨0, I0, rfl, ⟨hF, hO, Or.inl ⟨dkN_sub (dkN_lit (x := 0) (0) rfl) rfl, dkN_sub d3 rfl, q2, rfl, trivial⟩⟩, dkW_eq ht hW⟩, hS.F ht⟩) hS.2.2 dX5_hasItems_25
  ·
    have q4 : (0 : Int) + 0 ≤ p1.toInt := (dkc_nlt c1)
    have d5 : dkN [(0, 2147483647)] p1 := dkN_le2 0 (dkN_lit (x := 0) (0) rfl) (dkN_top p1) (dkc_nlt c1) rfl
    refine lv_iload_n hx hb dX5_hasItems_4 rfl (lv_at hl 3 rfl) ?_
    refine lv_if_lt (tgt := 24) hx hb dX5_hasItems_5 (by decide) (fun c6 => ?_) (fun c6 => ?_)
    ·
      have q7 : p2.toInt + 1 ≤ (0 : Int) := (dkc_lt c6)
      have d8 : dkN [(-2147483648, -1)] p2 := dkN_le1 1 (dkN_top p2) (dkN_lit (x := 0) (0) rfl) (dkc_lt c6) rfl
      refine lv_iconst (v := 0) hx hb dX5_hasItems_24 (by decide) ?_
      exact W.zret (v := 0) (ty := .boolean) hx hb hr rfl (fun t ht hW9 => ⟨⟨0, I0, rfl, ⟨hF, hO, Or.inr (Or.inl ⟨dkN_sub (dkN_lit (x := 0) (0) rfl) rfl, dkN_sub d5 rfl, dkN_sub d8 rfl, q4, q7, rfl, trivial⟩)⟩, dkW_eq ht hW⟩, hS.F ht⟩) hS.2.2 dX5_hasItems_25
    ·
      have q9 : (0 : Int) + 0 ≤ p2.toInt := (dkc_nlt c6)
      have d10 : dkN [(0, 2147483647)] p2 := dkN_le2 0 (dkN_lit (x := 0) (0) rfl) (dkN_top p2) (dkc_nlt c6) rfl
      refine lv_iload_n hx hb dX5_hasItems_8 rfl (lv_at hl 2 rfl) ?_
      refine lv_aload_n hx hb dX5_hasItems_9 rfl (lv_at hl 0 rfl) ?_
      refine dk_get (k := 0) hx hb hts iX5_hasItems_5 hown hK (dk_at0 hW) rfl 2 (by decide) (hts (.fieldLink RX5 18 "DogKings" "sizes" "[I") (List.mem_of_getElem? (i := 1) rfl)) rfl dX5_hasItems_10 ?_
      refine lv_iload_n hx hb dX5_hasItems_13 rfl (lv_at hl 1 rfl) ?_
      refine dk_ild (k := 11) hx hb hK (dk_at11 hW) (dkN_in (n := 8) dp0 rfl) dX5_hasItems_14 ?_
      refine lv_topi (fun v11 ev11 => ?_)
      have dv11 : dkN [(-1, 40)] v11 := by rw [ev11]; exact (hO 11 _)
      have xv11 : v11 = I0 11 (Int32.toNatClampNeg p0) := ev11.trans rfl
      refine lv_iload_n hx hb dX5_hasItems_15 rfl (lv_at hl 3 rfl) ?_
      refine lv_isub hx hb dX5_hasItems_16 ?_
      refine lv_topi (fun v12 ev12 => ?_)
      have dv12 : dkN [(-2147483648, 40)] v12 := by rw [ev12]; exact dkN_subt dv11 d10 rfl
      have xv12 : v12 = (I0 11 (Int32.toNatClampNeg p0)) - p2 := by rw [ev12, xv11]
      have q13 : ((I0 11 (Int32.toNatClampNeg p0)) - p2).toInt = (I0 11 (Int32.toNatClampNeg p0)).toInt - p2.toInt := by rw [← xv12, ← xv11]; exact (by rw [ev12]; exact dk_subE dv11 d10 rfl)
      refine lv_icmp_gt (tgt := 24) hx hb dX5_hasItems_17 (by decide) (fun c14 => ?_) (fun c14 => ?_)
      ·
        have q15 : ((I0 11 (Int32.toNatClampNeg p0)) - p2).toInt + 1 ≤ p1.toInt := by rw [← xv12]; exact (dkc_lt c14)
        refine lv_iconst (v := 0) hx hb dX5_hasItems_24 (by decide) ?_
        exact W.zret (v := 0) (ty := .boolean) hx hb hr rfl (fun t ht hW9 => ⟨⟨0, I0, rfl, ⟨hF, hO, Or.inr (Or.inr (Or.inl ⟨dkN_sub (dkN_lit (x := 0) (0) rfl) rfl, dkN_sub d5 rfl, dkN_sub d10 rfl, q4, q9, q13, q15, rfl, trivial⟩))⟩, dkW_eq ht hW⟩, hS.F ht⟩) hS.2.2 dX5_hasItems_25
      ·
        have q16 : p1.toInt + 0 ≤ ((I0 11 (Int32.toNatClampNeg p0)) - p2).toInt := by rw [← xv12]; exact (dkc_nlt c14)
        have d17 : dkN [(0, 40)] v12 := dkN_le2 0 d5 dv12 (dkc_nlt c14) rfl
        have d18 : dkN [(0, 40)] p1 := dkN_le1 0 d5 dv12 (dkc_nlt c14) rfl
        refine lv_iconst (v := 1) hx hb dX5_hasItems_20 (by decide) ?_
        refine lv_goto (tgt := 25) hx hb dX5_hasItems_21 (by decide) ?_
        exact W.zret (v := 1) (ty := .boolean) hx hb hr rfl (fun t ht hW9 => ⟨⟨1, I0, rfl, ⟨hF, hO, Or.inr (Or.inr (Or.inr (⟨dkN_sub (dkN_lit (x := 1) (1) rfl) rfl, dkN_sub d18 rfl, dkN_sub d10 rfl, (dk_relsubR ev12 dv11 d10 (dkc_nlt c14) rfl), q4, q9, q13, q16, rfl, trivial⟩)))⟩, dkW_eq ht hW⟩, hS.F ht⟩) hS.2.2 dX5_hasItems_25
set_option maxHeartbeats 4000000 in
set_option maxRecDepth 100000 in
theorem f_X5_found_7 (l : Launch) (g : dkG) (z : Nat) (I0 : dkI) (p0 : Int32) (dp0 : dkN [(2, 2)] p0)  (hO : dkOk I0) : Met l yX5_found wsX5_found (dkR 0) (dkPc g z [.ref (z + 0), .int p0] I0) (dkQi g z (fun r I1 => dkF [(0, 0, 3, 3)] I0 I1 ∧ dkOk I1 ∧ ((dkN [(-1000012, -1000012)] r ∧ dkN [(2, 2)] (I1 0 3) ∧ ((-1000010 : Int32) - p0).toInt = (-1000010 : Int) - p0.toInt ∧ r = (-1000010 : Int32) - p0 ∧ True)))) 0 0 (dkA z) := by
  refine Met.ofW (cc := cX5_found) (maxL := 2) (ret := (some .int)) (by decide) rfl ?_
  intro p e s m args below meth c s₁ B hml hv
  obtain ⟨ha, hW, hK, hT⟩ := hv
  have hx := B.exec
  have hb := B.bytes
  have hr := B.returns
  have hts := atoms_spec (ws := wsX5_found) B.pre
  have hown : s.vm.findClass RX5 = some m.cls := findClass_of_methodNamed B.named
  have hlocks := B.notSynchronized
  have hS : va_S (dkA z) s.heap s.heap [] := va_S.rf
  have hF : dkF [(0, 0, 3, 3)] I0 I0 := dkF_rf _ _
  have hl := lv_entry ([.ref (z + 0), .int p0]) (n := 2) (Nat.le_of_ble_eq_true rfl)
  have hgo : entryFrame m args 2 = entryFrame m ([.ref (z + 0), .int p0] : List Value).toArray 2 := by rw [ha]
  rw [hgo, lg_entry_eq]
  generalize (lg_sl ([.ref (z + 0), .int p0]) ++ List.replicate (2 - (lg_sl ([.ref (z + 0), .int p0])).length) Slot.unset).toArray = ls at hl ⊢
  have hl : lv_has ls 2 [(0, .ref (z + 0)), (1, .int p0)] := hl
  refine lv_aload_n hx hb dX5_found_0 rfl (lv_at hl 0 rfl) ?_
  refine lv_iload_n hx hb dX5_found_1 rfl (lv_at hl 1 rfl) ?_
  refine dk_put (k := 0) hx hb hts iX5_found_5 tyX5 tyX5_ok nmX5 hown hK hW (dk_at0 hW) hS rfl 3 (by decide) (hts (.fieldLink RX5 292 "DogKings" "finding" "I") (List.mem_of_getElem? (i := 1) rfl)) rfl rfl (Nat.le_of_ble_eq_true rfl) rfl dX5_found_2 (fun I1 H1 L1 eI1 hW hS => ?_)
  have eI1 : I1 = dkU I0 0 3 p0 := eI1
  have hO := dkO_set hO eI1 (dkN_sub dp0 rfl)
  have hF := dkF_set hF eI1 rfl
  refine lv_ldcw (v := (-1000010)) hx hb hown (hts (.constant RX5 295 (-1000010)) (List.mem_of_getElem? (i := 2) rfl)) dX5_found_5 ?_
  refine lv_iload_n hx hb dX5_found_8 rfl (lv_at hl 1 rfl) ?_
  refine lv_isub hx hb dX5_found_9 ?_
  refine lv_topi (fun v2 ev2 => ?_)
  have dv2 : dkN [(-1000012, -1000012)] v2 := by rw [ev2]; exact dkN_subt (dkN_lit (x := (-1000010)) (-1000010) rfl) dp0 rfl
  have xv2 : v2 = (-1000010 : Int32) - p0 := by rw [ev2]
  have q3 : ((-1000010 : Int32) - p0).toInt = (-1000010 : Int) - p0.toInt := by rw [← xv2]; exact (by rw [ev2]; exact dk_subE (dkN_lit (x := (-1000010)) (-1000010) rfl) dp0 rfl)
  exact W.iret (v := v2) hx hb hr (fun t ht hW9 => ⟨⟨v2, I1, rfl, ⟨hF, hO, ⟨dkN_sub dv2 rfl, (show dkN [(2, 2)] (I1 0 3) from dkN_sub (by rw [eI1, dkU_ss]; exact dp0) rfl), q3, xv2, trivial⟩⟩, dkW_eq ht hW⟩, hS.F ht⟩) hS.2.2 dX5_found_10
set_option maxHeartbeats 4000000 in
set_option maxRecDepth 100000 in
theorem f_X5_hasItems_4 (l : Launch) (g : dkG) (z : Nat) (I0 : dkI) (p0 : Int32) (p1 : Int32) (p2 : Int32) (dp0 : dkN [(0, 7)] p0) (dp2 : dkN [(0, 2147483647)] p2)  (hO : dkOk I0) : Met l yX5_hasItems wsX5_hasItems (dkR 0) (dkPc g z [.ref (z + 0), .int p0, .int p1, .int p2] I0) (dkQi g z (fun r I1 => dkF [] I0 I1 ∧ dkOk I1 ∧ ((dkN [(0, 0)] r ∧ dkN [(-2147483648, -1)] p1 ∧ p1.toInt + 1 ≤ (0 : Int) ∧ r = 0 ∧ True) ∨ (dkN [(0, 0)] r ∧ dkN [(0, 2147483647)] p1 ∧ (0 : Int) + 0 ≤ p1.toInt ∧ (0 : Int) + 0 ≤ p2.toInt ∧ ((I0 11 (Int32.toNatClampNeg p0)) - p2).toInt = (I0 11 (Int32.toNatClampNeg p0)).toInt - p2.toInt ∧ ((I0 11 (Int32.toNatClampNeg p0)) - p2).toInt + 1 ≤ p1.toInt ∧ r = 0 ∧ True) ∨ (dkN [(1, 1)] r ∧ dkN [(0, 40)] p1 ∧ p1.toInt + p2.toInt ≤ 40 ∧ (0 : Int) + 0 ≤ p1.toInt ∧ (0 : Int) + 0 ≤ p2.toInt ∧ ((I0 11 (Int32.toNatClampNeg p0)) - p2).toInt = (I0 11 (Int32.toNatClampNeg p0)).toInt - p2.toInt ∧ p1.toInt + 0 ≤ ((I0 11 (Int32.toNatClampNeg p0)) - p2).toInt ∧ r = 1 ∧ True)))) 0 0 (dkA z) := by
  refine Met.ofW (cc := cX5_hasItems) (maxL := 4) (ret := (some .boolean)) (by decide) rfl ?_
  intro p e s m args below meth c s₁ B hml hv
  obtain ⟨ha, hW, hK, hT⟩ := hv
  have hx := B.exec
  have hb := B.bytes
  have hr := B.returns
  have hts := atoms_spec (ws := wsX5_hasItems) B.pre
  have hown : s.vm.findClass RX5 = some m.cls := findClass_of_methodNamed B.named
  have hlocks := B.notSynchronized
  have hS : va_S (dkA z) s.heap s.heap [] := va_S.rf
  have hF : dkF [] I0 I0 := dkF_rf _ _
  have hl := lv_entry ([.ref (z + 0), .int p0, .int p1, .int p2]) (n := 4) (Nat.le_of_ble_eq_true rfl)
  have hgo : entryFrame m args 4 = entryFrame m ([.ref (z + 0), .int p0, .int p1, .int p2] : List Value).toArray 4 := by rw [ha]
  rw [hgo, lg_entry_eq]
  generalize (lg_sl ([.ref (z + 0), .int p0, .int p1, .int p2]) ++ List.replicate (4 - (lg_sl ([.ref (z + 0), .int p0, .int p1, .int p2])).length) Slot.unset).toArray = ls at hl ⊢
  have hl : lv_has ls 4 [(0, .ref (z + 0)), (1, .int p0), (2, .int p1), (3, .int p2)] := hl
  refine lv_iload_n hx hb dX5_hasItems_0 rfl (lv_at hl 2 rfl) ?_
  refine lv_if_lt (tgt := 24) hx hb dX5_hasItems_1 (by decide) (fun c1 => ?_) (fun c1 => ?_)
  ·
    have q2 : p1.toInt + 1 ≤ (0 : Int) := (dkc_lt c1)
    have d3 : dkN [(-2147483648, -1)] p1 := dkN_le1 1 (dkN_top p1) (dkN_lit (x := 0) (0) rfl) (dkc_lt c1) rfl
    refine lv_iconst (v := 0) hx hb dX5_hasItems_24 (by decide) ?_
    exact W.zret (v := 0) (ty := .boolean) hx hb hr rfl (fun t ht hW9 => ⟨⟨0, I0, rfl, ⟨hF, hO, Or.inl ⟨dkN_sub (dkN_lit (x := 0) (0) rfl) rfl, dkN_sub d3 rfl, q2, rfl, trivial⟩⟩, dkW_eq ht hW⟩, hS.F ht⟩) hS.2.2 dX5_hasItems_25
  ·
    have q4 : (0 : Int) + 0 ≤ p1.toInt := (dkc_nlt c1)
    have d5 : dkN [(0, 2147483647)] p1 := dkN_le2 0 (dkN_lit (x := 0) (0) rfl) (dkN_top p1) (dkc_nlt c1) rfl
    refine lv_iload_n hx hb dX5_hasItems_4 rfl (lv_at hl 3 rfl) ?_
    refine lv_if_lt (tgt := 24) hx hb dX5_hasItems_5 (by decide) (fun c6 => ?_) (fun c6 => ?_)
    ·
      exact (dkN_nil (show dkN [] p2 from dkN_le1 1 dp2 (dkN_lit (x := 0) (0) rfl) (dkc_lt c6) rfl)).elim
    ·
      have q7 : (0 : Int) + 0 ≤ p2.toInt := (dkc_nlt c6)
      refine lv_iload_n hx hb dX5_hasItems_8 rfl (lv_at hl 2 rfl) ?_
      refine lv_aload_n hx hb dX5_hasItems_9 rfl (lv_at hl 0 rfl) ?_
      refine dk_get (k := 0) hx hb hts iX5_hasItems_5 hown hK (dk_at0 hW) rfl 2 (by decide) (hts (.fieldLink RX5 18 "DogKings" "sizes" "[I") (List.mem_of_getElem? (i := 1) rfl)) rfl dX5_hasItems_10 ?_
      refine lv_iload_n hx hb dX5_hasItems_13 rfl (lv_at hl 1 rfl) ?_
      refine dk_ild (k := 11) hx hb hK (dk_at11 hW) (dkN_in (n := 8) dp0 rfl) dX5_hasItems_14 ?_
      refine lv_topi (fun v8 ev8 => ?_)
      have dv8 : dkN [(-1, 40)] v8 := by rw [ev8]; exact (hO 11 _)
      have xv8 : v8 = I0 11 (Int32.toNatClampNeg p0) := ev8.trans rfl
      refine lv_iload_n hx hb dX5_hasItems_15 rfl (lv_at hl 3 rfl) ?_
      refine lv_isub hx hb dX5_hasItems_16 ?_
      refine lv_topi (fun v9 ev9 => ?_)
      have dv9 : dkN [(-2147483648, 40)] v9 := by rw [ev9]; exact dkN_subt dv8 dp2 rfl
      have xv9 : v9 = (I0 11 (Int32.toNatClampNeg p0)) - p2 := by rw [ev9, xv8]
      have q10 : ((I0 11 (Int32.toNatClampNeg p0)) - p2).toInt = (I0 11 (Int32.toNatClampNeg p0)).toInt - p2.toInt := by rw [← xv9, ← xv8]; exact (by rw [ev9]; exact dk_subE dv8 dp2 rfl)
      refine lv_icmp_gt (tgt := 24) hx hb dX5_hasItems_17 (by decide) (fun c11 => ?_) (fun c11 => ?_)
      ·
        have q12 : ((I0 11 (Int32.toNatClampNeg p0)) - p2).toInt + 1 ≤ p1.toInt := by rw [← xv9]; exact (dkc_lt c11)
        refine lv_iconst (v := 0) hx hb dX5_hasItems_24 (by decide) ?_
        exact W.zret (v := 0) (ty := .boolean) hx hb hr rfl (fun t ht hW9 => ⟨⟨0, I0, rfl, ⟨hF, hO, Or.inr (Or.inl ⟨dkN_sub (dkN_lit (x := 0) (0) rfl) rfl, dkN_sub d5 rfl, q4, q7, q10, q12, rfl, trivial⟩)⟩, dkW_eq ht hW⟩, hS.F ht⟩) hS.2.2 dX5_hasItems_25
      ·
        have q13 : p1.toInt + 0 ≤ ((I0 11 (Int32.toNatClampNeg p0)) - p2).toInt := by rw [← xv9]; exact (dkc_nlt c11)
        have d14 : dkN [(0, 40)] v9 := dkN_le2 0 d5 dv9 (dkc_nlt c11) rfl
        have d15 : dkN [(0, 40)] p1 := dkN_le1 0 d5 dv9 (dkc_nlt c11) rfl
        refine lv_iconst (v := 1) hx hb dX5_hasItems_20 (by decide) ?_
        refine lv_goto (tgt := 25) hx hb dX5_hasItems_21 (by decide) ?_
        exact W.zret (v := 1) (ty := .boolean) hx hb hr rfl (fun t ht hW9 => ⟨⟨1, I0, rfl, ⟨hF, hO, Or.inr (Or.inr (⟨dkN_sub (dkN_lit (x := 1) (1) rfl) rfl, dkN_sub d15 rfl, (dk_relsubR ev9 dv8 dp2 (dkc_nlt c11) rfl), q4, q7, q10, q13, rfl, trivial⟩))⟩, dkW_eq ht hW⟩, hS.F ht⟩) hS.2.2 dX5_hasItems_25
set_option maxHeartbeats 4000000 in
set_option maxRecDepth 100000 in
theorem f_X5_found_8 (l : Launch) (g : dkG) (z : Nat) (I0 : dkI) (p0 : Int32) (dp0 : dkN [(5, 5)] p0)  (hO : dkOk I0) : Met l yX5_found wsX5_found (dkR 0) (dkPc g z [.ref (z + 0), .int p0] I0) (dkQi g z (fun r I1 => dkF [(0, 0, 3, 3)] I0 I1 ∧ dkOk I1 ∧ ((dkN [(-1000015, -1000015)] r ∧ dkN [(5, 5)] (I1 0 3) ∧ ((-1000010 : Int32) - p0).toInt = (-1000010 : Int) - p0.toInt ∧ r = (-1000010 : Int32) - p0 ∧ True)))) 0 0 (dkA z) := by
  refine Met.ofW (cc := cX5_found) (maxL := 2) (ret := (some .int)) (by decide) rfl ?_
  intro p e s m args below meth c s₁ B hml hv
  obtain ⟨ha, hW, hK, hT⟩ := hv
  have hx := B.exec
  have hb := B.bytes
  have hr := B.returns
  have hts := atoms_spec (ws := wsX5_found) B.pre
  have hown : s.vm.findClass RX5 = some m.cls := findClass_of_methodNamed B.named
  have hlocks := B.notSynchronized
  have hS : va_S (dkA z) s.heap s.heap [] := va_S.rf
  have hF : dkF [(0, 0, 3, 3)] I0 I0 := dkF_rf _ _
  have hl := lv_entry ([.ref (z + 0), .int p0]) (n := 2) (Nat.le_of_ble_eq_true rfl)
  have hgo : entryFrame m args 2 = entryFrame m ([.ref (z + 0), .int p0] : List Value).toArray 2 := by rw [ha]
  rw [hgo, lg_entry_eq]
  generalize (lg_sl ([.ref (z + 0), .int p0]) ++ List.replicate (2 - (lg_sl ([.ref (z + 0), .int p0])).length) Slot.unset).toArray = ls at hl ⊢
  have hl : lv_has ls 2 [(0, .ref (z + 0)), (1, .int p0)] := hl
  refine lv_aload_n hx hb dX5_found_0 rfl (lv_at hl 0 rfl) ?_
  refine lv_iload_n hx hb dX5_found_1 rfl (lv_at hl 1 rfl) ?_
  refine dk_put (k := 0) hx hb hts iX5_found_5 tyX5 tyX5_ok nmX5 hown hK hW (dk_at0 hW) hS rfl 3 (by decide) (hts (.fieldLink RX5 292 "DogKings" "finding" "I") (List.mem_of_getElem? (i := 1) rfl)) rfl rfl (Nat.le_of_ble_eq_true rfl) rfl dX5_found_2 (fun I1 H1 L1 eI1 hW hS => ?_)
  have eI1 : I1 = dkU I0 0 3 p0 := eI1
  have hO := dkO_set hO eI1 (dkN_sub dp0 rfl)
  have hF := dkF_set hF eI1 rfl
  refine lv_ldcw (v := (-1000010)) hx hb hown (hts (.constant RX5 295 (-1000010)) (List.mem_of_getElem? (i := 2) rfl)) dX5_found_5 ?_
  refine lv_iload_n hx hb dX5_found_8 rfl (lv_at hl 1 rfl) ?_
  refine lv_isub hx hb dX5_found_9 ?_
  refine lv_topi (fun v2 ev2 => ?_)
  have dv2 : dkN [(-1000015, -1000015)] v2 := by rw [ev2]; exact dkN_subt (dkN_lit (x := (-1000010)) (-1000010) rfl) dp0 rfl
  have xv2 : v2 = (-1000010 : Int32) - p0 := by rw [ev2]
  have q3 : ((-1000010 : Int32) - p0).toInt = (-1000010 : Int) - p0.toInt := by rw [← xv2]; exact (by rw [ev2]; exact dk_subE (dkN_lit (x := (-1000010)) (-1000010) rfl) dp0 rfl)
  exact W.iret (v := v2) hx hb hr (fun t ht hW9 => ⟨⟨v2, I1, rfl, ⟨hF, hO, ⟨dkN_sub dv2 rfl, (show dkN [(5, 5)] (I1 0 3) from dkN_sub (by rw [eI1, dkU_ss]; exact dp0) rfl), q3, xv2, trivial⟩⟩, dkW_eq ht hW⟩, hS.F ht⟩) hS.2.2 dX5_found_10
set_option maxHeartbeats 4000000 in
set_option maxRecDepth 100000 in
theorem f_X5_copy_1 (l : Launch) (g : dkG) (z : Nat) (I0 : dkI) (p0 : Int32) (p1 : Int32) (p2 : Int32) (p3 : Int32) (p4 : Int32)  (hO : dkOk I0) : Met l yX5_copy wsX5_copy (dkR 2) (dkPc g z [.ref (z + 0), .int p0, .int p1, .int p2, .int p3, .int p4] I0) (dkQi g z (fun r I1 => dkF [(2, 9, 0, 2147483647), (0, 0, 3, 3)] I0 I1 ∧ dkOk I1 ∧ ((dkN [(-1000001, -1000001)] r ∧ dkN [(-2147483648, -1)] p0 ∧ p0.toInt + 1 ≤ (0 : Int) ∧ r = (-1000001) ∧ True) ∨ (dkN [(-1000001, -1000001)] r ∧ dkN [(8, 2147483647)] p0 ∧ (0 : Int) + 0 ≤ p0.toInt ∧ (7 : Int) + 1 ≤ p0.toInt ∧ r = (-1000001) ∧ True) ∨ (dkN [(-1000001, -1000001)] r ∧ dkN [(0, 7)] p0 ∧ dkN [(-2147483648, -1)] p2 ∧ (0 : Int) + 0 ≤ p0.toInt ∧ p0.toInt + 0 ≤ (7 : Int) ∧ p2.toInt + 1 ≤ (0 : Int) ∧ r = (-1000001) ∧ True) ∨ (dkN [(-1000001, -1000001)] r ∧ dkN [(0, 7)] p0 ∧ dkN [(8, 2147483647)] p2 ∧ (0 : Int) + 0 ≤ p0.toInt ∧ p0.toInt + 0 ≤ (7 : Int) ∧ (0 : Int) + 0 ≤ p2.toInt ∧ (7 : Int) + 1 ≤ p2.toInt ∧ r = (-1000001) ∧ True) ∨ (dkN [(-1000012, -1000012)] r ∧ dkN [(0, 7)] p0 ∧ dkN [(-2147483648, -1)] p1 ∧ dkN [(0, 7)] p2 ∧ dkN [(2, 2)] (I1 0 3) ∧ (0 : Int) + 0 ≤ p0.toInt ∧ p0.toInt + 0 ≤ (7 : Int) ∧ (0 : Int) + 0 ≤ p2.toInt ∧ p2.toInt + 0 ≤ (7 : Int) ∧ (I0 11 (Int32.toNatClampNeg p0)).toInt ≠ (-1 : Int) ∧ (I0 11 (Int32.toNatClampNeg p2)).toInt ≠ (-1 : Int) ∧ (I0 10 (Int32.toNatClampNeg p0)).toInt = (I0 10 (Int32.toNatClampNeg p2)).toInt ∧ p1.toInt + 1 ≤ (0 : Int) ∧ ((-1000010 : Int32) - (2 : Int32)).toInt = (-1000010 : Int) - (2 : Int) ∧ r = (-1000010 : Int32) - (2 : Int32) ∧ True) ∨ (dkN [(-1000012, -1000012)] r ∧ dkN [(0, 7)] p0 ∧ dkN [(0, 2147483647)] p1 ∧ dkN [(0, 7)] p2 ∧ dkN [(-2147483648, -1)] p4 ∧ dkN [(2, 2)] (I1 0 3) ∧ (0 : Int) + 0 ≤ p0.toInt ∧ p0.toInt + 0 ≤ (7 : Int) ∧ (0 : Int) + 0 ≤ p2.toInt ∧ p2.toInt + 0 ≤ (7 : Int) ∧ (I0 11 (Int32.toNatClampNeg p0)).toInt ≠ (-1 : Int) ∧ (I0 11 (Int32.toNatClampNeg p2)).toInt ≠ (-1 : Int) ∧ (I0 10 (Int32.toNatClampNeg p0)).toInt = (I0 10 (Int32.toNatClampNeg p2)).toInt ∧ (0 : Int) + 0 ≤ p1.toInt ∧ p4.toInt + 1 ≤ (0 : Int) ∧ ((-1000010 : Int32) - (2 : Int32)).toInt = (-1000010 : Int) - (2 : Int) ∧ r = (-1000010 : Int32) - (2 : Int32) ∧ True) ∨ (dkN [(-1000012, -1000012)] r ∧ dkN [(0, 7)] p0 ∧ dkN [(0, 2147483647)] p1 ∧ dkN [(0, 7)] p2 ∧ dkN [(0, 2147483647)] p4 ∧ dkN [(2, 2)] (I1 0 3) ∧ (0 : Int) + 0 ≤ p0.toInt ∧ p0.toInt + 0 ≤ (7 : Int) ∧ (0 : Int) + 0 ≤ p2.toInt ∧ p2.toInt + 0 ≤ (7 : Int) ∧ (I0 11 (Int32.toNatClampNeg p0)).toInt ≠ (-1 : Int) ∧ (I0 11 (Int32.toNatClampNeg p2)).toInt ≠ (-1 : Int) ∧ (I0 10 (Int32.toNatClampNeg p0)).toInt = (I0 10 (Int32.toNatClampNeg p2)).toInt ∧ (0 : Int) + 0 ≤ p1.toInt ∧ (0 : Int) + 0 ≤ p4.toInt ∧ ((I0 11 (Int32.toNatClampNeg p0)) - p4).toInt = (I0 11 (Int32.toNatClampNeg p0)).toInt - p4.toInt ∧ ((I0 11 (Int32.toNatClampNeg p0)) - p4).toInt + 1 ≤ p1.toInt ∧ ((-1000010 : Int32) - (2 : Int32)).toInt = (-1000010 : Int) - (2 : Int) ∧ r = (-1000010 : Int32) - (2 : Int32) ∧ True) ∨ (dkN [(-1000012, -1000012)] r ∧ dkN [(0, 7)] p0 ∧ dkN [(0, 40)] p1 ∧ dkN [(0, 7)] p2 ∧ dkN [(-2147483648, -1)] p3 ∧ dkN [(0, 2147483647)] p4 ∧ dkN [(2, 2)] (I1 0 3) ∧ (0 : Int) + 0 ≤ p0.toInt ∧ p0.toInt + 0 ≤ (7 : Int) ∧ (0 : Int) + 0 ≤ p2.toInt ∧ p2.toInt + 0 ≤ (7 : Int) ∧ (I0 11 (Int32.toNatClampNeg p0)).toInt ≠ (-1 : Int) ∧ (I0 11 (Int32.toNatClampNeg p2)).toInt ≠ (-1 : Int) ∧ (I0 10 (Int32.toNatClampNeg p0)).toInt = (I0 10 (Int32.toNatClampNeg p2)).toInt ∧ (0 : Int) + 0 ≤ p1.toInt ∧ (0 : Int) + 0 ≤ p4.toInt ∧ ((I0 11 (Int32.toNatClampNeg p0)) - p4).toInt = (I0 11 (Int32.toNatClampNeg p0)).toInt - p4.toInt ∧ p1.toInt + 0 ≤ ((I0 11 (Int32.toNatClampNeg p0)) - p4).toInt ∧ p3.toInt + 1 ≤ (0 : Int) ∧ ((-1000010 : Int32) - (2 : Int32)).toInt = (-1000010 : Int) - (2 : Int) ∧ r = (-1000010 : Int32) - (2 : Int32) ∧ True) ∨ (dkN [(-1000012, -1000012)] r ∧ dkN [(0, 7)] p0 ∧ dkN [(0, 40)] p1 ∧ dkN [(0, 7)] p2 ∧ dkN [(0, 2147483647)] p3 ∧ dkN [(0, 2147483647)] p4 ∧ dkN [(2, 2)] (I1 0 3) ∧ (0 : Int) + 0 ≤ p0.toInt ∧ p0.toInt + 0 ≤ (7 : Int) ∧ (0 : Int) + 0 ≤ p2.toInt ∧ p2.toInt + 0 ≤ (7 : Int) ∧ (I0 11 (Int32.toNatClampNeg p0)).toInt ≠ (-1 : Int) ∧ (I0 11 (Int32.toNatClampNeg p2)).toInt ≠ (-1 : Int) ∧ (I0 10 (Int32.toNatClampNeg p0)).toInt = (I0 10 (Int32.toNatClampNeg p2)).toInt ∧ (0 : Int) + 0 ≤ p1.toInt ∧ (0 : Int) + 0 ≤ p4.toInt ∧ ((I0 11 (Int32.toNatClampNeg p0)) - p4).toInt = (I0 11 (Int32.toNatClampNeg p0)).toInt - p4.toInt ∧ p1.toInt + 0 ≤ ((I0 11 (Int32.toNatClampNeg p0)) - p4).toInt ∧ (0 : Int) + 0 ≤ p3.toInt ∧ ((I0 11 (Int32.toNatClampNeg p2)) - p4).toInt = (I0 11 (Int32.toNatClampNeg p2)).toInt - p4.toInt ∧ ((I0 11 (Int32.toNatClampNeg p2)) - p4).toInt + 1 ≤ p3.toInt ∧ ((-1000010 : Int32) - (2 : Int32)).toInt = (-1000010 : Int) - (2 : Int) ∧ r = (-1000010 : Int32) - (2 : Int32) ∧ True) ∨ (True ∧ dkN [(0, 7)] p0 ∧ dkN [(0, 40)] p1 ∧ dkN [(0, 7)] p2 ∧ dkN [(0, 40)] p3 ∧ dkN [(0, 2147483647)] p4 ∧ dkN [(0, 0)] (I1 0 3) ∧ (0 : Int) + 0 ≤ p0.toInt ∧ p0.toInt + 0 ≤ (7 : Int) ∧ (0 : Int) + 0 ≤ p2.toInt ∧ p2.toInt + 0 ≤ (7 : Int) ∧ (I0 11 (Int32.toNatClampNeg p0)).toInt ≠ (-1 : Int) ∧ (I0 11 (Int32.toNatClampNeg p2)).toInt ≠ (-1 : Int) ∧ (I0 10 (Int32.toNatClampNeg p0)).toInt = (I0 10 (Int32.toNatClampNeg p2)).toInt ∧ (0 : Int) + 0 ≤ p1.toInt ∧ (0 : Int) + 0 ≤ p4.toInt ∧ ((I0 11 (Int32.toNatClampNeg p0)) - p4).toInt = (I0 11 (Int32.toNatClampNeg p0)).toInt - p4.toInt ∧ p1.toInt + 0 ≤ ((I0 11 (Int32.toNatClampNeg p0)) - p4).toInt ∧ (0 : Int) + 0 ≤ p3.toInt ∧ ((I0 11 (Int32.toNatClampNeg p2)) - p4).toInt = (I0 11 (Int32.toNatClampNeg p2)).toInt - p4.toInt ∧ p3.toInt + 0 ≤ ((I0 11 (Int32.toNatClampNeg p2)) - p4).toInt ∧ r = p4 ∧ True) ∨ (dkN [(-1000015, -1000015)] r ∧ dkN [(0, 7)] p0 ∧ dkN [(0, 7)] p2 ∧ dkN [(5, 5)] (I1 0 3) ∧ (0 : Int) + 0 ≤ p0.toInt ∧ p0.toInt + 0 ≤ (7 : Int) ∧ (0 : Int) + 0 ≤ p2.toInt ∧ p2.toInt + 0 ≤ (7 : Int) ∧ (I0 11 (Int32.toNatClampNeg p0)).toInt ≠ (-1 : Int) ∧ (I0 11 (Int32.toNatClampNeg p2)).toInt ≠ (-1 : Int) ∧ (I0 10 (Int32.toNatClampNeg p0)).toInt ≠ (I0 10 (Int32.toNatClampNeg p2)).toInt ∧ ((-1000010 : Int32) - (5 : Int32)).toInt = (-1000010 : Int) - (5 : Int) ∧ r = (-1000010 : Int32) - (5 : Int32) ∧ True) ∨ (dkN [(-1000011, -1000011)] r ∧ dkN [(0, 7)] p0 ∧ dkN [(0, 7)] p2 ∧ dkN [(1, 1)] (I1 0 3) ∧ (0 : Int) + 0 ≤ p0.toInt ∧ p0.toInt + 0 ≤ (7 : Int) ∧ (0 : Int) + 0 ≤ p2.toInt ∧ p2.toInt + 0 ≤ (7 : Int) ∧ (I0 11 (Int32.toNatClampNeg p0)).toInt ≠ (-1 : Int) ∧ (I0 11 (Int32.toNatClampNeg p2)).toInt = (-1 : Int) ∧ ((-1000010 : Int32) - (1 : Int32)).toInt = (-1000010 : Int) - (1 : Int) ∧ r = (-1000010 : Int32) - (1 : Int32) ∧ True) ∨ (dkN [(-1000011, -1000011)] r ∧ dkN [(0, 7)] p0 ∧ dkN [(0, 7)] p2 ∧ dkN [(1, 1)] (I1 0 3) ∧ (0 : Int) + 0 ≤ p0.toInt ∧ p0.toInt + 0 ≤ (7 : Int) ∧ (0 : Int) + 0 ≤ p2.toInt ∧ p2.toInt + 0 ≤ (7 : Int) ∧ (I0 11 (Int32.toNatClampNeg p0)).toInt = (-1 : Int) ∧ ((-1000010 : Int32) - (1 : Int32)).toInt = (-1000010 : Int) - (1 : Int) ∧ r = (-1000010 : Int32) - (1 : Int32) ∧ True)))) 0 0 (dkA z) := by
  refine Met.ofW (cc := cX5_copy) (maxL := 6) (ret := (some .int)) (by decide) rfl ?_
  intro p e s m args below meth c s₁ B hml hv
  obtain ⟨ha, hW, hK, hT⟩ := hv
  have hx := B.exec
  have hb := B.bytes
  have hr := B.returns
  have hts := atoms_spec (ws := wsX5_copy) B.pre
  have hown : s.vm.findClass RX5 = some m.cls := findClass_of_methodNamed B.named
  have hlocks := B.notSynchronized
  have hS : va_S (dkA z) s.heap s.heap [] := va_S.rf
  have hF : dkF [(2, 9, 0, 2147483647), (0, 0, 3, 3)] I0 I0 := dkF_rf _ _
  have hl := lv_entry ([.ref (z + 0), .int p0, .int p1, .int p2, .int p3, .int p4]) (n := 6) (Nat.le_of_ble_eq_true rfl)
  have hgo : entryFrame m args 6 = entryFrame m ([.ref (z + 0), .int p0, .int p1, .int p2, .int p3, .int p4] : List Value).toArray 6 := by rw [ha]
  rw [hgo, lg_entry_eq]
  generalize (lg_sl ([.ref (z + 0), .int p0, .int p1, .int p2, .int p3, .int p4]) ++ List.replicate (6 - (lg_sl ([.ref (z + 0), .int p0, .int p1, .int p2, .int p3, .int p4])).length) Slot.unset).toArray = ls at hl ⊢
  have hl : lv_has ls 6 [(0, .ref (z + 0)), (1, .int p0), (2, .int p1), (3, .int p2), (4, .int p3), (5, .int p4)] := hl
  refine lv_iload_n hx hb dX5_copy_0 rfl (lv_at hl 1 rfl) ?_
  refine dk_Si (As := [.int p0]) (rest := []) ⟨hx, hb, hml, hown, hts⟩ (f_X5_isRow_1 l g z I0 p0 hO) (va_cwS 1 hts gX5_copy_X5_isRow rfl rfl rfl (by decide +kernel) ⟨Nat.le_of_ble_eq_true rfl, Nat.le_of_ble_eq_true rfl⟩) hK hT hW hS rfl hl.1 rfl (Nat.le_of_ble_eq_true rfl) dX5_copy_1 ⟨Nat.zero_le _, Nat.zero_le _⟩ (fun v1 I1 H1 L1 hp1 hW hS => ?_)
  obtain ⟨hF1, hO, hc1⟩ := hp1
  have hF := dkF_call hF hF1 rfl
  have eI1 : I0 = I1 := (dkF_nil hF1).symm
  subst eI1
  rcases hc1 with ⟨dv1, a1_0, x1_0, xr1, -⟩ | hc1
  ·
    have q2 : p0.toInt + 1 ≤ (0 : Int) := x1_0
    have xv1 : v1 = 0 := by rw [xr1]
    have d3 : dkN [(-2147483648, -1)] p0 := dkN_eq1 (dkN_top p0) a1_0 rfl rfl
    refine lv_if_eq (tgt := 14) hx hb dX5_copy_4 (by decide) (fun c4 => ?_) (fun c4 => ?_)
    ·
      refine lv_ldc (v := (-1000001)) hx hb hown (hts (.constant RX5 70 (-1000001)) (List.mem_of_getElem? (i := 1) rfl)) dX5_copy_14 ?_
      exact W.iret (v := (-1000001)) hx hb hr (fun t ht hW9 => ⟨⟨(-1000001), I0, rfl, ⟨hF, hO, Or.inl ⟨dkN_sub (dkN_lit (x := (-1000001)) (-1000001) rfl) rfl, dkN_sub d3 rfl, q2, rfl, trivial⟩⟩, dkW_eq ht hW⟩, hS.F ht⟩) hS.2.2 dX5_copy_16
    ·
      exact (dkN_nil (show dkN [] v1 from dkN_ne1 (0) dv1 (dkN_lit (x := 0) (0) rfl) (dk_ne c4) rfl)).elim
  rcases hc1 with ⟨dv1, a1_0, x1_0, x1_1, xr1, -⟩ | hc1
  ·
    have q5 : (0 : Int) + 0 ≤ p0.toInt := x1_0
    have q6 : (7 : Int) + 1 ≤ p0.toInt := x1_1
    have xv1 : v1 = 0 := by rw [xr1]
    have d7 : dkN [(8, 2147483647)] p0 := dkN_eq1 (dkN_top p0) a1_0 rfl rfl
    refine lv_if_eq (tgt := 14) hx hb dX5_copy_4 (by decide) (fun c8 => ?_) (fun c8 => ?_)
    ·
      refine lv_ldc (v := (-1000001)) hx hb hown (hts (.constant RX5 70 (-1000001)) (List.mem_of_getElem? (i := 1) rfl)) dX5_copy_14 ?_
      exact W.iret (v := (-1000001)) hx hb hr (fun t ht hW9 => ⟨⟨(-1000001), I0, rfl, ⟨hF, hO, Or.inr (Or.inl ⟨dkN_sub (dkN_lit (x := (-1000001)) (-1000001) rfl) rfl, dkN_sub d7 rfl, q5, q6, rfl, trivial⟩)⟩, dkW_eq ht hW⟩, hS.F ht⟩) hS.2.2 dX5_copy_16
    ·
      exact (dkN_nil (show dkN [] v1 from dkN_ne1 (0) dv1 (dkN_lit (x := 0) (0) rfl) (dk_ne c8) rfl)).elim
  ·
    obtain ⟨dv1, a1_0, x1_0, x1_1, xr1, -⟩ := hc1
    have q9 : (0 : Int) + 0 ≤ p0.toInt := x1_0
    have q10 : p0.toInt + 0 ≤ (7 : Int) := x1_1
    have xv1 : v1 = 1 := by rw [xr1]
    have d11 : dkN [(0, 7)] p0 := dkN_eq1 (dkN_top p0) a1_0 rfl rfl
    refine lv_if_eq (tgt := 14) hx hb dX5_copy_4 (by decide) (fun c12 => ?_) (fun c12 => ?_)
    ·
      exact (dkN_nil (show dkN [] v1 from dkN_eq1 dv1 (dkN_lit (x := 0) (0) rfl) (congrArg Int32.toInt c12) rfl)).elim
    ·
      refine lv_iload_n hx hb dX5_copy_7 rfl (lv_at hl 3 rfl) ?_
      refine dk_Si (As := [.int p2]) (rest := []) ⟨hx, hb, hml, hown, hts⟩ (f_X5_isRow_1 l g z I0 p2 hO) (va_cwS 1 hts gX5_copy_X5_isRow rfl rfl rfl (by decide +kernel) ⟨Nat.le_of_ble_eq_true rfl, Nat.le_of_ble_eq_true rfl⟩) hK hT hW hS rfl hl.1 rfl (Nat.le_of_ble_eq_true rfl) dX5_copy_8 ⟨Nat.zero_le _, Nat.zero_le _⟩ (fun v13 I13 H13 L13 hp13 hW hS => ?_)
      obtain ⟨hF13, hO, hc13⟩ := hp13
      have hF := dkF_call hF hF13 rfl
      have eI13 : I0 = I13 := (dkF_nil hF13).symm
      subst eI13
      rcases hc13 with ⟨dv13, a13_0, x13_0, xr13, -⟩ | hc13
      ·
        have q14 : p2.toInt + 1 ≤ (0 : Int) := x13_0
        have xv13 : v13 = 0 := by rw [xr13]
        have d15 : dkN [(-2147483648, -1)] p2 := dkN_eq1 (dkN_top p2) a13_0 rfl rfl
        refine lv_if_ne (tgt := 17) hx hb dX5_copy_11 (by decide) (fun c16 => ?_) (fun c16 => ?_)
        ·
          exact (dkN_nil (show dkN [] v13 from dkN_ne1 (0) dv13 (dkN_lit (x := 0) (0) rfl) (dk_ne c16) rfl)).elim
        ·
          refine lv_ldc (v := (-1000001)) hx hb hown (hts (.constant RX5 70 (-1000001)) (List.mem_of_getElem? (i := 1) rfl)) dX5_copy_14 ?_
          exact W.iret (v := (-1000001)) hx hb hr (fun t ht hW9 => ⟨⟨(-1000001), I0, rfl, ⟨hF, hO, Or.inr (Or.inr (Or.inl ⟨dkN_sub (dkN_lit (x := (-1000001)) (-1000001) rfl) rfl, dkN_sub d11 rfl, dkN_sub d15 rfl, q9, q10, q14, rfl, trivial⟩))⟩, dkW_eq ht hW⟩, hS.F ht⟩) hS.2.2 dX5_copy_16
      rcases hc13 with ⟨dv13, a13_0, x13_0, x13_1, xr13, -⟩ | hc13
      ·
        have q17 : (0 : Int) + 0 ≤ p2.toInt := x13_0
        have q18 : (7 : Int) + 1 ≤ p2.toInt := x13_1
        have xv13 : v13 = 0 := by rw [xr13]
        have d19 : dkN [(8, 2147483647)] p2 := dkN_eq1 (dkN_top p2) a13_0 rfl rfl
        refine lv_if_ne (tgt := 17) hx hb dX5_copy_11 (by decide) (fun c20 => ?_) (fun c20 => ?_)
        ·
          exact (dkN_nil (show dkN [] v13 from dkN_ne1 (0) dv13 (dkN_lit (x := 0) (0) rfl) (dk_ne c20) rfl)).elim
        ·
          refine lv_ldc (v := (-1000001)) hx hb hown (hts (.constant RX5 70 (-1000001)) (List.mem_of_getElem? (i := 1) rfl)) dX5_copy_14 ?_
          exact W.iret (v := (-1000001)) hx hb hr (fun t ht hW9 => ⟨⟨(-1000001), I0, rfl, ⟨hF, hO, Or.inr (Or.inr (Or.inr (Or.inl ⟨dkN_sub (dkN_lit (x := (-1000001)) (-1000001) rfl) rfl, dkN_sub d11 rfl, dkN_sub d19 rfl, q9, q10, q17, q18, rfl, trivial⟩)))⟩, dkW_eq ht hW⟩, hS.F ht⟩) hS.2.2 dX5_copy_16
      ·
        obtain ⟨dv13, a13_0, x13_0, x13_1, xr13, -⟩ := hc13
        have q21 : (0 : Int) + 0 ≤ p2.toInt := x13_0
        have q22 : p2.toInt + 0 ≤ (7 : Int) := x13_1
        have xv13 : v13 = 1 := by rw [xr13]
        have d23 : dkN [(0, 7)] p2 := dkN_eq1 (dkN_top p2) a13_0 rfl rfl
        refine lv_if_ne (tgt := 17) hx hb dX5_copy_11 (by decide) (fun c24 => ?_) (fun c24 => ?_)
        ·
          refine lv_aload_n hx hb dX5_copy_17 rfl (lv_at hl 0 rfl) ?_
          refine lv_iload_n hx hb dX5_copy_18 rfl (lv_at hl 1 rfl) ?_
          refine dk_Vi (As := [.int p0]) (rest := []) ⟨hx, hb, hml, hown, hts⟩ (f_X5_isMissing_1 l g z I0 p0 d11 hO) (cwV 1 hts gX5_copy_X5_isMissing rfl rfl rfl (by decide +kernel) ⟨Nat.le_of_ble_eq_true rfl, Nat.le_of_ble_eq_true rfl⟩) (dk_at0 hW) rfl hK hT hW hS rfl hl.1 rfl (Nat.le_of_ble_eq_true rfl) dX5_copy_19 ⟨Nat.zero_le _, Nat.zero_le _⟩ (fun v25 I25 H25 L25 hp25 hW hS => ?_)
          obtain ⟨hF25, hO, hc25⟩ := hp25
          have hF := dkF_call hF hF25 rfl
          have eI25 : I0 = I25 := (dkF_nil hF25).symm
          subst eI25
          rcases hc25 with ⟨dv25, x25_0, xr25, -⟩ | hc25
          ·
            have q26 : (I0 11 (Int32.toNatClampNeg p0)).toInt ≠ (-1 : Int) := x25_0
            have xv25 : v25 = 0 := by rw [xr25]
            refine lv_if_ne (tgt := 33) hx hb dX5_copy_22 (by decide) (fun c27 => ?_) (fun c27 => ?_)
            ·
              exact (dkN_nil (show dkN [] v25 from dkN_ne1 (0) dv25 (dkN_lit (x := 0) (0) rfl) (dk_ne c27) rfl)).elim
            ·
              refine lv_aload_n hx hb dX5_copy_25 rfl (lv_at hl 0 rfl) ?_
              refine lv_iload_n hx hb dX5_copy_26 rfl (lv_at hl 3 rfl) ?_
              refine dk_Vi (As := [.int p2]) (rest := []) ⟨hx, hb, hml, hown, hts⟩ (f_X5_isMissing_1 l g z I0 p2 d23 hO) (cwV 1 hts gX5_copy_X5_isMissing rfl rfl rfl (by decide +kernel) ⟨Nat.le_of_ble_eq_true rfl, Nat.le_of_ble_eq_true rfl⟩) (dk_at0 hW) rfl hK hT hW hS rfl hl.1 rfl (Nat.le_of_ble_eq_true rfl) dX5_copy_27 ⟨Nat.zero_le _, Nat.zero_le _⟩ (fun v28 I28 H28 L28 hp28 hW hS => ?_)
              obtain ⟨hF28, hO, hc28⟩ := hp28
              have hF := dkF_call hF hF28 rfl
              have eI28 : I0 = I28 := (dkF_nil hF28).symm
              subst eI28
              rcases hc28 with ⟨dv28, x28_0, xr28, -⟩ | hc28
              ·
                have q29 : (I0 11 (Int32.toNatClampNeg p2)).toInt ≠ (-1 : Int) := x28_0
                have xv28 : v28 = 0 := by rw [xr28]
                refine lv_if_eq (tgt := 39) hx hb dX5_copy_30 (by decide) (fun c30 => ?_) (fun c30 => ?_)
                ·
                  refine lv_aload_n hx hb dX5_copy_39 rfl (lv_at hl 0 rfl) ?_
                  refine dk_get (k := 0) hx hb hts iX5_copy_5 hown hK (dk_at0 hW) rfl 1 (by decide) (hts (.fieldLink RX5 14 "DogKings" "lanes" "[I") (List.mem_of_getElem? (i := 2) rfl)) rfl dX5_copy_40 ?_
                  refine lv_iload_n hx hb dX5_copy_43 rfl (lv_at hl 1 rfl) ?_
                  refine dk_ild (k := 10) hx hb hK (dk_at10 hW) (dkN_in (n := 8) d11 rfl) dX5_copy_44 ?_
                  refine lv_topi (fun v31 ev31 => ?_)
                  have dv31 : dkN [(0, 2)] v31 := by rw [ev31]; exact (hO 10 _)
                  have xv31 : v31 = I0 10 (Int32.toNatClampNeg p0) := ev31.trans rfl
                  refine lv_aload_n hx hb dX5_copy_45 rfl (lv_at hl 0 rfl) ?_
                  refine dk_get (k := 0) hx hb hts iX5_copy_5 hown hK (dk_at0 hW) rfl 1 (by decide) (hts (.fieldLink RX5 14 "DogKings" "lanes" "[I") (List.mem_of_getElem? (i := 2) rfl)) rfl dX5_copy_46 ?_
                  refine lv_iload_n hx hb dX5_copy_49 rfl (lv_at hl 3 rfl) ?_
                  refine dk_ild (k := 10) hx hb hK (dk_at10 hW) (dkN_in (n := 8) d23 rfl) dX5_copy_50 ?_
                  refine lv_topi (fun v32 ev32 => ?_)
                  have dv32 : dkN [(0, 2)] v32 := by rw [ev32]; exact (hO 10 _)
                  have xv32 : v32 = I0 10 (Int32.toNatClampNeg p2) := ev32.trans rfl
                  refine lv_icmp_eq (tgt := 60) hx hb dX5_copy_51 (by decide) (fun c33 => ?_) (fun c33 => ?_)
                  ·
                    have q34 : (I0 10 (Int32.toNatClampNeg p0)).toInt = (I0 10 (Int32.toNatClampNeg p2)).toInt := by rw [← xv31, ← xv32]; exact (congrArg Int32.toInt c33)
                    refine lv_aload_n hx hb dX5_copy_60 rfl (lv_at hl 0 rfl) ?_
                    refine lv_iload_n hx hb dX5_copy_61 rfl (lv_at hl 1 rfl) ?_
                    refine lv_iload_n hx hb dX5_copy_62 rfl (lv_at hl 2 rfl) ?_
                    refine lv_iload hx hb dX5_copy_63 (lv_at hl 5 rfl) ?_
                    refine dk_Vi (As := [.int p0, .int p1, .int p4]) (rest := []) ⟨hx, hb, hml, hown, hts⟩ (f_X5_hasItems_3 l g z I0 p0 p1 p4 d11 hO) (cwV 3 hts gX5_copy_X5_hasItems rfl rfl rfl (by decide +kernel) ⟨Nat.le_of_ble_eq_true rfl, Nat.le_of_ble_eq_true rfl⟩) (dk_at0 hW) rfl hK hT hW hS rfl hl.1 rfl (Nat.le_of_ble_eq_true rfl) dX5_copy_65 ⟨Nat.zero_le _, Nat.zero_le _⟩ (fun v35 I35 H35 L35 hp35 hW hS => ?_)
                    obtain ⟨hF35, hO, hc35⟩ := hp35
                    have hF := dkF_call hF hF35 rfl
                    have eI35 : I0 = I35 := (dkF_nil hF35).symm
                    subst eI35
                    rcases hc35 with ⟨dv35, a35_1, x35_0, xr35, -⟩ | hc35
                    ·
                      have q36 : p1.toInt + 1 ≤ (0 : Int) := x35_0
                      have xv35 : v35 = 0 := by rw [xr35]
                      have d37 : dkN [(-2147483648, -1)] p1 := dkN_eq1 (dkN_top p1) a35_1 rfl rfl
                      refine lv_if_eq (tgt := 83) hx hb dX5_copy_68 (by decide) (fun c38 => ?_) (fun c38 => ?_)
                      ·
                        refine lv_aload_n hx hb dX5_copy_83 rfl (lv_at hl 0 rfl) ?_
                        refine lv_iconst (v := 2) hx hb dX5_copy_84 (by decide) ?_
                        refine dk_Vi (As := [.int 2]) (rest := []) ⟨hx, hb, hml, hown, hts⟩ (f_X5_found_7 l g z I0 2 (dkN_lit (x := 2) (2) rfl) hO) (cwV 1 hts gX5_copy_X5_found rfl rfl rfl (by decide +kernel) ⟨Nat.le_of_ble_eq_true rfl, Nat.le_of_ble_eq_true rfl⟩) (dk_at0 hW) rfl hK hT hW hS rfl hl.1 rfl (Nat.le_of_ble_eq_true rfl) dX5_copy_85 ⟨Nat.zero_le _, Nat.zero_le _⟩ (fun v39 I39 H39 L39 hp39 hW hS => ?_)
                        obtain ⟨hF39, hO, hc39⟩ := hp39
                        have hF := dkF_call hF hF39 rfl
                        obtain ⟨dv39, f39_0_3, x39_0, xr39, -⟩ := hc39
                        have q40 : ((-1000010 : Int32) - (2 : Int32)).toInt = (-1000010 : Int) - (2 : Int) := x39_0
                        have xv39 : v39 = (-1000010 : Int32) - (2 : Int32) := by rw [xr39]
                        exact W.iret (v := v39) hx hb hr (fun t ht hW9 => ⟨⟨v39, I39, rfl, ⟨hF, hO, Or.inr (Or.inr (Or.inr (Or.inr (Or.inl ⟨dkN_sub dv39 rfl, dkN_sub d11 rfl, dkN_sub d37 rfl, dkN_sub d23 rfl, (show dkN [(2, 2)] (I39 0 3) from dkN_sub f39_0_3 rfl), q9, q10, q21, q22, q26, q29, q34, q36, q40, xv39, trivial⟩))))⟩, dkW_eq ht hW⟩, hS.F ht⟩) hS.2.2 dX5_copy_88
                      ·
                        exact (dkN_nil (show dkN [] v35 from dkN_ne1 (0) dv35 (dkN_lit (x := 0) (0) rfl) (dk_ne c38) rfl)).elim
                    rcases hc35 with ⟨dv35, a35_1, a35_2, x35_0, x35_1, xr35, -⟩ | hc35
                    ·
                      have q41 : (0 : Int) + 0 ≤ p1.toInt := x35_0
                      have q42 : p4.toInt + 1 ≤ (0 : Int) := x35_1
                      have xv35 : v35 = 0 := by rw [xr35]
                      have d43 : dkN [(0, 2147483647)] p1 := dkN_eq1 (dkN_top p1) a35_1 rfl rfl
                      have d44 : dkN [(-2147483648, -1)] p4 := dkN_eq1 (dkN_top p4) a35_2 rfl rfl
                      refine lv_if_eq (tgt := 83) hx hb dX5_copy_68 (by decide) (fun c45 => ?_) (fun c45 => ?_)
                      ·
                        refine lv_aload_n hx hb dX5_copy_83 rfl (lv_at hl 0 rfl) ?_
                        refine lv_iconst (v := 2) hx hb dX5_copy_84 (by decide) ?_
                        refine dk_Vi (As := [.int 2]) (rest := []) ⟨hx, hb, hml, hown, hts⟩ (f_X5_found_7 l g z I0 2 (dkN_lit (x := 2) (2) rfl) hO) (cwV 1 hts gX5_copy_X5_found rfl rfl rfl (by decide +kernel) ⟨Nat.le_of_ble_eq_true rfl, Nat.le_of_ble_eq_true rfl⟩) (dk_at0 hW) rfl hK hT hW hS rfl hl.1 rfl (Nat.le_of_ble_eq_true rfl) dX5_copy_85 ⟨Nat.zero_le _, Nat.zero_le _⟩ (fun v46 I46 H46 L46 hp46 hW hS => ?_)
                        obtain ⟨hF46, hO, hc46⟩ := hp46
                        have hF := dkF_call hF hF46 rfl
                        obtain ⟨dv46, f46_0_3, x46_0, xr46, -⟩ := hc46
                        have q47 : ((-1000010 : Int32) - (2 : Int32)).toInt = (-1000010 : Int) - (2 : Int) := x46_0
                        have xv46 : v46 = (-1000010 : Int32) - (2 : Int32) := by rw [xr46]
                        exact W.iret (v := v46) hx hb hr (fun t ht hW9 => ⟨⟨v46, I46, rfl, ⟨hF, hO, Or.inr (Or.inr (Or.inr (Or.inr (Or.inr (Or.inl ⟨dkN_sub dv46 rfl, dkN_sub d11 rfl, dkN_sub d43 rfl, dkN_sub d23 rfl, dkN_sub d44 rfl, (show dkN [(2, 2)] (I46 0 3) from dkN_sub f46_0_3 rfl), q9, q10, q21, q22, q26, q29, q34, q41, q42, q47, xv46, trivial⟩)))))⟩, dkW_eq ht hW⟩, hS.F ht⟩) hS.2.2 dX5_copy_88
                      ·
                        exact (dkN_nil (show dkN [] v35 from dkN_ne1 (0) dv35 (dkN_lit (x := 0) (0) rfl) (dk_ne c45) rfl)).elim
                    rcases hc35 with ⟨dv35, a35_1, a35_2, x35_0, x35_1, x35_2, x35_3, xr35, -⟩ | hc35
                    ·
                      have q48 : (0 : Int) + 0 ≤ p1.toInt := x35_0
                      have q49 : (0 : Int) + 0 ≤ p4.toInt := x35_1
                      have q50 : ((I0 11 (Int32.toNatClampNeg p0)) - p4).toInt = (I0 11 (Int32.toNatClampNeg p0)).toInt - p4.toInt := x35_2
                      have q51 : ((I0 11 (Int32.toNatClampNeg p0)) - p4).toInt + 1 ≤ p1.toInt := x35_3
                      have xv35 : v35 = 0 := by rw [xr35]
                      have d52 : dkN [(0, 2147483647)] p1 := dkN_eq1 (dkN_top p1) a35_1 rfl rfl
                      have d53 : dkN [(0, 2147483647)] p4 := dkN_eq1 (dkN_top p4) a35_2 rfl rfl
                      refine lv_if_eq (tgt := 83) hx hb dX5_copy_68 (by decide) (fun c54 => ?_) (fun c54 => ?_)
                      ·
                        refine lv_aload_n hx hb dX5_copy_83 rfl (lv_at hl 0 rfl) ?_
                        refine lv_iconst (v := 2) hx hb dX5_copy_84 (by decide) ?_
                        refine dk_Vi (As := [.int 2]) (rest := []) ⟨hx, hb, hml, hown, hts⟩ (f_X5_found_7 l g z I0 2 (dkN_lit (x := 2) (2) rfl) hO) (cwV 1 hts gX5_copy_X5_found rfl rfl rfl (by decide +kernel) ⟨Nat.le_of_ble_eq_true rfl, Nat.le_of_ble_eq_true rfl⟩) (dk_at0 hW) rfl hK hT hW hS rfl hl.1 rfl (Nat.le_of_ble_eq_true rfl) dX5_copy_85 ⟨Nat.zero_le _, Nat.zero_le _⟩ (fun v55 I55 H55 L55 hp55 hW hS => ?_)
                        obtain ⟨hF55, hO, hc55⟩ := hp55
                        have hF := dkF_call hF hF55 rfl
                        obtain ⟨dv55, f55_0_3, x55_0, xr55, -⟩ := hc55
                        have q56 : ((-1000010 : Int32) - (2 : Int32)).toInt = (-1000010 : Int) - (2 : Int) := x55_0
                        have xv55 : v55 = (-1000010 : Int32) - (2 : Int32) := by rw [xr55]
                        exact W.iret (v := v55) hx hb hr (fun t ht hW9 => ⟨⟨v55, I55, rfl, ⟨hF, hO, Or.inr (Or.inr (Or.inr (Or.inr (Or.inr (Or.inr (Or.inl ⟨dkN_sub dv55 rfl, dkN_sub d11 rfl, dkN_sub d52 rfl, dkN_sub d23 rfl, dkN_sub d53 rfl, (show dkN [(2, 2)] (I55 0 3) from dkN_sub f55_0_3 rfl), q9, q10, q21, q22, q26, q29, q34, q48, q49, q50, q51, q56, xv55, trivial⟩))))))⟩, dkW_eq ht hW⟩, hS.F ht⟩) hS.2.2 dX5_copy_88
                      ·
                        exact (dkN_nil (show dkN [] v35 from dkN_ne1 (0) dv35 (dkN_lit (x := 0) (0) rfl) (dk_ne c54) rfl)).elim
                    ·
                      obtain ⟨dv35, a35_1, a35_2, q35_0, x35_0, x35_1, x35_2, x35_3, xr35, -⟩ := hc35
                      have q57 : (0 : Int) + 0 ≤ p1.toInt := x35_0
                      have q58 : (0 : Int) + 0 ≤ p4.toInt := x35_1
                      have q59 : ((I0 11 (Int32.toNatClampNeg p0)) - p4).toInt = (I0 11 (Int32.toNatClampNeg p0)).toInt - p4.toInt := x35_2
                      have q60 : p1.toInt + 0 ≤ ((I0 11 (Int32.toNatClampNeg p0)) - p4).toInt := x35_3
                      have xv35 : v35 = 1 := by rw [xr35]
                      have d61 : dkN [(0, 40)] p1 := dkN_eq1 (dkN_top p1) a35_1 rfl rfl
                      have d62 : dkN [(0, 2147483647)] p4 := dkN_eq1 (dkN_top p4) a35_2 rfl rfl
                      refine lv_if_eq (tgt := 83) hx hb dX5_copy_68 (by decide) (fun c63 => ?_) (fun c63 => ?_)
                      ·
                        exact (dkN_nil (show dkN [] v35 from dkN_eq1 dv35 (dkN_lit (x := 0) (0) rfl) (congrArg Int32.toInt c63) rfl)).elim
                      ·
                        refine lv_aload_n hx hb dX5_copy_71 rfl (lv_at hl 0 rfl) ?_
                        refine lv_iload_n hx hb dX5_copy_72 rfl (lv_at hl 3 rfl) ?_
                        refine lv_iload hx hb dX5_copy_73 (lv_at hl 4 rfl) ?_
                        refine lv_iload hx hb dX5_copy_75 (lv_at hl 5 rfl) ?_
                        refine dk_Vi (As := [.int p2, .int p3, .int p4]) (rest := []) ⟨hx, hb, hml, hown, hts⟩ (f_X5_hasItems_4 l g z I0 p2 p3 p4 d23 d62 hO) (cwV 3 hts gX5_copy_X5_hasItems rfl rfl rfl (by decide +kernel) ⟨Nat.le_of_ble_eq_true rfl, Nat.le_of_ble_eq_true rfl⟩) (dk_at0 hW) rfl hK hT hW hS rfl hl.1 rfl (Nat.le_of_ble_eq_true rfl) dX5_copy_77 ⟨Nat.zero_le _, Nat.zero_le _⟩ (fun v64 I64 H64 L64 hp64 hW hS => ?_)
                        obtain ⟨hF64, hO, hc64⟩ := hp64
                        have hF := dkF_call hF hF64 rfl
                        have eI64 : I0 = I64 := (dkF_nil hF64).symm
                        subst eI64
                        rcases hc64 with ⟨dv64, a64_1, x64_0, xr64, -⟩ | hc64
                        ·
                          have q65 : p3.toInt + 1 ≤ (0 : Int) := x64_0
                          have xv64 : v64 = 0 := by rw [xr64]
                          have d66 : dkN [(-2147483648, -1)] p3 := dkN_eq1 (dkN_top p3) a64_1 rfl rfl
                          refine lv_if_ne (tgt := 89) hx hb dX5_copy_80 (by decide) (fun c67 => ?_) (fun c67 => ?_)
                          ·
                            exact (dkN_nil (show dkN [] v64 from dkN_ne1 (0) dv64 (dkN_lit (x := 0) (0) rfl) (dk_ne c67) rfl)).elim
                          ·
                            refine lv_aload_n hx hb dX5_copy_83 rfl (lv_at hl 0 rfl) ?_
                            refine lv_iconst (v := 2) hx hb dX5_copy_84 (by decide) ?_
                            refine dk_Vi (As := [.int 2]) (rest := []) ⟨hx, hb, hml, hown, hts⟩ (f_X5_found_7 l g z I0 2 (dkN_lit (x := 2) (2) rfl) hO) (cwV 1 hts gX5_copy_X5_found rfl rfl rfl (by decide +kernel) ⟨Nat.le_of_ble_eq_true rfl, Nat.le_of_ble_eq_true rfl⟩) (dk_at0 hW) rfl hK hT hW hS rfl hl.1 rfl (Nat.le_of_ble_eq_true rfl) dX5_copy_85 ⟨Nat.zero_le _, Nat.zero_le _⟩ (fun v68 I68 H68 L68 hp68 hW hS => ?_)
                            obtain ⟨hF68, hO, hc68⟩ := hp68
                            have hF := dkF_call hF hF68 rfl
                            obtain ⟨dv68, f68_0_3, x68_0, xr68, -⟩ := hc68
                            have q69 : ((-1000010 : Int32) - (2 : Int32)).toInt = (-1000010 : Int) - (2 : Int) := x68_0
                            have xv68 : v68 = (-1000010 : Int32) - (2 : Int32) := by rw [xr68]
                            exact W.iret (v := v68) hx hb hr (fun t ht hW9 => ⟨⟨v68, I68, rfl, ⟨hF, hO, Or.inr (Or.inr (Or.inr (Or.inr (Or.inr (Or.inr (Or.inr (Or.inl ⟨dkN_sub dv68 rfl, dkN_sub d11 rfl, dkN_sub d61 rfl, dkN_sub d23 rfl, dkN_sub d66 rfl, dkN_sub d62 rfl, (show dkN [(2, 2)] (I68 0 3) from dkN_sub f68_0_3 rfl), q9, q10, q21, q22, q26, q29, q34, q57, q58, q59, q60, q65, q69, xv68, trivial⟩)))))))⟩, dkW_eq ht hW⟩, hS.F ht⟩) hS.2.2 dX5_copy_88
                        rcases hc64 with ⟨dv64, a64_1, x64_0, x64_1, x64_2, x64_3, xr64, -⟩ | hc64
                        ·
                          have q70 : (0 : Int) + 0 ≤ p3.toInt := x64_0
                          have q71 : ((I0 11 (Int32.toNatClampNeg p2)) - p4).toInt = (I0 11 (Int32.toNatClampNeg p2)).toInt - p4.toInt := x64_2
                          have q72 : ((I0 11 (Int32.toNatClampNeg p2)) - p4).toInt + 1 ≤ p3.toInt := x64_3
                          have xv64 : v64 = 0 := by rw [xr64]
                          have d73 : dkN [(0, 2147483647)] p3 := dkN_eq1 (dkN_top p3) a64_1 rfl rfl
                          refine lv_if_ne (tgt := 89) hx hb dX5_copy_80 (by decide) (fun c74 => ?_) (fun c74 => ?_)
                          ·
                            exact (dkN_nil (show dkN [] v64 from dkN_ne1 (0) dv64 (dkN_lit (x := 0) (0) rfl) (dk_ne c74) rfl)).elim
                          ·
                            refine lv_aload_n hx hb dX5_copy_83 rfl (lv_at hl 0 rfl) ?_
                            refine lv_iconst (v := 2) hx hb dX5_copy_84 (by decide) ?_
                            refine dk_Vi (As := [.int 2]) (rest := []) ⟨hx, hb, hml, hown, hts⟩ (f_X5_found_7 l g z I0 2 (dkN_lit (x := 2) (2) rfl) hO) (cwV 1 hts gX5_copy_X5_found rfl rfl rfl (by decide +kernel) ⟨Nat.le_of_ble_eq_true rfl, Nat.le_of_ble_eq_true rfl⟩) (dk_at0 hW) rfl hK hT hW hS rfl hl.1 rfl (Nat.le_of_ble_eq_true rfl) dX5_copy_85 ⟨Nat.zero_le _, Nat.zero_le _⟩ (fun v75 I75 H75 L75 hp75 hW hS => ?_)
                            obtain ⟨hF75, hO, hc75⟩ := hp75
                            have hF := dkF_call hF hF75 rfl
                            obtain ⟨dv75, f75_0_3, x75_0, xr75, -⟩ := hc75
                            have q76 : ((-1000010 : Int32) - (2 : Int32)).toInt = (-1000010 : Int) - (2 : Int) := x75_0
                            have xv75 : v75 = (-1000010 : Int32) - (2 : Int32) := by rw [xr75]
                            exact W.iret (v := v75) hx hb hr (fun t ht hW9 => ⟨⟨v75, I75, rfl, ⟨hF, hO, Or.inr (Or.inr (Or.inr (Or.inr (Or.inr (Or.inr (Or.inr (Or.inr (Or.inl ⟨dkN_sub dv75 rfl, dkN_sub d11 rfl, dkN_sub d61 rfl, dkN_sub d23 rfl, dkN_sub d73 rfl, dkN_sub d62 rfl, (show dkN [(2, 2)] (I75 0 3) from dkN_sub f75_0_3 rfl), q9, q10, q21, q22, q26, q29, q34, q57, q58, q59, q60, q70, q71, q72, q76, xv75, trivial⟩))))))))⟩, dkW_eq ht hW⟩, hS.F ht⟩) hS.2.2 dX5_copy_88
                        ·
                          obtain ⟨dv64, a64_1, q64_0, x64_0, x64_1, x64_2, x64_3, xr64, -⟩ := hc64
                          have q77 : (0 : Int) + 0 ≤ p3.toInt := x64_0
                          have q78 : ((I0 11 (Int32.toNatClampNeg p2)) - p4).toInt = (I0 11 (Int32.toNatClampNeg p2)).toInt - p4.toInt := x64_2
                          have q79 : p3.toInt + 0 ≤ ((I0 11 (Int32.toNatClampNeg p2)) - p4).toInt := x64_3
                          have xv64 : v64 = 1 := by rw [xr64]
                          have d80 : dkN [(0, 40)] p3 := dkN_eq1 (dkN_top p3) a64_1 rfl rfl
                          refine lv_if_ne (tgt := 89) hx hb dX5_copy_80 (by decide) (fun c81 => ?_) (fun c81 => ?_)
                          ·
                            refine lv_aload_n hx hb dX5_copy_89 rfl (lv_at hl 0 rfl) ?_
                            refine dk_get (k := 0) hx hb hts iX5_copy_5 hown hK (dk_at0 hW) rfl 0 (by decide) (hts (.fieldLink RX5 11 "DogKings" "items" "[[I") (List.mem_of_getElem? (i := 3) rfl)) rfl dX5_copy_90 ?_
                            refine lv_iload_n hx hb dX5_copy_93 rfl (lv_at hl 1 rfl) ?_
                            obtain ⟨rf82, hrf82, erf82⟩ := dk_rowAt (z := z) (dkN_in (n := 8) d11 rfl)
                            refine dk_rld (r := z + rf82) hx hb hK (dk_at1 hW) (dkN_in (n := 8) d11 rfl) erf82 dX5_copy_94 ?_
                            refine lv_iload_n hx hb dX5_copy_95 rfl (lv_at hl 2 rfl) ?_
                            refine lv_aload_n hx hb dX5_copy_96 rfl (lv_at hl 0 rfl) ?_
                            refine dk_get (k := 0) hx hb hts iX5_copy_5 hown hK (dk_at0 hW) rfl 0 (by decide) (hts (.fieldLink RX5 11 "DogKings" "items" "[[I") (List.mem_of_getElem? (i := 3) rfl)) rfl dX5_copy_97 ?_
                            refine lv_iload_n hx hb dX5_copy_100 rfl (lv_at hl 3 rfl) ?_
                            obtain ⟨rf83, hrf83, erf83⟩ := dk_rowAt (z := z) (dkN_in (n := 8) d23 rfl)
                            refine dk_rld (r := z + rf83) hx hb hK (dk_at1 hW) (dkN_in (n := 8) d23 rfl) erf83 dX5_copy_101 ?_
                            refine lv_iload hx hb dX5_copy_102 (lv_at hl 4 rfl) ?_
                            refine lv_iload hx hb dX5_copy_104 (lv_at hl 5 rfl) ?_
                            refine dk_acopy hx hb (by rw [hml]; exact hl.1.symm) hown (hts (.methodLink RX5 89 arraycopyName) (List.mem_of_getElem? (i := 4) rfl)) (hts (.native arraycopyName) (List.mem_of_getElem? (i := 5) rfl)) (hts (.static arraycopyName) (List.mem_of_getElem? (i := 6) rfl)) (hts (.initialized "java/lang/System") (List.mem_of_getElem? (i := 7) rfl)) hK hW hS hrf82 hrf83 (dkN_ge d61 rfl) (dkN_ge d80 rfl) (dkN_ge d62 rfl) q35_0 q64_0 (Nat.le_of_ble_eq_true rfl) (Nat.le_of_ble_eq_true rfl) dX5_copy_106 (fun I84 H84 L84 hF84 hW hS => ?_)
                            have hO := dkO_rows hO hF84
                            have hF := dkF_call hF hF84 rfl
                            refine lv_aload_n hx hb dX5_copy_109 rfl (lv_at hl 0 rfl) ?_
                            refine lv_iload hx hb dX5_copy_110 (lv_at hl 5 rfl) ?_
                            refine dk_Vi (As := [.int p4]) (rest := []) ⟨hx, hb, hml, hown, hts⟩ (f_X5_nothingFound_1 l g z I84 p4 hO) (cwV 1 hts gX5_copy_X5_nothingFound rfl rfl rfl (by decide +kernel) ⟨Nat.le_of_ble_eq_true rfl, Nat.le_of_ble_eq_true rfl⟩) (dk_at0 hW) rfl hK hT hW hS rfl hl.1 rfl (Nat.le_of_ble_eq_true rfl) dX5_copy_112 ⟨Nat.zero_le _, Nat.zero_le _⟩ (fun v85 I85 H85 L85 hp85 hW hS => ?_)
                            obtain ⟨hF85, hO, hc85⟩ := hp85
                            have hF := dkF_call hF hF85 rfl
                            obtain ⟨_, f85_0_3, xr85, -⟩ := hc85
                            have xv85 : v85 = p4 := by rw [xr85]
                            exact W.iret (v := v85) hx hb hr (fun t ht hW9 => ⟨⟨v85, I85, rfl, ⟨hF, hO, Or.inr (Or.inr (Or.inr (Or.inr (Or.inr (Or.inr (Or.inr (Or.inr (Or.inr (Or.inl ⟨trivial, dkN_sub d11 rfl, dkN_sub d61 rfl, dkN_sub d23 rfl, dkN_sub d80 rfl, dkN_sub d62 rfl, (show dkN [(0, 0)] (I85 0 3) from dkN_sub f85_0_3 rfl), q9, q10, q21, q22, q26, q29, q34, q57, q58, q59, q60, q77, q78, q79, xv85, trivial⟩)))))))))⟩, dkW_eq ht hW⟩, hS.F ht⟩) hS.2.2 dX5_copy_115
                          ·
                            exact (dkN_nil (show dkN [] v64 from dkN_eq1 dv64 (dkN_lit (x := 0) (0) rfl) (congrArg Int32.toInt c81) rfl)).elim
                  ·
                    have q86 : (I0 10 (Int32.toNatClampNeg p0)).toInt ≠ (I0 10 (Int32.toNatClampNeg p2)).toInt := by rw [← xv31, ← xv32]; exact (dk_ne c33)
                    refine lv_aload_n hx hb dX5_copy_54 rfl (lv_at hl 0 rfl) ?_
                    refine lv_iconst (v := 5) hx hb dX5_copy_55 (by decide) ?_
                    refine dk_Vi (As := [.int 5]) (rest := []) ⟨hx, hb, hml, hown, hts⟩ (f_X5_found_8 l g z I0 5 (dkN_lit (x := 5) (5) rfl) hO) (cwV 1 hts gX5_copy_X5_found rfl rfl rfl (by decide +kernel) ⟨Nat.le_of_ble_eq_true rfl, Nat.le_of_ble_eq_true rfl⟩) (dk_at0 hW) rfl hK hT hW hS rfl hl.1 rfl (Nat.le_of_ble_eq_true rfl) dX5_copy_56 ⟨Nat.zero_le _, Nat.zero_le _⟩ (fun v87 I87 H87 L87 hp87 hW hS => ?_)
                    obtain ⟨hF87, hO, hc87⟩ := hp87
                    have hF := dkF_call hF hF87 rfl
                    obtain ⟨dv87, f87_0_3, x87_0, xr87, -⟩ := hc87
                    have q88 : ((-1000010 : Int32) - (5 : Int32)).toInt = (-1000010 : Int) - (5 : Int) := x87_0
                    have xv87 : v87 = (-1000010 : Int32) - (5 : Int32) := by rw [xr87]
                    exact W.iret (v := v87) hx hb hr (fun t ht hW9 => ⟨⟨v87, I87, rfl, ⟨hF, hO, Or.inr (Or.inr (Or.inr (Or.inr (Or.inr (Or.inr (Or.inr (Or.inr (Or.inr (Or.inr (Or.inl ⟨dkN_sub dv87 rfl, dkN_sub d11 rfl, dkN_sub d23 rfl, (show dkN [(5, 5)] (I87 0 3) from dkN_sub f87_0_3 rfl), q9, q10, q21, q22, q26, q29, q86, q88, xv87, trivial⟩))))))))))⟩, dkW_eq ht hW⟩, hS.F ht⟩) hS.2.2 dX5_copy_59
                ·
                  exact (dkN_nil (show dkN [] v28 from dkN_ne1 (0) dv28 (dkN_lit (x := 0) (0) rfl) (dk_ne c30) rfl)).elim
              ·
                obtain ⟨dv28, x28_0, xr28, -⟩ := hc28
                have q89 : (I0 11 (Int32.toNatClampNeg p2)).toInt = (-1 : Int) := x28_0
                have xv28 : v28 = 1 := by rw [xr28]
                refine lv_if_eq (tgt := 39) hx hb dX5_copy_30 (by decide) (fun c90 => ?_) (fun c90 => ?_)
                ·
                  exact (dkN_nil (show dkN [] v28 from dkN_eq1 dv28 (dkN_lit (x := 0) (0) rfl) (congrArg Int32.toInt c90) rfl)).elim
                ·
                  refine lv_aload_n hx hb dX5_copy_33 rfl (lv_at hl 0 rfl) ?_
                  refine lv_iconst (v := 1) hx hb dX5_copy_34 (by decide) ?_
                  refine dk_Vi (As := [.int 1]) (rest := []) ⟨hx, hb, hml, hown, hts⟩ (f_X5_found_6 l g z I0 1 (dkN_lit (x := 1) (1) rfl) hO) (cwV 1 hts gX5_copy_X5_found rfl rfl rfl (by decide +kernel) ⟨Nat.le_of_ble_eq_true rfl, Nat.le_of_ble_eq_true rfl⟩) (dk_at0 hW) rfl hK hT hW hS rfl hl.1 rfl (Nat.le_of_ble_eq_true rfl) dX5_copy_35 ⟨Nat.zero_le _, Nat.zero_le _⟩ (fun v91 I91 H91 L91 hp91 hW hS => ?_)
                  obtain ⟨hF91, hO, hc91⟩ := hp91
                  have hF := dkF_call hF hF91 rfl
                  obtain ⟨dv91, f91_0_3, x91_0, xr91, -⟩ := hc91
                  have q92 : ((-1000010 : Int32) - (1 : Int32)).toInt = (-1000010 : Int) - (1 : Int) := x91_0
                  have xv91 : v91 = (-1000010 : Int32) - (1 : Int32) := by rw [xr91]
                  exact W.iret (v := v91) hx hb hr (fun t ht hW9 => ⟨⟨v91, I91, rfl, ⟨hF, hO, Or.inr (Or.inr (Or.inr (Or.inr (Or.inr (Or.inr (Or.inr (Or.inr (Or.inr (Or.inr (Or.inr (Or.inl ⟨dkN_sub dv91 rfl, dkN_sub d11 rfl, dkN_sub d23 rfl, (show dkN [(1, 1)] (I91 0 3) from dkN_sub f91_0_3 rfl), q9, q10, q21, q22, q26, q89, q92, xv91, trivial⟩)))))))))))⟩, dkW_eq ht hW⟩, hS.F ht⟩) hS.2.2 dX5_copy_38
          ·
            obtain ⟨dv25, x25_0, xr25, -⟩ := hc25
            have q93 : (I0 11 (Int32.toNatClampNeg p0)).toInt = (-1 : Int) := x25_0
            have xv25 : v25 = 1 := by rw [xr25]
            refine lv_if_ne (tgt := 33) hx hb dX5_copy_22 (by decide) (fun c94 => ?_) (fun c94 => ?_)
            ·
              refine lv_aload_n hx hb dX5_copy_33 rfl (lv_at hl 0 rfl) ?_
              refine lv_iconst (v := 1) hx hb dX5_copy_34 (by decide) ?_
              refine dk_Vi (As := [.int 1]) (rest := []) ⟨hx, hb, hml, hown, hts⟩ (f_X5_found_6 l g z I0 1 (dkN_lit (x := 1) (1) rfl) hO) (cwV 1 hts gX5_copy_X5_found rfl rfl rfl (by decide +kernel) ⟨Nat.le_of_ble_eq_true rfl, Nat.le_of_ble_eq_true rfl⟩) (dk_at0 hW) rfl hK hT hW hS rfl hl.1 rfl (Nat.le_of_ble_eq_true rfl) dX5_copy_35 ⟨Nat.zero_le _, Nat.zero_le _⟩ (fun v95 I95 H95 L95 hp95 hW hS => ?_)
              obtain ⟨hF95, hO, hc95⟩ := hp95
              have hF := dkF_call hF hF95 rfl
              obtain ⟨dv95, f95_0_3, x95_0, xr95, -⟩ := hc95
              have q96 : ((-1000010 : Int32) - (1 : Int32)).toInt = (-1000010 : Int) - (1 : Int) := x95_0
              have xv95 : v95 = (-1000010 : Int32) - (1 : Int32) := by rw [xr95]
              exact W.iret (v := v95) hx hb hr (fun t ht hW9 => ⟨⟨v95, I95, rfl, ⟨hF, hO, Or.inr (Or.inr (Or.inr (Or.inr (Or.inr (Or.inr (Or.inr (Or.inr (Or.inr (Or.inr (Or.inr (Or.inr (⟨dkN_sub dv95 rfl, dkN_sub d11 rfl, dkN_sub d23 rfl, (show dkN [(1, 1)] (I95 0 3) from dkN_sub f95_0_3 rfl), q9, q10, q21, q22, q93, q96, xv95, trivial⟩))))))))))))⟩, dkW_eq ht hW⟩, hS.F ht⟩) hS.2.2 dX5_copy_38
            ·
              exact (dkN_nil (show dkN [] v25 from dkN_eq1 dv25 (dkN_lit (x := 0) (0) rfl) (congrArg Int32.toInt c94) rfl)).elim
        ·
          exact (dkN_nil (show dkN [] v13 from dkN_eq1 dv13 (dkN_lit (x := 0) (0) rfl) (congrArg Int32.toInt c24) rfl)).elim
