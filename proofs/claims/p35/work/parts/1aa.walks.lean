set_option maxHeartbeats 4000000 in
set_option maxRecDepth 100000 in
theorem c_X5_isUpTo_0 (l : Launch) (g : dkG) (z : Nat) (I0 : dkI) (p0 : Int32) (p1 : Int32) (dp1 : dkN [(7, 7)] p1)  (hO : dkOk I0) : Met l yX5_isUpTo wsX5_isUpTo (dkR 0) (dkPc g z [.int p0, .int p1] I0) (dkQi g z (fun r I1 => dkF [] I0 I1 ∧ dkOk I1 ∧ ((dkN [(0, 0)] r ∧ dkN [(-2147483648, -1), (8, 2147483647)] p0 ∧ True) ∨ (dkN [(1, 1)] r ∧ dkN [(0, 7)] p0 ∧ True)))) 0 0 (dkA z) := by
  refine Met.ofW (cc := cX5_isUpTo) (maxL := 2) (ret := (some .boolean)) (by decide) rfl ?_
  intro p e s m args below meth c s₁ B hml hv
  obtain ⟨ha, hW, hK, hT⟩ := hv
  have hx := B.exec
  have hb := B.bytes
  have hr := B.returns
  have hts := atoms_spec (ws := wsX5_isUpTo) B.pre
  have hown : s.vm.findClass RX5 = some m.cls := findClass_of_methodNamed B.named
  have hlocks := B.notSynchronized
  have hS : va_S (dkA z) s.heap s.heap [] := va_S.rf
  have hF : dkF [] I0 I0 := dkF_rf _ _
  have hl := lv_entry ([.int p0, .int p1]) (n := 2) (Nat.le_of_ble_eq_true rfl)
  have hgo : entryFrame m args 2 = entryFrame m ([.int p0, .int p1] : List Value).toArray 2 := by rw [ha]
  rw [hgo, lg_entry_eq]
  generalize (lg_sl ([.int p0, .int p1]) ++ List.replicate (2 - (lg_sl ([.int p0, .int p1])).length) Slot.unset).toArray = ls at hl ⊢
  have hl : lv_has ls 2 [(0, .int p0), (1, .int p1)] := hl
  refine lv_iload_n hx hb dX5_isUpTo_0 rfl (lv_at hl 0 rfl) ?_
  refine lv_if_lt (tgt := 13) hx hb dX5_isUpTo_1 (by decide) (fun c1 => ?_) (fun c1 => ?_)
  ·
    have d2 : dkN [(-2147483648, -1)] p0 := dkN_le1 1 (dkN_top p0) (dkN_lit (x := 0) (0) rfl) (dkc_lt c1) rfl
    refine lv_iconst (v := 0) hx hb dX5_isUpTo_13 (by decide) ?_
    exact W.zret (v := 0) (ty := .boolean) hx hb hr rfl (fun t ht hW9 => ⟨⟨0, I0, rfl, ⟨hF, hO, Or.inl ⟨dkN_sub (dkN_lit (x := 0) (0) rfl) rfl, dkN_sub d2 rfl, trivial⟩⟩, dkW_eq ht hW⟩, hS.F ht⟩) hS.2.2 dX5_isUpTo_14
  ·
    have d3 : dkN [(0, 2147483647)] p0 := dkN_le2 0 (dkN_lit (x := 0) (0) rfl) (dkN_top p0) (dkc_nlt c1) rfl
    refine lv_iload_n hx hb dX5_isUpTo_4 rfl (lv_at hl 0 rfl) ?_
    refine lv_iload_n hx hb dX5_isUpTo_5 rfl (lv_at hl 1 rfl) ?_
    refine lv_icmp_gt (tgt := 13) hx hb dX5_isUpTo_6 (by decide) (fun c4 => ?_) (fun c4 => ?_)
    ·
      have d5 : dkN [(8, 2147483647)] p0 := dkN_le2 1 dp1 d3 (dkc_lt c4) rfl
      refine lv_iconst (v := 0) hx hb dX5_isUpTo_13 (by decide) ?_
      exact W.zret (v := 0) (ty := .boolean) hx hb hr rfl (fun t ht hW9 => ⟨⟨0, I0, rfl, ⟨hF, hO, Or.inl ⟨dkN_sub (dkN_lit (x := 0) (0) rfl) rfl, dkN_sub d5 rfl, trivial⟩⟩, dkW_eq ht hW⟩, hS.F ht⟩) hS.2.2 dX5_isUpTo_14
    ·
      have d6 : dkN [(0, 7)] p0 := dkN_le1 0 d3 dp1 (dkc_nlt c4) rfl
      refine lv_iconst (v := 1) hx hb dX5_isUpTo_9 (by decide) ?_
      refine lv_goto (tgt := 14) hx hb dX5_isUpTo_10 (by decide) ?_
      exact W.zret (v := 1) (ty := .boolean) hx hb hr rfl (fun t ht hW9 => ⟨⟨1, I0, rfl, ⟨hF, hO, Or.inr (⟨dkN_sub (dkN_lit (x := 1) (1) rfl) rfl, dkN_sub d6 rfl, trivial⟩)⟩, dkW_eq ht hW⟩, hS.F ht⟩) hS.2.2 dX5_isUpTo_14
set_option maxHeartbeats 4000000 in
set_option maxRecDepth 100000 in
theorem c_X5_isRow_0 (l : Launch) (g : dkG) (z : Nat) (I0 : dkI) (p0 : Int32)  (hO : dkOk I0) : Met l yX5_isRow wsX5_isRow (dkR 1) (dkPc g z [.int p0] I0) (dkQi g z (fun r I1 => dkF [] I0 I1 ∧ dkOk I1 ∧ ((dkN [(0, 0)] r ∧ dkN [(-2147483648, -1), (8, 2147483647)] p0 ∧ True) ∨ (dkN [(1, 1)] r ∧ dkN [(0, 7)] p0 ∧ True)))) 0 0 (dkA z) := by
  refine Met.ofW (cc := cX5_isRow) (maxL := 1) (ret := (some .boolean)) (by decide) rfl ?_
  intro p e s m args below meth c s₁ B hml hv
  obtain ⟨ha, hW, hK, hT⟩ := hv
  have hx := B.exec
  have hb := B.bytes
  have hr := B.returns
  have hts := atoms_spec (ws := wsX5_isRow) B.pre
  have hown : s.vm.findClass RX5 = some m.cls := findClass_of_methodNamed B.named
  have hlocks := B.notSynchronized
  have hS : va_S (dkA z) s.heap s.heap [] := va_S.rf
  have hF : dkF [] I0 I0 := dkF_rf _ _
  have hl := lv_entry ([.int p0]) (n := 1) (Nat.le_of_ble_eq_true rfl)
  have hgo : entryFrame m args 1 = entryFrame m ([.int p0] : List Value).toArray 1 := by rw [ha]
  rw [hgo, lg_entry_eq]
  generalize (lg_sl ([.int p0]) ++ List.replicate (1 - (lg_sl ([.int p0])).length) Slot.unset).toArray = ls at hl ⊢
  have hl : lv_has ls 1 [(0, .int p0)] := hl
  refine lv_iload_n hx hb dX5_isRow_0 rfl (lv_at hl 0 rfl) ?_
  refine lv_bipush (v := 7) hx hb dX5_isRow_1 (by decide) ?_
  refine dk_Si (As := [.int p0, .int 7]) (rest := []) ⟨hx, hb, hml, hown, hts⟩ (c_X5_isUpTo_0 l g z I0 p0 7 (dkN_lit (x := 7) (7) rfl) hO) (va_cwS 2 hts gX5_isRow_X5_isUpTo rfl rfl rfl (by decide +kernel) ⟨Nat.le_of_ble_eq_true rfl, Nat.le_of_ble_eq_true rfl⟩) hK hT hW hS rfl hl.1 rfl (Nat.le_of_ble_eq_true rfl) dX5_isRow_3 ⟨Nat.zero_le _, Nat.zero_le _⟩ (fun v1 I1 H1 L1 hp1 hW hS => ?_)
  obtain ⟨hF1, hO, hc1⟩ := hp1
  have hF := dkF_call hF hF1 rfl
  rcases hc1 with ⟨dv1, a1_0, -⟩ | hc1
  ·
    have d2 : dkN [(-2147483648, -1), (8, 2147483647)] p0 := dkN_eq1 (dkN_top p0) a1_0 rfl rfl
    exact W.zret (v := v1) (ty := .boolean) hx hb hr (dkN_zr dv1 rfl) (fun t ht hW9 => ⟨⟨v1, I1, rfl, ⟨hF, hO, Or.inl ⟨dkN_sub dv1 rfl, dkN_sub d2 rfl, trivial⟩⟩, dkW_eq ht hW⟩, hS.F ht⟩) hS.2.2 dX5_isRow_6
  ·
    obtain ⟨dv1, a1_0, -⟩ := hc1
    have d3 : dkN [(0, 7)] p0 := dkN_eq1 (dkN_top p0) a1_0 rfl rfl
    exact W.zret (v := v1) (ty := .boolean) hx hb hr (dkN_zr dv1 rfl) (fun t ht hW9 => ⟨⟨v1, I1, rfl, ⟨hF, hO, Or.inr (⟨dkN_sub dv1 rfl, dkN_sub d3 rfl, trivial⟩)⟩, dkW_eq ht hW⟩, hS.F ht⟩) hS.2.2 dX5_isRow_6
set_option maxHeartbeats 4000000 in
set_option maxRecDepth 100000 in
theorem c_X5_isUpTo_1 (l : Launch) (g : dkG) (z : Nat) (I0 : dkI) (p0 : Int32) (p1 : Int32) (dp1 : dkN [(2, 2)] p1)  (hO : dkOk I0) : Met l yX5_isUpTo wsX5_isUpTo (dkR 0) (dkPc g z [.int p0, .int p1] I0) (dkQi g z (fun r I1 => dkF [] I0 I1 ∧ dkOk I1 ∧ ((dkN [(0, 0)] r ∧ dkN [(-2147483648, -1), (3, 2147483647)] p0 ∧ True) ∨ (dkN [(1, 1)] r ∧ dkN [(0, 2)] p0 ∧ True)))) 0 0 (dkA z) := by
  refine Met.ofW (cc := cX5_isUpTo) (maxL := 2) (ret := (some .boolean)) (by decide) rfl ?_
  intro p e s m args below meth c s₁ B hml hv
  obtain ⟨ha, hW, hK, hT⟩ := hv
  have hx := B.exec
  have hb := B.bytes
  have hr := B.returns
  have hts := atoms_spec (ws := wsX5_isUpTo) B.pre
  have hown : s.vm.findClass RX5 = some m.cls := findClass_of_methodNamed B.named
  have hlocks := B.notSynchronized
  have hS : va_S (dkA z) s.heap s.heap [] := va_S.rf
  have hF : dkF [] I0 I0 := dkF_rf _ _
  have hl := lv_entry ([.int p0, .int p1]) (n := 2) (Nat.le_of_ble_eq_true rfl)
  have hgo : entryFrame m args 2 = entryFrame m ([.int p0, .int p1] : List Value).toArray 2 := by rw [ha]
  rw [hgo, lg_entry_eq]
  generalize (lg_sl ([.int p0, .int p1]) ++ List.replicate (2 - (lg_sl ([.int p0, .int p1])).length) Slot.unset).toArray = ls at hl ⊢
  have hl : lv_has ls 2 [(0, .int p0), (1, .int p1)] := hl
  refine lv_iload_n hx hb dX5_isUpTo_0 rfl (lv_at hl 0 rfl) ?_
  refine lv_if_lt (tgt := 13) hx hb dX5_isUpTo_1 (by decide) (fun c1 => ?_) (fun c1 => ?_)
  ·
    have d2 : dkN [(-2147483648, -1)] p0 := dkN_le1 1 (dkN_top p0) (dkN_lit (x := 0) (0) rfl) (dkc_lt c1) rfl
    refine lv_iconst (v := 0) hx hb dX5_isUpTo_13 (by decide) ?_
    exact W.zret (v := 0) (ty := .boolean) hx hb hr rfl (fun t ht hW9 => ⟨⟨0, I0, rfl, ⟨hF, hO, Or.inl ⟨dkN_sub (dkN_lit (x := 0) (0) rfl) rfl, dkN_sub d2 rfl, trivial⟩⟩, dkW_eq ht hW⟩, hS.F ht⟩) hS.2.2 dX5_isUpTo_14
  ·
    have d3 : dkN [(0, 2147483647)] p0 := dkN_le2 0 (dkN_lit (x := 0) (0) rfl) (dkN_top p0) (dkc_nlt c1) rfl
    refine lv_iload_n hx hb dX5_isUpTo_4 rfl (lv_at hl 0 rfl) ?_
    refine lv_iload_n hx hb dX5_isUpTo_5 rfl (lv_at hl 1 rfl) ?_
    refine lv_icmp_gt (tgt := 13) hx hb dX5_isUpTo_6 (by decide) (fun c4 => ?_) (fun c4 => ?_)
    ·
      have d5 : dkN [(3, 2147483647)] p0 := dkN_le2 1 dp1 d3 (dkc_lt c4) rfl
      refine lv_iconst (v := 0) hx hb dX5_isUpTo_13 (by decide) ?_
      exact W.zret (v := 0) (ty := .boolean) hx hb hr rfl (fun t ht hW9 => ⟨⟨0, I0, rfl, ⟨hF, hO, Or.inl ⟨dkN_sub (dkN_lit (x := 0) (0) rfl) rfl, dkN_sub d5 rfl, trivial⟩⟩, dkW_eq ht hW⟩, hS.F ht⟩) hS.2.2 dX5_isUpTo_14
    ·
      have d6 : dkN [(0, 2)] p0 := dkN_le1 0 d3 dp1 (dkc_nlt c4) rfl
      refine lv_iconst (v := 1) hx hb dX5_isUpTo_9 (by decide) ?_
      refine lv_goto (tgt := 14) hx hb dX5_isUpTo_10 (by decide) ?_
      exact W.zret (v := 1) (ty := .boolean) hx hb hr rfl (fun t ht hW9 => ⟨⟨1, I0, rfl, ⟨hF, hO, Or.inr (⟨dkN_sub (dkN_lit (x := 1) (1) rfl) rfl, dkN_sub d6 rfl, trivial⟩)⟩, dkW_eq ht hW⟩, hS.F ht⟩) hS.2.2 dX5_isUpTo_14
set_option maxHeartbeats 4000000 in
set_option maxRecDepth 100000 in
theorem c_X5_found_0 (l : Launch) (g : dkG) (z : Nat) (I0 : dkI) (p0 : Int32) (dp0 : dkN [(4, 4)] p0)  (hO : dkOk I0) : Met l yX5_found wsX5_found (dkR 0) (dkPc g z [.ref (z + 0), .int p0] I0) (dkQi g z (fun r I1 => dkF [(0, 0, 3, 3)] I0 I1 ∧ dkOk I1 ∧ ((dkN [(-1000014, -1000014)] r ∧ dkN [(4, 4)] (I1 0 3) ∧ True)))) 0 0 (dkA z) := by
  refine Met.ofW (cc := cX5_found) (maxL := 2) (ret := (some .int)) (by decide) rfl ?_
  intro p e s m args below meth c s₁ B hml hv
  obtain ⟨ha, hW, hK, hT⟩ := hv
  have hx := B.exec
  have hb := B.bytes
  have hr := B.returns
  have hts := atoms_spec (ws := wsX5_found) B.pre
  have hown : s.vm.findClass RX5 = some m.cls := findClass_of_methodNamed B.named
  have hlocks := B.notSynchronized
  have hS : va_S (dkA z) s.heap s.heap [] := va_S.rf
  have hF : dkF [(0, 0, 3, 3)] I0 I0 := dkF_rf _ _
  have hl := lv_entry ([.ref (z + 0), .int p0]) (n := 2) (Nat.le_of_ble_eq_true rfl)
  have hgo : entryFrame m args 2 = entryFrame m ([.ref (z + 0), .int p0] : List Value).toArray 2 := by rw [ha]
  rw [hgo, lg_entry_eq]
  generalize (lg_sl ([.ref (z + 0), .int p0]) ++ List.replicate (2 - (lg_sl ([.ref (z + 0), .int p0])).length) Slot.unset).toArray = ls at hl ⊢
  have hl : lv_has ls 2 [(0, .ref (z + 0)), (1, .int p0)] := hl
  refine lv_aload_n hx hb dX5_found_0 rfl (lv_at hl 0 rfl) ?_
  refine lv_iload_n hx hb dX5_found_1 rfl (lv_at hl 1 rfl) ?_
  refine dk_put (k := 0) hx hb hts iX5_found_5 tyX5 tyX5_ok nmX5 hown hK hW (dk_at0 hW) hS rfl 3 (by decide) (hts (.fieldLink RX5 292 "DogKings" "finding" "I") (List.mem_of_getElem? (i := 1) rfl)) rfl rfl (Nat.le_of_ble_eq_true rfl) rfl dX5_found_2 (fun I1 H1 L1 eI1 hW hS => ?_)
  have eI1 : I1 = dkU I0 0 3 p0 := eI1
  have hO := dkO_set hO eI1 (dkN_sub dp0 rfl)
  have hF := dkF_set hF eI1 rfl
  refine lv_ldcw (v := (-1000010)) hx hb hown (hts (.constant RX5 295 (-1000010)) (List.mem_of_getElem? (i := 2) rfl)) dX5_found_5 ?_
  refine lv_iload_n hx hb dX5_found_8 rfl (lv_at hl 1 rfl) ?_
  refine lv_isub hx hb dX5_found_9 ?_
  refine lv_topi (fun v2 ev2 => ?_)
  have dv2 : dkN [(-1000014, -1000014)] v2 := by rw [ev2]; exact dkN_subt (dkN_lit (x := (-1000010)) (-1000010) rfl) dp0 rfl
  exact W.iret (v := v2) hx hb hr (fun t ht hW9 => ⟨⟨v2, I1, rfl, ⟨hF, hO, ⟨dkN_sub dv2 rfl, (show dkN [(4, 4)] (I1 0 3) from dkN_sub (by rw [eI1, dkU_ss]; exact dp0) rfl), trivial⟩⟩, dkW_eq ht hW⟩, hS.F ht⟩) hS.2.2 dX5_found_10
set_option maxHeartbeats 4000000 in
set_option maxRecDepth 100000 in
theorem c_X5_nothingFound_0 (l : Launch) (g : dkG) (z : Nat) (I0 : dkI) (p0 : Int32)  (hO : dkOk I0) : Met l yX5_nothingFound wsX5_nothingFound (dkR 0) (dkPc g z [.ref (z + 0), .int p0] I0) (dkQi g z (fun r I1 => dkF [(0, 0, 3, 3)] I0 I1 ∧ dkOk I1 ∧ r = p0 ∧ ((True ∧ dkN [(0, 0)] (I1 0 3) ∧ True)))) 0 0 (dkA z) := by
  refine Met.ofW (cc := cX5_nothingFound) (maxL := 2) (ret := (some .int)) (by decide) rfl ?_
  intro p e s m args below meth c s₁ B hml hv
  obtain ⟨ha, hW, hK, hT⟩ := hv
  have hx := B.exec
  have hb := B.bytes
  have hr := B.returns
  have hts := atoms_spec (ws := wsX5_nothingFound) B.pre
  have hown : s.vm.findClass RX5 = some m.cls := findClass_of_methodNamed B.named
  have hlocks := B.notSynchronized
  have hS : va_S (dkA z) s.heap s.heap [] := va_S.rf
  have hF : dkF [(0, 0, 3, 3)] I0 I0 := dkF_rf _ _
  have hl := lv_entry ([.ref (z + 0), .int p0]) (n := 2) (Nat.le_of_ble_eq_true rfl)
  have hgo : entryFrame m args 2 = entryFrame m ([.ref (z + 0), .int p0] : List Value).toArray 2 := by rw [ha]
  rw [hgo, lg_entry_eq]
  generalize (lg_sl ([.ref (z + 0), .int p0]) ++ List.replicate (2 - (lg_sl ([.ref (z + 0), .int p0])).length) Slot.unset).toArray = ls at hl ⊢
  have hl : lv_has ls 2 [(0, .ref (z + 0)), (1, .int p0)] := hl
  refine lv_aload_n hx hb dX5_nothingFound_0 rfl (lv_at hl 0 rfl) ?_
  refine lv_iconst (v := 0) hx hb dX5_nothingFound_1 (by decide) ?_
  refine dk_put (k := 0) hx hb hts iX5_nothingFound_5 tyX5 tyX5_ok nmX5 hown hK hW (dk_at0 hW) hS rfl 3 (by decide) (hts (.fieldLink RX5 292 "DogKings" "finding" "I") (List.mem_of_getElem? (i := 1) rfl)) rfl rfl (Nat.le_of_ble_eq_true rfl) rfl dX5_nothingFound_2 (fun I1 H1 L1 eI1 hW hS => ?_)
  have eI1 : I1 = dkU I0 0 3 0 := eI1
  have hO := dkO_set hO eI1 (dkN_sub (dkN_lit (x := 0) (0) rfl) rfl)
  have hF := dkF_set hF eI1 rfl
  refine lv_iload_n hx hb dX5_nothingFound_5 rfl (lv_at hl 1 rfl) ?_
  exact W.iret (v := p0) hx hb hr (fun t ht hW9 => ⟨⟨p0, I1, rfl, ⟨hF, hO, rfl, ⟨trivial, (show dkN [(0, 0)] (I1 0 3) from dkN_sub (by rw [eI1, dkU_ss]; exact (dkN_lit (x := 0) (0) rfl)) rfl), trivial⟩⟩, dkW_eq ht hW⟩, hS.F ht⟩) hS.2.2 dX5_nothingFound_6
set_option maxHeartbeats 4000000 in
set_option maxRecDepth 100000 in
theorem c_X5_row_0 (l : Launch) (g : dkG) (z : Nat) (I0 : dkI) (p0 : Int32) (p1 : Int32) (p2 : Int32)  (hO : dkOk I0) : Met l yX5_row wsX5_row (dkR 2) (dkPc g z [.ref (z + 0), .int p0, .int p1, .int p2] I0) (dkQi g z (fun r I1 => dkF [(2, 9, 0, 2147483647), (0, 0, 3, 3), (10, 10, 0, 7), (11, 11, 0, 7)] I0 I1 ∧ dkOk I1 ∧ ((dkN [(-1000014, -1000014)] r ∧ dkN [(0, 7)] p0 ∧ dkN [(0, 2)] p1 ∧ dkN [(-2147483648, -1)] p2 ∧ dkN [(4, 4)] (I1 0 3) ∧ True) ∨ (dkN [(-1000001, -1000001)] r ∧ True) ∨ (dkN [(0, 40)] r ∧ dkN [(0, 7)] p0 ∧ dkN [(0, 2)] p1 ∧ dkN [(0, 40)] p2 ∧ dkN [(0, 0)] (I1 0 3) ∧ True)))) 0 0 (dkA z) := by
  refine Met.ofW (cc := cX5_row) (maxL := 5) (ret := (some .int)) (by decide) rfl ?_
  intro p e s m args below meth c s₁ B hml hv
  obtain ⟨ha, hW, hK, hT⟩ := hv
  have hx := B.exec
  have hb := B.bytes
  have hr := B.returns
  have hts := atoms_spec (ws := wsX5_row) B.pre
  have hown : s.vm.findClass RX5 = some m.cls := findClass_of_methodNamed B.named
  have hlocks := B.notSynchronized
  have hS : va_S (dkA z) s.heap s.heap [] := va_S.rf
  have hF : dkF [(2, 9, 0, 2147483647), (0, 0, 3, 3), (10, 10, 0, 7), (11, 11, 0, 7)] I0 I0 := dkF_rf _ _
  have hl := lv_entry ([.ref (z + 0), .int p0, .int p1, .int p2]) (n := 5) (Nat.le_of_ble_eq_true rfl)
  have hgo : entryFrame m args 5 = entryFrame m ([.ref (z + 0), .int p0, .int p1, .int p2] : List Value).toArray 5 := by rw [ha]
  rw [hgo, lg_entry_eq]
  generalize (lg_sl ([.ref (z + 0), .int p0, .int p1, .int p2]) ++ List.replicate (5 - (lg_sl ([.ref (z + 0), .int p0, .int p1, .int p2])).length) Slot.unset).toArray = ls at hl ⊢
  have hl : lv_has ls 5 [(0, .ref (z + 0)), (1, .int p0), (2, .int p1), (3, .int p2)] := hl
  have C37 : ∀ (n : Nat), ∀ (I : dkI) (H : Heap) (locs : List Loc) (ls : Array Slot) (x37_4 : Int32), (40 - x37_4.toInt).toNat < n → dkW g z I H → va_S (dkA z) s.heap H locs → dkF [(2, 9, 0, 2147483647), (0, 0, 3, 3), (10, 10, 0, 7), (11, 11, 0, 7)] I0 I → dkOk I → dkN [(0, 40)] x37_4 → dkN [(0, 7)] p0 → dkN [(0, 2)] p1 → dkN [(0, 40)] p2 → lv_has ls 5 [(0, .ref (z + 0)), (1, .int p0), (2, .int p1), (3, .int p2), (4, .int x37_4)] → W p l e (headSpec wsX5_row (dkR 2)).room s m args below meth c H locs 0 0 (MQ below (dkQi g z (fun r I1 => dkF [(2, 9, 0, 2147483647), (0, 0, 3, 3), (10, 10, 0, 7), (11, 11, 0, 7)] I0 I1 ∧ dkOk I1 ∧ ((dkN [(-1000014, -1000014)] r ∧ dkN [(0, 7)] p0 ∧ dkN [(0, 2)] p1 ∧ dkN [(-2147483648, -1)] p2 ∧ dkN [(4, 4)] (I1 0 3) ∧ True) ∨ (dkN [(-1000001, -1000001)] r ∧ True) ∨ (dkN [(0, 40)] r ∧ dkN [(0, 7)] p0 ∧ dkN [(0, 2)] p1 ∧ dkN [(0, 40)] p2 ∧ dkN [(0, 0)] (I1 0 3) ∧ True)))) args s 0 0 (dkA z)) (F0 m 37 ls []) := by
    intro n
    induction n with
    | zero => intro I H locs ls x37_4 hn; exact absurd hn (Nat.not_lt_zero _)
    | succ n ih37 =>
      intro I37_ H locs ls x37_4 hn37 hW hS hF_37 hO k37_0 r37_0 r37_1 r37_2 hl
      have hF := hF_37
      refine lv_iload hx hb dX5_row_37 (lv_at hl 4 rfl) ?_
      refine lv_iload_n hx hb dX5_row_39 rfl (lv_at hl 3 rfl) ?_
      refine lv_icmp_ge (tgt := 59) hx hb dX5_row_40 (by decide) (fun c1 => ?_) (fun c1 => ?_)
      ·
        refine lv_aload_n hx hb dX5_row_59 rfl (lv_at hl 0 rfl) ?_
        refine dk_get (k := 0) hx hb hts iX5_row_5 hown hK (dk_at0 hW) rfl 1 (by decide) (hts (.fieldLink RX5 14 "DogKings" "lanes" "[I") (List.mem_of_getElem? (i := 3) rfl)) rfl dX5_row_60 ?_
        refine lv_iload_n hx hb dX5_row_63 rfl (lv_at hl 1 rfl) ?_
        refine lv_iload_n hx hb dX5_row_64 rfl (lv_at hl 2 rfl) ?_
        refine dk_ist (k := 10) hx hb hK hW (fun _ => rfl) (by decide) hS (dkN_in (n := 8) r37_0 rfl) dX5_row_65 (fun I2 H2 L2 eI2 hW hS => ?_)
        have hO := dkO_set hO eI2 (dkN_sub r37_1 rfl)
        have hF := dkF_set hF eI2 (dkIn_v r37_0 rfl)
        refine lv_aload_n hx hb dX5_row_66 rfl (lv_at hl 0 rfl) ?_
        refine dk_get (k := 0) hx hb hts iX5_row_5 hown hK (dk_at0 hW) rfl 2 (by decide) (hts (.fieldLink RX5 18 "DogKings" "sizes" "[I") (List.mem_of_getElem? (i := 4) rfl)) rfl dX5_row_67 ?_
        refine lv_iload_n hx hb dX5_row_70 rfl (lv_at hl 1 rfl) ?_
        refine lv_iload_n hx hb dX5_row_71 rfl (lv_at hl 3 rfl) ?_
        refine dk_ist (k := 11) hx hb hK hW (fun _ => rfl) (by decide) hS (dkN_in (n := 8) r37_0 rfl) dX5_row_72 (fun I3 H3 L3 eI3 hW hS => ?_)
        have hO := dkO_set hO eI3 (dkN_sub r37_2 rfl)
        have hF := dkF_set hF eI3 (dkIn_v r37_0 rfl)
        refine lv_aload_n hx hb dX5_row_73 rfl (lv_at hl 0 rfl) ?_
        refine lv_iload_n hx hb dX5_row_74 rfl (lv_at hl 3 rfl) ?_
        refine dk_Vi (As := [.int p2]) (rest := []) ⟨hx, hb, hml, hown, hts⟩ (c_X5_nothingFound_0 l g z I3 p2 hO) (cwV 1 hts gX5_row_X5_nothingFound rfl rfl rfl (by decide +kernel) ⟨Nat.le_of_ble_eq_true rfl, Nat.le_of_ble_eq_true rfl⟩) (dk_at0 hW) rfl hK hT hW hS rfl hl.1 rfl (Nat.le_of_ble_eq_true rfl) dX5_row_75 ⟨Nat.zero_le _, Nat.zero_le _⟩ (fun v4 I4 H4 L4 hp4 hW hS => ?_)
        obtain ⟨hF4, hO, ev4, hc4⟩ := hp4
        have hF := dkF_call hF hF4 rfl
        obtain ⟨_, f4_0_3, -⟩ := hc4
        rw [ev4]
        exact W.iret (v := p2) hx hb hr (fun t ht hW9 => ⟨⟨p2, I4, rfl, ⟨hF, hO, Or.inr (Or.inr (⟨dkN_sub r37_2 rfl, dkN_sub r37_0 rfl, dkN_sub r37_1 rfl, dkN_sub r37_2 rfl, (show dkN [(0, 0)] (I4 0 3) from dkN_sub f4_0_3 rfl), trivial⟩))⟩, dkW_eq ht hW⟩, hS.F ht⟩) hS.2.2 dX5_row_78
      ·
        have d5 : dkN [(1, 40)] p2 := dkN_le2 1 k37_0 r37_2 (dkc_nle c1) rfl
        have d6 : dkN [(0, 39)] x37_4 := dkN_le1 1 k37_0 r37_2 (dkc_nle c1) rfl
        refine lv_aload_n hx hb dX5_row_43 rfl (lv_at hl 0 rfl) ?_
        refine dk_get (k := 0) hx hb hts iX5_row_5 hown hK (dk_at0 hW) rfl 0 (by decide) (hts (.fieldLink RX5 11 "DogKings" "items" "[[I") (List.mem_of_getElem? (i := 2) rfl)) rfl dX5_row_44 ?_
        refine lv_iload_n hx hb dX5_row_47 rfl (lv_at hl 1 rfl) ?_
        obtain ⟨rf7, hrf7, erf7⟩ := dk_rowAt (z := z) (dkN_in (n := 8) r37_0 rfl)
        refine dk_rld (r := z + rf7) hx hb hK (dk_at1 hW) (dkN_in (n := 8) r37_0 rfl) erf7 dX5_row_48 ?_
        refine lv_iload hx hb dX5_row_49 (lv_at hl 4 rfl) ?_
        refine lv_iconst (v := 0) hx hb dX5_row_51 (by decide) ?_
        refine dk_ist (k := rf7) hx hb hK hW (dkC_R g z hrf7) (by omega) hS (dkN_in (n := 40) d6 rfl) dX5_row_52 (fun I8 H8 L8 eI8 hW hS => ?_)
        have hO := dkO_setR hO hrf7 eI8
        have hF := dkF_set hF eI8 (dkIn_R hrf7 (dk_clt _) rfl)
        obtain ⟨v9, ev9⟩ : ∃ y : Int32, y = x37_4 + 1 := ⟨_, rfl⟩
        have dv9 : dkN [(1, 40)] v9 := by rw [ev9]; exact dkN_add d6 (dkN_lit (x := 1) (1) rfl) rfl
        refine lv_iinc (v := v9) (lv' := [(4, .int v9), (0, .ref (z + 0)), (1, .int p0), (2, .int p1), (3, .int p2)]) hx hb dX5_row_53 hl (k := 4) rfl (by rw [ev9]; rfl) (by decide) rfl (fun ls hl => ?_)
        refine lv_goto (tgt := 37) hx hb dX5_row_56 (by decide) ?_
        exact ih37 I8 _ _ ls v9 (dk_near hn37 (by rw [ev9]; exact dk_inc d6 rfl) (dkN_lt d6 rfl)) hW hS hF hO (dkN_sub dv9 rfl) (dkN_sub r37_0 rfl) (dkN_sub r37_1 rfl) (dkN_sub d5 rfl) (lv_sub hl [1, 2, 3, 4, 0] rfl)
  refine lv_iload_n hx hb dX5_row_0 rfl (lv_at hl 1 rfl) ?_
  refine dk_Si (As := [.int p0]) (rest := []) ⟨hx, hb, hml, hown, hts⟩ (c_X5_isRow_0 l g z I0 p0 hO) (va_cwS 1 hts gX5_row_X5_isRow rfl rfl rfl (by decide +kernel) ⟨Nat.le_of_ble_eq_true rfl, Nat.le_of_ble_eq_true rfl⟩) hK hT hW hS rfl hl.1 rfl (Nat.le_of_ble_eq_true rfl) dX5_row_1 ⟨Nat.zero_le _, Nat.zero_le _⟩ (fun v10 I10 H10 L10 hp10 hW hS => ?_)
  obtain ⟨hF10, hO, hc10⟩ := hp10
  have hF := dkF_call hF hF10 rfl
  rcases hc10 with ⟨dv10, a10_0, -⟩ | hc10
  ·
    have d11 : dkN [(-2147483648, -1), (8, 2147483647)] p0 := dkN_eq1 (dkN_top p0) a10_0 rfl rfl
    refine lv_if_eq (tgt := 21) hx hb dX5_row_4 (by decide) (fun c12 => ?_) (fun c12 => ?_)
    ·
      refine lv_ldc (v := (-1000001)) hx hb hown (hts (.constant RX5 70 (-1000001)) (List.mem_of_getElem? (i := 1) rfl)) dX5_row_21 ?_
      exact W.iret (v := (-1000001)) hx hb hr (fun t ht hW9 => ⟨⟨(-1000001), I10, rfl, ⟨hF, hO, Or.inr (Or.inl ⟨dkN_sub (dkN_lit (x := (-1000001)) (-1000001) rfl) rfl, trivial⟩)⟩, dkW_eq ht hW⟩, hS.F ht⟩) hS.2.2 dX5_row_23
    ·
      exact (dkN_nil (show dkN [] v10 from dkN_ne1 (0) dv10 (dkN_lit (x := 0) (0) rfl) (dk_ne c12) rfl)).elim
  ·
    obtain ⟨dv10, a10_0, -⟩ := hc10
    have d13 : dkN [(0, 7)] p0 := dkN_eq1 (dkN_top p0) a10_0 rfl rfl
    refine lv_if_eq (tgt := 21) hx hb dX5_row_4 (by decide) (fun c14 => ?_) (fun c14 => ?_)
    ·
      exact (dkN_nil (show dkN [] v10 from dkN_eq1 dv10 (dkN_lit (x := 0) (0) rfl) (congrArg Int32.toInt c14) rfl)).elim
    ·
      refine lv_iload_n hx hb dX5_row_7 rfl (lv_at hl 2 rfl) ?_
      refine lv_iconst (v := 2) hx hb dX5_row_8 (by decide) ?_
      refine dk_Si (As := [.int p1, .int 2]) (rest := []) ⟨hx, hb, hml, hown, hts⟩ (c_X5_isUpTo_1 l g z I10 p1 2 (dkN_lit (x := 2) (2) rfl) hO) (va_cwS 2 hts gX5_row_X5_isUpTo rfl rfl rfl (by decide +kernel) ⟨Nat.le_of_ble_eq_true rfl, Nat.le_of_ble_eq_true rfl⟩) hK hT hW hS rfl hl.1 rfl (Nat.le_of_ble_eq_true rfl) dX5_row_9 ⟨Nat.zero_le _, Nat.zero_le _⟩ (fun v15 I15 H15 L15 hp15 hW hS => ?_)
      obtain ⟨hF15, hO, hc15⟩ := hp15
      have hF := dkF_call hF hF15 rfl
      rcases hc15 with ⟨dv15, a15_0, -⟩ | hc15
      ·
        have d16 : dkN [(-2147483648, -1), (3, 2147483647)] p1 := dkN_eq1 (dkN_top p1) a15_0 rfl rfl
        refine lv_if_eq (tgt := 21) hx hb dX5_row_12 (by decide) (fun c17 => ?_) (fun c17 => ?_)
        ·
          refine lv_ldc (v := (-1000001)) hx hb hown (hts (.constant RX5 70 (-1000001)) (List.mem_of_getElem? (i := 1) rfl)) dX5_row_21 ?_
          exact W.iret (v := (-1000001)) hx hb hr (fun t ht hW9 => ⟨⟨(-1000001), I15, rfl, ⟨hF, hO, Or.inr (Or.inl ⟨dkN_sub (dkN_lit (x := (-1000001)) (-1000001) rfl) rfl, trivial⟩)⟩, dkW_eq ht hW⟩, hS.F ht⟩) hS.2.2 dX5_row_23
        ·
          exact (dkN_nil (show dkN [] v15 from dkN_ne1 (0) dv15 (dkN_lit (x := 0) (0) rfl) (dk_ne c17) rfl)).elim
      ·
        obtain ⟨dv15, a15_0, -⟩ := hc15
        have d18 : dkN [(0, 2)] p1 := dkN_eq1 (dkN_top p1) a15_0 rfl rfl
        refine lv_if_eq (tgt := 21) hx hb dX5_row_12 (by decide) (fun c19 => ?_) (fun c19 => ?_)
        ·
          exact (dkN_nil (show dkN [] v15 from dkN_eq1 dv15 (dkN_lit (x := 0) (0) rfl) (congrArg Int32.toInt c19) rfl)).elim
        ·
          refine lv_iload_n hx hb dX5_row_15 rfl (lv_at hl 3 rfl) ?_
          refine lv_bipush (v := 40) hx hb dX5_row_16 (by decide) ?_
          refine lv_icmp_le (tgt := 24) hx hb dX5_row_18 (by decide) (fun c20 => ?_) (fun c20 => ?_)
          ·
            have d21 : dkN [(-2147483648, 40)] p2 := dkN_le1 0 (dkN_top p2) (dkN_lit (x := 40) (40) rfl) (dkc_le c20) rfl
            refine lv_iload_n hx hb dX5_row_24 rfl (lv_at hl 3 rfl) ?_
            refine lv_if_ge (tgt := 34) hx hb dX5_row_25 (by decide) (fun c22 => ?_) (fun c22 => ?_)
            ·
              have d23 : dkN [(0, 40)] p2 := dkN_le2 0 (dkN_lit (x := 0) (0) rfl) d21 (dkc_le c22) rfl
              refine lv_iconst (v := 0) hx hb dX5_row_34 (by decide) ?_
              refine lv_istore (lv' := [(4, .int 0), (0, .ref (z + 0)), (1, .int p0), (2, .int p1), (3, .int p2)]) hx hb dX5_row_35 hl (by decide) rfl (fun ls hl => ?_)
              exact C37 _ I15 _ _ ls 0 (Nat.lt_succ_self _) hW hS hF hO (dkN_sub (dkN_lit (x := 0) (0) rfl) rfl) (dkN_sub d13 rfl) (dkN_sub d18 rfl) (dkN_sub d23 rfl) (lv_sub hl [1, 2, 3, 4, 0] rfl)
            ·
              have d24 : dkN [(-2147483648, -1)] p2 := dkN_le1 1 d21 (dkN_lit (x := 0) (0) rfl) (dkc_nle c22) rfl
              refine lv_aload_n hx hb dX5_row_28 rfl (lv_at hl 0 rfl) ?_
              refine lv_iconst (v := 4) hx hb dX5_row_29 (by decide) ?_
              refine dk_Vi (As := [.int 4]) (rest := []) ⟨hx, hb, hml, hown, hts⟩ (c_X5_found_0 l g z I15 4 (dkN_lit (x := 4) (4) rfl) hO) (cwV 1 hts gX5_row_X5_found rfl rfl rfl (by decide +kernel) ⟨Nat.le_of_ble_eq_true rfl, Nat.le_of_ble_eq_true rfl⟩) (dk_at0 hW) rfl hK hT hW hS rfl hl.1 rfl (Nat.le_of_ble_eq_true rfl) dX5_row_30 ⟨Nat.zero_le _, Nat.zero_le _⟩ (fun v25 I25 H25 L25 hp25 hW hS => ?_)
              obtain ⟨hF25, hO, hc25⟩ := hp25
              have hF := dkF_call hF hF25 rfl
              obtain ⟨dv25, f25_0_3, -⟩ := hc25
              exact W.iret (v := v25) hx hb hr (fun t ht hW9 => ⟨⟨v25, I25, rfl, ⟨hF, hO, Or.inl ⟨dkN_sub dv25 rfl, dkN_sub d13 rfl, dkN_sub d18 rfl, dkN_sub d24 rfl, (show dkN [(4, 4)] (I25 0 3) from dkN_sub f25_0_3 rfl), trivial⟩⟩, dkW_eq ht hW⟩, hS.F ht⟩) hS.2.2 dX5_row_33
          ·
            have d26 : dkN [(41, 2147483647)] p2 := dkN_le2 1 (dkN_lit (x := 40) (40) rfl) (dkN_top p2) (dkc_nle c20) rfl
            refine lv_ldc (v := (-1000001)) hx hb hown (hts (.constant RX5 70 (-1000001)) (List.mem_of_getElem? (i := 1) rfl)) dX5_row_21 ?_
            exact W.iret (v := (-1000001)) hx hb hr (fun t ht hW9 => ⟨⟨(-1000001), I15, rfl, ⟨hF, hO, Or.inr (Or.inl ⟨dkN_sub (dkN_lit (x := (-1000001)) (-1000001) rfl) rfl, trivial⟩)⟩, dkW_eq ht hW⟩, hS.F ht⟩) hS.2.2 dX5_row_23
set_option maxHeartbeats 4000000 in
set_option maxRecDepth 100000 in
theorem c_X6_in_0 (l : Launch) (g : dkG) (z : Nat) (I0 : dkI) (p0 : Int32) (p1 : Int32) (p2 : Int32) (dp1 : dkN [(0, 0)] p1) (dp2 : dkN [(7, 7)] p2)  (hO : dkOk I0) : Met l yX6_in wsX6_in (dkR 0) (dkPc g z [.int p0, .int p1, .int p2] I0) (dkQi g z (fun r I1 => dkF [] I0 I1 ∧ dkOk I1 ∧ ((dkN [(0, 0)] r ∧ dkN [(-2147483648, -1), (8, 2147483647)] p0 ∧ True) ∨ (dkN [(1, 1)] r ∧ dkN [(0, 7)] p0 ∧ True)))) 0 0 (dkA z) := by
  refine Met.ofW (cc := cX6_in) (maxL := 3) (ret := (some .boolean)) (by decide) rfl ?_
  intro p e s m args below meth c s₁ B hml hv
  obtain ⟨ha, hW, hK, hT⟩ := hv
  have hx := B.exec
  have hb := B.bytes
  have hr := B.returns
  have hts := atoms_spec (ws := wsX6_in) B.pre
  have hown : s.vm.findClass RX6 = some m.cls := findClass_of_methodNamed B.named
  have hlocks := B.notSynchronized
  have hS : va_S (dkA z) s.heap s.heap [] := va_S.rf
  have hF : dkF [] I0 I0 := dkF_rf _ _
  have hl := lv_entry ([.int p0, .int p1, .int p2]) (n := 3) (Nat.le_of_ble_eq_true rfl)
  have hgo : entryFrame m args 3 = entryFrame m ([.int p0, .int p1, .int p2] : List Value).toArray 3 := by rw [ha]
  rw [hgo, lg_entry_eq]
  generalize (lg_sl ([.int p0, .int p1, .int p2]) ++ List.replicate (3 - (lg_sl ([.int p0, .int p1, .int p2])).length) Slot.unset).toArray = ls at hl ⊢
  have hl : lv_has ls 3 [(0, .int p0), (1, .int p1), (2, .int p2)] := hl
  refine lv_iload_n hx hb dX6_in_0 rfl (lv_at hl 0 rfl) ?_
  refine lv_iload_n hx hb dX6_in_1 rfl (lv_at hl 1 rfl) ?_
  refine lv_icmp_lt (tgt := 14) hx hb dX6_in_2 (by decide) (fun c1 => ?_) (fun c1 => ?_)
  ·
    have d2 : dkN [(-2147483648, -1)] p0 := dkN_le1 1 (dkN_top p0) dp1 (dkc_lt c1) rfl
    refine lv_iconst (v := 0) hx hb dX6_in_14 (by decide) ?_
    exact W.zret (v := 0) (ty := .boolean) hx hb hr rfl (fun t ht hW9 => ⟨⟨0, I0, rfl, ⟨hF, hO, Or.inl ⟨dkN_sub (dkN_lit (x := 0) (0) rfl) rfl, dkN_sub d2 rfl, trivial⟩⟩, dkW_eq ht hW⟩, hS.F ht⟩) hS.2.2 dX6_in_15
  ·
    have d3 : dkN [(0, 2147483647)] p0 := dkN_le2 0 dp1 (dkN_top p0) (dkc_nlt c1) rfl
    refine lv_iload_n hx hb dX6_in_5 rfl (lv_at hl 0 rfl) ?_
    refine lv_iload_n hx hb dX6_in_6 rfl (lv_at hl 2 rfl) ?_
    refine lv_icmp_gt (tgt := 14) hx hb dX6_in_7 (by decide) (fun c4 => ?_) (fun c4 => ?_)
    ·
      have d5 : dkN [(8, 2147483647)] p0 := dkN_le2 1 dp2 d3 (dkc_lt c4) rfl
      refine lv_iconst (v := 0) hx hb dX6_in_14 (by decide) ?_
      exact W.zret (v := 0) (ty := .boolean) hx hb hr rfl (fun t ht hW9 => ⟨⟨0, I0, rfl, ⟨hF, hO, Or.inl ⟨dkN_sub (dkN_lit (x := 0) (0) rfl) rfl, dkN_sub d5 rfl, trivial⟩⟩, dkW_eq ht hW⟩, hS.F ht⟩) hS.2.2 dX6_in_15
    ·
      have d6 : dkN [(0, 7)] p0 := dkN_le1 0 d3 dp2 (dkc_nlt c4) rfl
      refine lv_iconst (v := 1) hx hb dX6_in_10 (by decide) ?_
      refine lv_goto (tgt := 15) hx hb dX6_in_11 (by decide) ?_
      exact W.zret (v := 1) (ty := .boolean) hx hb hr rfl (fun t ht hW9 => ⟨⟨1, I0, rfl, ⟨hF, hO, Or.inr (⟨dkN_sub (dkN_lit (x := 1) (1) rfl) rfl, dkN_sub d6 rfl, trivial⟩)⟩, dkW_eq ht hW⟩, hS.F ht⟩) hS.2.2 dX6_in_15
set_option maxHeartbeats 4000000 in
set_option maxRecDepth 100000 in
theorem c_X6_isRow_0 (l : Launch) (g : dkG) (z : Nat) (I0 : dkI) (p0 : Int32)  (hO : dkOk I0) : Met l yX6_isRow wsX6_isRow (dkR 1) (dkPc g z [.int p0] I0) (dkQi g z (fun r I1 => dkF [] I0 I1 ∧ dkOk I1 ∧ ((dkN [(0, 0)] r ∧ dkN [(-2147483648, -1), (8, 2147483647)] p0 ∧ True) ∨ (dkN [(1, 1)] r ∧ dkN [(0, 7)] p0 ∧ True)))) 0 0 (dkA z) := by
  refine Met.ofW (cc := cX6_isRow) (maxL := 1) (ret := (some .boolean)) (by decide) rfl ?_
  intro p e s m args below meth c s₁ B hml hv
  obtain ⟨ha, hW, hK, hT⟩ := hv
  have hx := B.exec
  have hb := B.bytes
  have hr := B.returns
  have hts := atoms_spec (ws := wsX6_isRow) B.pre
  have hown : s.vm.findClass RX6 = some m.cls := findClass_of_methodNamed B.named
  have hlocks := B.notSynchronized
  have hS : va_S (dkA z) s.heap s.heap [] := va_S.rf
  have hF : dkF [] I0 I0 := dkF_rf _ _
  have hl := lv_entry ([.int p0]) (n := 1) (Nat.le_of_ble_eq_true rfl)
  have hgo : entryFrame m args 1 = entryFrame m ([.int p0] : List Value).toArray 1 := by rw [ha]
  rw [hgo, lg_entry_eq]
  generalize (lg_sl ([.int p0]) ++ List.replicate (1 - (lg_sl ([.int p0])).length) Slot.unset).toArray = ls at hl ⊢
  have hl : lv_has ls 1 [(0, .int p0)] := hl
  refine lv_iload_n hx hb dX6_isRow_0 rfl (lv_at hl 0 rfl) ?_
  refine lv_iconst (v := 0) hx hb dX6_isRow_1 (by decide) ?_
  refine lv_bipush (v := 7) hx hb dX6_isRow_2 (by decide) ?_
  refine dk_Si (As := [.int p0, .int 0, .int 7]) (rest := []) ⟨hx, hb, hml, hown, hts⟩ (c_X6_in_0 l g z I0 p0 0 7 (dkN_lit (x := 0) (0) rfl) (dkN_lit (x := 7) (7) rfl) hO) (va_cwS 3 hts gX6_isRow_X6_in rfl rfl rfl (by decide +kernel) ⟨Nat.le_of_ble_eq_true rfl, Nat.le_of_ble_eq_true rfl⟩) hK hT hW hS rfl hl.1 rfl (Nat.le_of_ble_eq_true rfl) dX6_isRow_4 ⟨Nat.zero_le _, Nat.zero_le _⟩ (fun v1 I1 H1 L1 hp1 hW hS => ?_)
  obtain ⟨hF1, hO, hc1⟩ := hp1
  have hF := dkF_call hF hF1 rfl
  rcases hc1 with ⟨dv1, a1_0, -⟩ | hc1
  ·
    have d2 : dkN [(-2147483648, -1), (8, 2147483647)] p0 := dkN_eq1 (dkN_top p0) a1_0 rfl rfl
    exact W.zret (v := v1) (ty := .boolean) hx hb hr (dkN_zr dv1 rfl) (fun t ht hW9 => ⟨⟨v1, I1, rfl, ⟨hF, hO, Or.inl ⟨dkN_sub dv1 rfl, dkN_sub d2 rfl, trivial⟩⟩, dkW_eq ht hW⟩, hS.F ht⟩) hS.2.2 dX6_isRow_7
  ·
    obtain ⟨dv1, a1_0, -⟩ := hc1
    have d3 : dkN [(0, 7)] p0 := dkN_eq1 (dkN_top p0) a1_0 rfl rfl
    exact W.zret (v := v1) (ty := .boolean) hx hb hr (dkN_zr dv1 rfl) (fun t ht hW9 => ⟨⟨v1, I1, rfl, ⟨hF, hO, Or.inr (⟨dkN_sub dv1 rfl, dkN_sub d3 rfl, trivial⟩)⟩, dkW_eq ht hW⟩, hS.F ht⟩) hS.2.2 dX6_isRow_7
set_option maxHeartbeats 4000000 in
set_option maxRecDepth 100000 in
theorem c_X6_in_1 (l : Launch) (g : dkG) (z : Nat) (I0 : dkI) (p0 : Int32) (p1 : Int32) (p2 : Int32) (dp1 : dkN [(0, 0)] p1) (dp2 : dkN [(2, 2)] p2)  (hO : dkOk I0) : Met l yX6_in wsX6_in (dkR 0) (dkPc g z [.int p0, .int p1, .int p2] I0) (dkQi g z (fun r I1 => dkF [] I0 I1 ∧ dkOk I1 ∧ ((dkN [(0, 0)] r ∧ dkN [(-2147483648, -1), (3, 2147483647)] p0 ∧ True) ∨ (dkN [(1, 1)] r ∧ dkN [(0, 2)] p0 ∧ True)))) 0 0 (dkA z) := by
  refine Met.ofW (cc := cX6_in) (maxL := 3) (ret := (some .boolean)) (by decide) rfl ?_
  intro p e s m args below meth c s₁ B hml hv
  obtain ⟨ha, hW, hK, hT⟩ := hv
  have hx := B.exec
  have hb := B.bytes
  have hr := B.returns
  have hts := atoms_spec (ws := wsX6_in) B.pre
  have hown : s.vm.findClass RX6 = some m.cls := findClass_of_methodNamed B.named
  have hlocks := B.notSynchronized
  have hS : va_S (dkA z) s.heap s.heap [] := va_S.rf
  have hF : dkF [] I0 I0 := dkF_rf _ _
  have hl := lv_entry ([.int p0, .int p1, .int p2]) (n := 3) (Nat.le_of_ble_eq_true rfl)
  have hgo : entryFrame m args 3 = entryFrame m ([.int p0, .int p1, .int p2] : List Value).toArray 3 := by rw [ha]
  rw [hgo, lg_entry_eq]
  generalize (lg_sl ([.int p0, .int p1, .int p2]) ++ List.replicate (3 - (lg_sl ([.int p0, .int p1, .int p2])).length) Slot.unset).toArray = ls at hl ⊢
  have hl : lv_has ls 3 [(0, .int p0), (1, .int p1), (2, .int p2)] := hl
  refine lv_iload_n hx hb dX6_in_0 rfl (lv_at hl 0 rfl) ?_
  refine lv_iload_n hx hb dX6_in_1 rfl (lv_at hl 1 rfl) ?_
  refine lv_icmp_lt (tgt := 14) hx hb dX6_in_2 (by decide) (fun c1 => ?_) (fun c1 => ?_)
  ·
    have d2 : dkN [(-2147483648, -1)] p0 := dkN_le1 1 (dkN_top p0) dp1 (dkc_lt c1) rfl
    refine lv_iconst (v := 0) hx hb dX6_in_14 (by decide) ?_
    exact W.zret (v := 0) (ty := .boolean) hx hb hr rfl (fun t ht hW9 => ⟨⟨0, I0, rfl, ⟨hF, hO, Or.inl ⟨dkN_sub (dkN_lit (x := 0) (0) rfl) rfl, dkN_sub d2 rfl, trivial⟩⟩, dkW_eq ht hW⟩, hS.F ht⟩) hS.2.2 dX6_in_15
  ·
    have d3 : dkN [(0, 2147483647)] p0 := dkN_le2 0 dp1 (dkN_top p0) (dkc_nlt c1) rfl
    refine lv_iload_n hx hb dX6_in_5 rfl (lv_at hl 0 rfl) ?_
    refine lv_iload_n hx hb dX6_in_6 rfl (lv_at hl 2 rfl) ?_
    refine lv_icmp_gt (tgt := 14) hx hb dX6_in_7 (by decide) (fun c4 => ?_) (fun c4 => ?_)
    ·
      have d5 : dkN [(3, 2147483647)] p0 := dkN_le2 1 dp2 d3 (dkc_lt c4) rfl
      refine lv_iconst (v := 0) hx hb dX6_in_14 (by decide) ?_
      exact W.zret (v := 0) (ty := .boolean) hx hb hr rfl (fun t ht hW9 => ⟨⟨0, I0, rfl, ⟨hF, hO, Or.inl ⟨dkN_sub (dkN_lit (x := 0) (0) rfl) rfl, dkN_sub d5 rfl, trivial⟩⟩, dkW_eq ht hW⟩, hS.F ht⟩) hS.2.2 dX6_in_15
    ·
      have d6 : dkN [(0, 2)] p0 := dkN_le1 0 d3 dp2 (dkc_nlt c4) rfl
      refine lv_iconst (v := 1) hx hb dX6_in_10 (by decide) ?_
      refine lv_goto (tgt := 15) hx hb dX6_in_11 (by decide) ?_
      exact W.zret (v := 1) (ty := .boolean) hx hb hr rfl (fun t ht hW9 => ⟨⟨1, I0, rfl, ⟨hF, hO, Or.inr (⟨dkN_sub (dkN_lit (x := 1) (1) rfl) rfl, dkN_sub d6 rfl, trivial⟩)⟩, dkW_eq ht hW⟩, hS.F ht⟩) hS.2.2 dX6_in_15
set_option maxHeartbeats 4000000 in
set_option maxRecDepth 100000 in
theorem c_X6_found_0 (l : Launch) (g : dkG) (z : Nat) (I0 : dkI) (p0 : Int32) (dp0 : dkN [(4, 4)] p0)  (hO : dkOk I0) : Met l yX6_found wsX6_found (dkR 0) (dkPc g z [.ref (z + 340), .int p0] I0) (dkQi g z (fun r I1 => dkF [(340, 340, 4, 4)] I0 I1 ∧ dkOk I1 ∧ ((dkN [(-1000014, -1000014)] r ∧ dkN [(4, 4)] (I1 340 4) ∧ True)))) 0 0 (dkA z) := by
  refine Met.ofW (cc := cX6_found) (maxL := 2) (ret := (some .int)) (by decide) rfl ?_
  intro p e s m args below meth c s₁ B hml hv
  obtain ⟨ha, hW, hK, hT⟩ := hv
  have hx := B.exec
  have hb := B.bytes
  have hr := B.returns
  have hts := atoms_spec (ws := wsX6_found) B.pre
  have hown : s.vm.findClass RX6 = some m.cls := findClass_of_methodNamed B.named
  have hlocks := B.notSynchronized
  have hS : va_S (dkA z) s.heap s.heap [] := va_S.rf
  have hF : dkF [(340, 340, 4, 4)] I0 I0 := dkF_rf _ _
  have hl := lv_entry ([.ref (z + 340), .int p0]) (n := 2) (Nat.le_of_ble_eq_true rfl)
  have hgo : entryFrame m args 2 = entryFrame m ([.ref (z + 340), .int p0] : List Value).toArray 2 := by rw [ha]
  rw [hgo, lg_entry_eq]
  generalize (lg_sl ([.ref (z + 340), .int p0]) ++ List.replicate (2 - (lg_sl ([.ref (z + 340), .int p0])).length) Slot.unset).toArray = ls at hl ⊢
  have hl : lv_has ls 2 [(0, .ref (z + 340)), (1, .int p0)] := hl
  refine lv_aload_n hx hb dX6_found_0 rfl (lv_at hl 0 rfl) ?_
  refine lv_iload_n hx hb dX6_found_1 rfl (lv_at hl 1 rfl) ?_
  refine dk_put (k := 340) hx hb hts iX6_found_6 tyX6 tyX6_ok nmX6 hown hK hW (dk_at340 hW) hS rfl 4 (by decide) (hts (.fieldLink RX6 51 "DogKingsModel" "status" "I") (List.mem_of_getElem? (i := 1) rfl)) rfl rfl (Nat.le_of_ble_eq_true rfl) rfl dX6_found_2 (fun I1 H1 L1 eI1 hW hS => ?_)
  have eI1 : I1 = dkU I0 340 4 p0 := eI1
  have hO := dkO_set hO eI1 (dkN_sub dp0 rfl)
  have hF := dkF_set hF eI1 rfl
  refine lv_ldc (v := (-1000010)) hx hb hown (hts (.constant RX6 55 (-1000010)) (List.mem_of_getElem? (i := 2) rfl)) dX6_found_5 ?_
  refine lv_iload_n hx hb dX6_found_7 rfl (lv_at hl 1 rfl) ?_
  refine lv_isub hx hb dX6_found_8 ?_
  refine lv_topi (fun v2 ev2 => ?_)
  have dv2 : dkN [(-1000014, -1000014)] v2 := by rw [ev2]; exact dkN_subt (dkN_lit (x := (-1000010)) (-1000010) rfl) dp0 rfl
  exact W.iret (v := v2) hx hb hr (fun t ht hW9 => ⟨⟨v2, I1, rfl, ⟨hF, hO, ⟨dkN_sub dv2 rfl, (show dkN [(4, 4)] (I1 340 4) from dkN_sub (by rw [eI1, dkU_ss]; exact dp0) rfl), trivial⟩⟩, dkW_eq ht hW⟩, hS.F ht⟩) hS.2.2 dX6_found_9
set_option maxHeartbeats 4000000 in
set_option maxRecDepth 100000 in
theorem c_X6_well_0 (l : Launch) (g : dkG) (z : Nat) (I0 : dkI) (p0 : Int32)  (hO : dkOk I0) : Met l yX6_well wsX6_well (dkR 0) (dkPc g z [.ref (z + 340), .int p0] I0) (dkQi g z (fun r I1 => dkF [(340, 340, 4, 4)] I0 I1 ∧ dkOk I1 ∧ r = p0 ∧ ((True ∧ dkN [(0, 0)] (I1 340 4) ∧ True)))) 0 0 (dkA z) := by
  refine Met.ofW (cc := cX6_well) (maxL := 2) (ret := (some .int)) (by decide) rfl ?_
  intro p e s m args below meth c s₁ B hml hv
  obtain ⟨ha, hW, hK, hT⟩ := hv
  have hx := B.exec
  have hb := B.bytes
  have hr := B.returns
  have hts := atoms_spec (ws := wsX6_well) B.pre
  have hown : s.vm.findClass RX6 = some m.cls := findClass_of_methodNamed B.named
  have hlocks := B.notSynchronized
  have hS : va_S (dkA z) s.heap s.heap [] := va_S.rf
  have hF : dkF [(340, 340, 4, 4)] I0 I0 := dkF_rf _ _
  have hl := lv_entry ([.ref (z + 340), .int p0]) (n := 2) (Nat.le_of_ble_eq_true rfl)
  have hgo : entryFrame m args 2 = entryFrame m ([.ref (z + 340), .int p0] : List Value).toArray 2 := by rw [ha]
  rw [hgo, lg_entry_eq]
  generalize (lg_sl ([.ref (z + 340), .int p0]) ++ List.replicate (2 - (lg_sl ([.ref (z + 340), .int p0])).length) Slot.unset).toArray = ls at hl ⊢
  have hl : lv_has ls 2 [(0, .ref (z + 340)), (1, .int p0)] := hl
  refine lv_aload_n hx hb dX6_well_0 rfl (lv_at hl 0 rfl) ?_
  refine lv_iconst (v := 0) hx hb dX6_well_1 (by decide) ?_
  refine dk_put (k := 340) hx hb hts iX6_well_6 tyX6 tyX6_ok nmX6 hown hK hW (dk_at340 hW) hS rfl 4 (by decide) (hts (.fieldLink RX6 51 "DogKingsModel" "status" "I") (List.mem_of_getElem? (i := 1) rfl)) rfl rfl (Nat.le_of_ble_eq_true rfl) rfl dX6_well_2 (fun I1 H1 L1 eI1 hW hS => ?_)
  have eI1 : I1 = dkU I0 340 4 0 := eI1
  have hO := dkO_set hO eI1 (dkN_sub (dkN_lit (x := 0) (0) rfl) rfl)
  have hF := dkF_set hF eI1 rfl
  refine lv_iload_n hx hb dX6_well_5 rfl (lv_at hl 1 rfl) ?_
  exact W.iret (v := p0) hx hb hr (fun t ht hW9 => ⟨⟨p0, I1, rfl, ⟨hF, hO, rfl, ⟨trivial, (show dkN [(0, 0)] (I1 340 4) from dkN_sub (by rw [eI1, dkU_ss]; exact (dkN_lit (x := 0) (0) rfl)) rfl), trivial⟩⟩, dkW_eq ht hW⟩, hS.F ht⟩) hS.2.2 dX6_well_6
set_option maxHeartbeats 4000000 in
set_option maxRecDepth 100000 in
theorem c_X6_row_0 (l : Launch) (g : dkG) (z : Nat) (I0 : dkI) (p0 : Int32) (p1 : Int32) (p2 : Int32)  (hO : dkOk I0) : Met l yX6_row wsX6_row (dkR 2) (dkPc g z [.ref (z + 340), .int p0, .int p1, .int p2] I0) (dkQi g z (fun r I1 => dkF [(340, 340, 4, 4), (341, 341, 0, 7), (342, 342, 0, 7), (343, 343, 0, 319)] I0 I1 ∧ dkOk I1 ∧ ((dkN [(-1000014, -1000014)] r ∧ dkN [(0, 7)] p0 ∧ dkN [(0, 2)] p1 ∧ dkN [(-2147483648, -1)] p2 ∧ dkN [(4, 4)] (I1 340 4) ∧ True) ∨ (dkN [(-1000001, -1000001)] r ∧ True) ∨ (dkN [(0, 40)] r ∧ dkN [(0, 7)] p0 ∧ dkN [(0, 2)] p1 ∧ dkN [(0, 40)] p2 ∧ dkN [(0, 0)] (I1 340 4) ∧ True)))) 0 0 (dkA z) := by
  refine Met.ofW (cc := cX6_row) (maxL := 5) (ret := (some .int)) (by decide) rfl ?_
  intro p e s m args below meth c s₁ B hml hv
  obtain ⟨ha, hW, hK, hT⟩ := hv
  have hx := B.exec
  have hb := B.bytes
  have hr := B.returns
  have hts := atoms_spec (ws := wsX6_row) B.pre
  have hown : s.vm.findClass RX6 = some m.cls := findClass_of_methodNamed B.named
  have hlocks := B.notSynchronized
  have hS : va_S (dkA z) s.heap s.heap [] := va_S.rf
  have hF : dkF [(340, 340, 4, 4), (341, 341, 0, 7), (342, 342, 0, 7), (343, 343, 0, 319)] I0 I0 := dkF_rf _ _
  have hl := lv_entry ([.ref (z + 340), .int p0, .int p1, .int p2]) (n := 5) (Nat.le_of_ble_eq_true rfl)
  have hgo : entryFrame m args 5 = entryFrame m ([.ref (z + 340), .int p0, .int p1, .int p2] : List Value).toArray 5 := by rw [ha]
  rw [hgo, lg_entry_eq]
  generalize (lg_sl ([.ref (z + 340), .int p0, .int p1, .int p2]) ++ List.replicate (5 - (lg_sl ([.ref (z + 340), .int p0, .int p1, .int p2])).length) Slot.unset).toArray = ls at hl ⊢
  have hl : lv_has ls 5 [(0, .ref (z + 340)), (1, .int p0), (2, .int p1), (3, .int p2)] := hl
  have C52 : ∀ (n : Nat), ∀ (I : dkI) (H : Heap) (locs : List Loc) (ls : Array Slot) (x52_4 : Int32), (40 - x52_4.toInt).toNat < n → dkW g z I H → va_S (dkA z) s.heap H locs → dkF [(340, 340, 4, 4), (341, 341, 0, 7), (342, 342, 0, 7), (343, 343, 0, 319)] I0 I → dkOk I → dkN [(0, 40)] x52_4 → dkN [(0, 7)] p0 → dkN [(0, 2)] p1 → dkN [(0, 40)] p2 → lv_has ls 5 [(0, .ref (z + 340)), (1, .int p0), (2, .int p1), (3, .int p2), (4, .int x52_4)] → W p l e (headSpec wsX6_row (dkR 2)).room s m args below meth c H locs 0 0 (MQ below (dkQi g z (fun r I1 => dkF [(340, 340, 4, 4), (341, 341, 0, 7), (342, 342, 0, 7), (343, 343, 0, 319)] I0 I1 ∧ dkOk I1 ∧ ((dkN [(-1000014, -1000014)] r ∧ dkN [(0, 7)] p0 ∧ dkN [(0, 2)] p1 ∧ dkN [(-2147483648, -1)] p2 ∧ dkN [(4, 4)] (I1 340 4) ∧ True) ∨ (dkN [(-1000001, -1000001)] r ∧ True) ∨ (dkN [(0, 40)] r ∧ dkN [(0, 7)] p0 ∧ dkN [(0, 2)] p1 ∧ dkN [(0, 40)] p2 ∧ dkN [(0, 0)] (I1 340 4) ∧ True)))) args s 0 0 (dkA z)) (F0 m 52 ls []) := by
    intro n
    induction n with
    | zero => intro I H locs ls x52_4 hn; exact absurd hn (Nat.not_lt_zero _)
    | succ n ih52 =>
      intro I52_ H locs ls x52_4 hn52 hW hS hF_52 hO k52_0 r52_0 r52_1 r52_2 hl
      have hF := hF_52
      refine lv_iload hx hb dX6_row_52 (lv_at hl 4 rfl) ?_
      refine lv_bipush (v := 40) hx hb dX6_row_54 (by decide) ?_
      refine lv_icmp_ge (tgt := 78) hx hb dX6_row_56 (by decide) (fun c1 => ?_) (fun c1 => ?_)
      ·
        have d2 : dkN [(40, 40)] x52_4 := dkN_le2 0 (dkN_lit (x := 40) (40) rfl) k52_0 (dkc_le c1) rfl
        refine lv_aload_n hx hb dX6_row_78 rfl (lv_at hl 0 rfl) ?_
        refine lv_iload_n hx hb dX6_row_79 rfl (lv_at hl 3 rfl) ?_
        refine dk_Vi (As := [.int p2]) (rest := []) ⟨hx, hb, hml, hown, hts⟩ (c_X6_well_0 l g z I52_ p2 hO) (cwV 1 hts gX6_row_X6_well rfl rfl rfl (by decide +kernel) ⟨Nat.le_of_ble_eq_true rfl, Nat.le_of_ble_eq_true rfl⟩) (dk_at340 hW) rfl hK hT hW hS rfl hl.1 rfl (Nat.le_of_ble_eq_true rfl) dX6_row_80 ⟨Nat.zero_le _, Nat.zero_le _⟩ (fun v3 I3 H3 L3 hp3 hW hS => ?_)
        obtain ⟨hF3, hO, ev3, hc3⟩ := hp3
        have hF := dkF_call hF hF3 rfl
        obtain ⟨_, f3_340_4, -⟩ := hc3
        rw [ev3]
        exact W.iret (v := p2) hx hb hr (fun t ht hW9 => ⟨⟨p2, I3, rfl, ⟨hF, hO, Or.inr (Or.inr (⟨dkN_sub r52_2 rfl, dkN_sub r52_0 rfl, dkN_sub r52_1 rfl, dkN_sub r52_2 rfl, (show dkN [(0, 0)] (I3 340 4) from dkN_sub f3_340_4 rfl), trivial⟩))⟩, dkW_eq ht hW⟩, hS.F ht⟩) hS.2.2 dX6_row_83
      ·
        have d4 : dkN [(0, 39)] x52_4 := dkN_le1 1 k52_0 (dkN_lit (x := 40) (40) rfl) (dkc_nle c1) rfl
        refine lv_aload_n hx hb dX6_row_59 rfl (lv_at hl 0 rfl) ?_
        refine dk_get (k := 340) hx hb hts iX6_row_6 hown hK (dk_at340 hW) rfl 2 (by decide) (hts (.fieldLink RX6 16 "DogKingsModel" "items" "[I") (List.mem_of_getElem? (i := 4) rfl)) rfl dX6_row_60 ?_
        refine lv_bipush (v := 40) hx hb dX6_row_63 (by decide) ?_
        refine lv_iload_n hx hb dX6_row_65 rfl (lv_at hl 1 rfl) ?_
        refine lv_imul hx hb dX6_row_66 ?_
        refine lv_topi (fun v5 ev5 => ?_)
        have dv5 : dkN [(0, 280)] v5 := by rw [ev5]; exact dkN_mulL 40 (by decide) (dkN_lit (x := 40) (40) rfl) r52_0 rfl
        refine lv_iload hx hb dX6_row_67 (lv_at hl 4 rfl) ?_
        refine lv_iadd hx hb dX6_row_69 ?_
        refine lv_topi (fun v6 ev6 => ?_)
        have dv6 : dkN [(0, 319)] v6 := by rw [ev6]; exact dkN_add dv5 d4 rfl
        refine lv_iconst (v := 0) hx hb dX6_row_70 (by decide) ?_
        refine dk_ist (k := 343) hx hb hK hW (fun _ => rfl) (by decide) hS (dkN_in (n := 320) dv6 rfl) dX6_row_71 (fun I7 H7 L7 eI7 hW hS => ?_)
        have hO := dkO_set hO eI7 (dkN_sub (dkN_lit (x := 0) (0) rfl) rfl)
        have hF := dkF_set hF eI7 (dkIn_v dv6 rfl)
        obtain ⟨v8, ev8⟩ : ∃ y : Int32, y = x52_4 + 1 := ⟨_, rfl⟩
        have dv8 : dkN [(1, 40)] v8 := by rw [ev8]; exact dkN_add d4 (dkN_lit (x := 1) (1) rfl) rfl
        refine lv_iinc (v := v8) (lv' := [(4, .int v8), (0, .ref (z + 340)), (1, .int p0), (2, .int p1), (3, .int p2)]) hx hb dX6_row_72 hl (k := 4) rfl (by rw [ev8]; rfl) (by decide) rfl (fun ls hl => ?_)
        refine lv_goto (tgt := 52) hx hb dX6_row_75 (by decide) ?_
        exact ih52 I7 _ _ ls v8 (dk_near hn52 (by rw [ev8]; exact dk_inc d4 rfl) (dkN_lt d4 rfl)) hW hS hF hO (dkN_sub dv8 rfl) (dkN_sub r52_0 rfl) (dkN_sub r52_1 rfl) (dkN_sub r52_2 rfl) (lv_sub hl [1, 2, 3, 4, 0] rfl)
  refine lv_iload_n hx hb dX6_row_0 rfl (lv_at hl 1 rfl) ?_
  refine dk_Si (As := [.int p0]) (rest := []) ⟨hx, hb, hml, hown, hts⟩ (c_X6_isRow_0 l g z I0 p0 hO) (va_cwS 1 hts gX6_row_X6_isRow rfl rfl rfl (by decide +kernel) ⟨Nat.le_of_ble_eq_true rfl, Nat.le_of_ble_eq_true rfl⟩) hK hT hW hS rfl hl.1 rfl (Nat.le_of_ble_eq_true rfl) dX6_row_1 ⟨Nat.zero_le _, Nat.zero_le _⟩ (fun v9 I9 H9 L9 hp9 hW hS => ?_)
  obtain ⟨hF9, hO, hc9⟩ := hp9
  have hF := dkF_call hF hF9 rfl
  rcases hc9 with ⟨dv9, a9_0, -⟩ | hc9
  ·
    have d10 : dkN [(-2147483648, -1), (8, 2147483647)] p0 := dkN_eq1 (dkN_top p0) a9_0 rfl rfl
    refine lv_if_eq (tgt := 22) hx hb dX6_row_4 (by decide) (fun c11 => ?_) (fun c11 => ?_)
    ·
      refine lv_ldc (v := (-1000001)) hx hb hown (hts (.constant RX6 64 (-1000001)) (List.mem_of_getElem? (i := 1) rfl)) dX6_row_22 ?_
      exact W.iret (v := (-1000001)) hx hb hr (fun t ht hW9 => ⟨⟨(-1000001), I9, rfl, ⟨hF, hO, Or.inr (Or.inl ⟨dkN_sub (dkN_lit (x := (-1000001)) (-1000001) rfl) rfl, trivial⟩)⟩, dkW_eq ht hW⟩, hS.F ht⟩) hS.2.2 dX6_row_24
    ·
      exact (dkN_nil (show dkN [] v9 from dkN_ne1 (0) dv9 (dkN_lit (x := 0) (0) rfl) (dk_ne c11) rfl)).elim
  ·
    obtain ⟨dv9, a9_0, -⟩ := hc9
    have d12 : dkN [(0, 7)] p0 := dkN_eq1 (dkN_top p0) a9_0 rfl rfl
    refine lv_if_eq (tgt := 22) hx hb dX6_row_4 (by decide) (fun c13 => ?_) (fun c13 => ?_)
    ·
      exact (dkN_nil (show dkN [] v9 from dkN_eq1 dv9 (dkN_lit (x := 0) (0) rfl) (congrArg Int32.toInt c13) rfl)).elim
    ·
      refine lv_iload_n hx hb dX6_row_7 rfl (lv_at hl 2 rfl) ?_
      refine lv_iconst (v := 0) hx hb dX6_row_8 (by decide) ?_
      refine lv_iconst (v := 2) hx hb dX6_row_9 (by decide) ?_
      refine dk_Si (As := [.int p1, .int 0, .int 2]) (rest := []) ⟨hx, hb, hml, hown, hts⟩ (c_X6_in_1 l g z I9 p1 0 2 (dkN_lit (x := 0) (0) rfl) (dkN_lit (x := 2) (2) rfl) hO) (va_cwS 3 hts gX6_row_X6_in rfl rfl rfl (by decide +kernel) ⟨Nat.le_of_ble_eq_true rfl, Nat.le_of_ble_eq_true rfl⟩) hK hT hW hS rfl hl.1 rfl (Nat.le_of_ble_eq_true rfl) dX6_row_10 ⟨Nat.zero_le _, Nat.zero_le _⟩ (fun v14 I14 H14 L14 hp14 hW hS => ?_)
      obtain ⟨hF14, hO, hc14⟩ := hp14
      have hF := dkF_call hF hF14 rfl
      rcases hc14 with ⟨dv14, a14_0, -⟩ | hc14
      ·
        have d15 : dkN [(-2147483648, -1), (3, 2147483647)] p1 := dkN_eq1 (dkN_top p1) a14_0 rfl rfl
        refine lv_if_eq (tgt := 22) hx hb dX6_row_13 (by decide) (fun c16 => ?_) (fun c16 => ?_)
        ·
          refine lv_ldc (v := (-1000001)) hx hb hown (hts (.constant RX6 64 (-1000001)) (List.mem_of_getElem? (i := 1) rfl)) dX6_row_22 ?_
          exact W.iret (v := (-1000001)) hx hb hr (fun t ht hW9 => ⟨⟨(-1000001), I14, rfl, ⟨hF, hO, Or.inr (Or.inl ⟨dkN_sub (dkN_lit (x := (-1000001)) (-1000001) rfl) rfl, trivial⟩)⟩, dkW_eq ht hW⟩, hS.F ht⟩) hS.2.2 dX6_row_24
        ·
          exact (dkN_nil (show dkN [] v14 from dkN_ne1 (0) dv14 (dkN_lit (x := 0) (0) rfl) (dk_ne c16) rfl)).elim
      ·
        obtain ⟨dv14, a14_0, -⟩ := hc14
        have d17 : dkN [(0, 2)] p1 := dkN_eq1 (dkN_top p1) a14_0 rfl rfl
        refine lv_if_eq (tgt := 22) hx hb dX6_row_13 (by decide) (fun c18 => ?_) (fun c18 => ?_)
        ·
          exact (dkN_nil (show dkN [] v14 from dkN_eq1 dv14 (dkN_lit (x := 0) (0) rfl) (congrArg Int32.toInt c18) rfl)).elim
        ·
          refine lv_iload_n hx hb dX6_row_16 rfl (lv_at hl 3 rfl) ?_
          refine lv_bipush (v := 40) hx hb dX6_row_17 (by decide) ?_
          refine lv_icmp_le (tgt := 25) hx hb dX6_row_19 (by decide) (fun c19 => ?_) (fun c19 => ?_)
          ·
            have d20 : dkN [(-2147483648, 40)] p2 := dkN_le1 0 (dkN_top p2) (dkN_lit (x := 40) (40) rfl) (dkc_le c19) rfl
            refine lv_iload_n hx hb dX6_row_25 rfl (lv_at hl 3 rfl) ?_
            refine lv_if_ge (tgt := 35) hx hb dX6_row_26 (by decide) (fun c21 => ?_) (fun c21 => ?_)
            ·
              have d22 : dkN [(0, 40)] p2 := dkN_le2 0 (dkN_lit (x := 0) (0) rfl) d20 (dkc_le c21) rfl
              refine lv_aload_n hx hb dX6_row_35 rfl (lv_at hl 0 rfl) ?_
              refine dk_get (k := 340) hx hb hts iX6_row_6 hown hK (dk_at340 hW) rfl 0 (by decide) (hts (.fieldLink RX6 7 "DogKingsModel" "lane" "[I") (List.mem_of_getElem? (i := 2) rfl)) rfl dX6_row_36 ?_
              refine lv_iload_n hx hb dX6_row_39 rfl (lv_at hl 1 rfl) ?_
              refine lv_iload_n hx hb dX6_row_40 rfl (lv_at hl 2 rfl) ?_
              refine dk_ist (k := 341) hx hb hK hW (fun _ => rfl) (by decide) hS (dkN_in (n := 8) d12 rfl) dX6_row_41 (fun I23 H23 L23 eI23 hW hS => ?_)
              have hO := dkO_set hO eI23 (dkN_sub d17 rfl)
              have hF := dkF_set hF eI23 (dkIn_v d12 rfl)
              refine lv_aload_n hx hb dX6_row_42 rfl (lv_at hl 0 rfl) ?_
              refine dk_get (k := 340) hx hb hts iX6_row_6 hown hK (dk_at340 hW) rfl 1 (by decide) (hts (.fieldLink RX6 13 "DogKingsModel" "many" "[I") (List.mem_of_getElem? (i := 3) rfl)) rfl dX6_row_43 ?_
              refine lv_iload_n hx hb dX6_row_46 rfl (lv_at hl 1 rfl) ?_
              refine lv_iload_n hx hb dX6_row_47 rfl (lv_at hl 3 rfl) ?_
              refine dk_ist (k := 342) hx hb hK hW (fun _ => rfl) (by decide) hS (dkN_in (n := 8) d12 rfl) dX6_row_48 (fun I24 H24 L24 eI24 hW hS => ?_)
              have hO := dkO_set hO eI24 (dkN_sub d22 rfl)
              have hF := dkF_set hF eI24 (dkIn_v d12 rfl)
              refine lv_iconst (v := 0) hx hb dX6_row_49 (by decide) ?_
              refine lv_istore (lv' := [(4, .int 0), (0, .ref (z + 340)), (1, .int p0), (2, .int p1), (3, .int p2)]) hx hb dX6_row_50 hl (by decide) rfl (fun ls hl => ?_)
              exact C52 _ I24 _ _ ls 0 (Nat.lt_succ_self _) hW hS hF hO (dkN_sub (dkN_lit (x := 0) (0) rfl) rfl) (dkN_sub d12 rfl) (dkN_sub d17 rfl) (dkN_sub d22 rfl) (lv_sub hl [1, 2, 3, 4, 0] rfl)
            ·
              have d25 : dkN [(-2147483648, -1)] p2 := dkN_le1 1 d20 (dkN_lit (x := 0) (0) rfl) (dkc_nle c21) rfl
              refine lv_aload_n hx hb dX6_row_29 rfl (lv_at hl 0 rfl) ?_
              refine lv_iconst (v := 4) hx hb dX6_row_30 (by decide) ?_
              refine dk_Vi (As := [.int 4]) (rest := []) ⟨hx, hb, hml, hown, hts⟩ (c_X6_found_0 l g z I14 4 (dkN_lit (x := 4) (4) rfl) hO) (cwV 1 hts gX6_row_X6_found rfl rfl rfl (by decide +kernel) ⟨Nat.le_of_ble_eq_true rfl, Nat.le_of_ble_eq_true rfl⟩) (dk_at340 hW) rfl hK hT hW hS rfl hl.1 rfl (Nat.le_of_ble_eq_true rfl) dX6_row_31 ⟨Nat.zero_le _, Nat.zero_le _⟩ (fun v26 I26 H26 L26 hp26 hW hS => ?_)
              obtain ⟨hF26, hO, hc26⟩ := hp26
              have hF := dkF_call hF hF26 rfl
              obtain ⟨dv26, f26_340_4, -⟩ := hc26
              exact W.iret (v := v26) hx hb hr (fun t ht hW9 => ⟨⟨v26, I26, rfl, ⟨hF, hO, Or.inl ⟨dkN_sub dv26 rfl, dkN_sub d12 rfl, dkN_sub d17 rfl, dkN_sub d25 rfl, (show dkN [(4, 4)] (I26 340 4) from dkN_sub f26_340_4 rfl), trivial⟩⟩, dkW_eq ht hW⟩, hS.F ht⟩) hS.2.2 dX6_row_34
          ·
            have d27 : dkN [(41, 2147483647)] p2 := dkN_le2 1 (dkN_lit (x := 40) (40) rfl) (dkN_top p2) (dkc_nle c19) rfl
            refine lv_ldc (v := (-1000001)) hx hb hown (hts (.constant RX6 64 (-1000001)) (List.mem_of_getElem? (i := 1) rfl)) dX6_row_22 ?_
            exact W.iret (v := (-1000001)) hx hb hr (fun t ht hW9 => ⟨⟨(-1000001), I14, rfl, ⟨hF, hO, Or.inr (Or.inl ⟨dkN_sub (dkN_lit (x := (-1000001)) (-1000001) rfl) rfl, trivial⟩)⟩, dkW_eq ht hW⟩, hS.F ht⟩) hS.2.2 dX6_row_24
set_option maxHeartbeats 4000000 in
set_option maxRecDepth 100000 in
theorem c_X5_isMissing_0 (l : Launch) (g : dkG) (z : Nat) (I0 : dkI) (p0 : Int32) (dp0 : dkN [(0, 7)] p0)  (hO : dkOk I0) : Met l yX5_isMissing wsX5_isMissing (dkR 0) (dkPc g z [.ref (z + 0), .int p0] I0) (dkQi g z (fun r I1 => dkF [] I0 I1 ∧ dkOk I1 ∧ ((dkN [(0, 1)] r ∧ True)))) 0 0 (dkA z) := by
  refine Met.ofW (cc := cX5_isMissing) (maxL := 2) (ret := (some .boolean)) (by decide) rfl ?_
  intro p e s m args below meth c s₁ B hml hv
  obtain ⟨ha, hW, hK, hT⟩ := hv
  have hx := B.exec
  have hb := B.bytes
  have hr := B.returns
  have hts := atoms_spec (ws := wsX5_isMissing) B.pre
  have hown : s.vm.findClass RX5 = some m.cls := findClass_of_methodNamed B.named
  have hlocks := B.notSynchronized
  have hS : va_S (dkA z) s.heap s.heap [] := va_S.rf
  have hF : dkF [] I0 I0 := dkF_rf _ _
  have hl := lv_entry ([.ref (z + 0), .int p0]) (n := 2) (Nat.le_of_ble_eq_true rfl)
  have hgo : entryFrame m args 2 = entryFrame m ([.ref (z + 0), .int p0] : List Value).toArray 2 := by rw [ha]
  rw [hgo, lg_entry_eq]
  generalize (lg_sl ([.ref (z + 0), .int p0]) ++ List.replicate (2 - (lg_sl ([.ref (z + 0), .int p0])).length) Slot.unset).toArray = ls at hl ⊢
  have hl : lv_has ls 2 [(0, .ref (z + 0)), (1, .int p0)] := hl
  refine lv_aload_n hx hb dX5_isMissing_0 rfl (lv_at hl 0 rfl) ?_
  refine dk_get (k := 0) hx hb hts iX5_isMissing_5 hown hK (dk_at0 hW) rfl 2 (by decide) (hts (.fieldLink RX5 18 "DogKings" "sizes" "[I") (List.mem_of_getElem? (i := 1) rfl)) rfl dX5_isMissing_1 ?_
  refine lv_iload_n hx hb dX5_isMissing_4 rfl (lv_at hl 1 rfl) ?_
  refine dk_ild (k := 11) hx hb hK (dk_at11 hW) (dkN_in (n := 8) dp0 rfl) dX5_isMissing_5 ?_
  refine lv_topi (fun v1 ev1 => ?_)
  have dv1 : dkN [(-1, 40)] v1 := by rw [ev1]; exact (hO 11 _)
  refine lv_iconst (v := (-1)) hx hb dX5_isMissing_6 (by decide) ?_
  refine lv_icmp_ne (tgt := 14) hx hb dX5_isMissing_7 (by decide) (fun c2 => ?_) (fun c2 => ?_)
  ·
    have d3 : dkN [(0, 40)] v1 := dkN_ne1 (-1) dv1 (dkN_lit (x := (-1)) (-1) rfl) (dk_ne c2) rfl
    refine lv_iconst (v := 0) hx hb dX5_isMissing_14 (by decide) ?_
    exact W.zret (v := 0) (ty := .boolean) hx hb hr rfl (fun t ht hW9 => ⟨⟨0, I0, rfl, ⟨hF, hO, ⟨dkN_sub (dkN_lit (x := 0) (0) rfl) rfl, trivial⟩⟩, dkW_eq ht hW⟩, hS.F ht⟩) hS.2.2 dX5_isMissing_15
  ·
    have d4 : dkN [(-1, -1)] v1 := dkN_eq1 dv1 (dkN_lit (x := (-1)) (-1) rfl) (congrArg Int32.toInt c2) rfl
    refine lv_iconst (v := 1) hx hb dX5_isMissing_10 (by decide) ?_
    refine lv_goto (tgt := 15) hx hb dX5_isMissing_11 (by decide) ?_
    exact W.zret (v := 1) (ty := .boolean) hx hb hr rfl (fun t ht hW9 => ⟨⟨1, I0, rfl, ⟨hF, hO, ⟨dkN_sub (dkN_lit (x := 1) (1) rfl) rfl, trivial⟩⟩, dkW_eq ht hW⟩, hS.F ht⟩) hS.2.2 dX5_isMissing_15
set_option maxHeartbeats 4000000 in
set_option maxRecDepth 100000 in
theorem c_X5_cutTo_0 (l : Launch) (g : dkG) (z : Nat) (I0 : dkI) (p0 : Int32) (p1 : Int32) (dp0 : dkN [(0, 2)] p0)  (hO : dkOk I0) : Met l yX5_cutTo wsX5_cutTo (dkR 0) (dkPc g z [.int p0, .int p1] I0) (dkQi g z (fun r I1 => dkF [] I0 I1 ∧ dkOk I1 ∧ ((True ∧ True)))) 0 0 (dkA z) := by
  refine Met.ofW (cc := cX5_cutTo) (maxL := 2) (ret := (some .int)) (by decide) rfl ?_
  intro p e s m args below meth c s₁ B hml hv
  obtain ⟨ha, hW, hK, hT⟩ := hv
  have hx := B.exec
  have hb := B.bytes
  have hr := B.returns
  have hts := atoms_spec (ws := wsX5_cutTo) B.pre
  have hown : s.vm.findClass RX5 = some m.cls := findClass_of_methodNamed B.named
  have hlocks := B.notSynchronized
  have hS : va_S (dkA z) s.heap s.heap [] := va_S.rf
  have hF : dkF [] I0 I0 := dkF_rf _ _
  have hl := lv_entry ([.int p0, .int p1]) (n := 2) (Nat.le_of_ble_eq_true rfl)
  have hgo : entryFrame m args 2 = entryFrame m ([.int p0, .int p1] : List Value).toArray 2 := by rw [ha]
  rw [hgo, lg_entry_eq]
  generalize (lg_sl ([.int p0, .int p1]) ++ List.replicate (2 - (lg_sl ([.int p0, .int p1])).length) Slot.unset).toArray = ls at hl ⊢
  have hl : lv_has ls 2 [(0, .int p0), (1, .int p1)] := hl
  refine lv_iload_n hx hb dX5_cutTo_0 rfl (lv_at hl 0 rfl) ?_
  by_cases c1 : p0 = 0
  ·
    have qc1 : p0.toInt = 0 := by rw [c1]; rfl
    have d2 : dkN [(0, 0)] p0 := dkN_lit (0) qc1
    refine lv_lookup (off := 27) (tgt := 28) hx hb dX5_cutTo_1 (by decide) (by rw [qc1]; rfl) (by decide) ?_
    refine lv_iload_n hx hb dX5_cutTo_28 rfl (lv_at hl 1 rfl) ?_
    refine lv_i2b hx hb dX5_cutTo_29 rfl ?_
    refine lv_topi (fun v3 ev3 => ?_)
    exact W.iret (v := v3) hx hb hr (fun t ht hW9 => ⟨⟨v3, I0, rfl, ⟨hF, hO, ⟨trivial, trivial⟩⟩, dkW_eq ht hW⟩, hS.F ht⟩) hS.2.2 dX5_cutTo_30
  ·
    have d4 : dkN [(1, 2)] p0 := dkN_ne1 (0) dp0 (dkN_lit (x := 0) (0) rfl) (dk_ne c1) rfl
    by_cases c5 : p0 = 1
    ·
      have qc5 : p0.toInt = 1 := by rw [c5]; rfl
      have d6 : dkN [(1, 1)] p0 := dkN_lit (1) qc5
      refine lv_lookup (off := 30) (tgt := 31) hx hb dX5_cutTo_1 (by decide) (by rw [qc5]; rfl) (by decide) ?_
      refine lv_iload_n hx hb dX5_cutTo_31 rfl (lv_at hl 1 rfl) ?_
      refine lv_i2s hx hb dX5_cutTo_32 rfl ?_
      refine lv_topi (fun v7 ev7 => ?_)
      exact W.iret (v := v7) hx hb hr (fun t ht hW9 => ⟨⟨v7, I0, rfl, ⟨hF, hO, ⟨trivial, trivial⟩⟩, dkW_eq ht hW⟩, hS.F ht⟩) hS.2.2 dX5_cutTo_33
    ·
      have d8 : dkN [(2, 2)] p0 := dkN_ne1 (1) d4 (dkN_lit (x := 1) (1) rfl) (dk_ne c5) rfl
      refine lv_lookup (off := 33) (tgt := 34) hx hb dX5_cutTo_1 (by decide) (by exact (lv_osw c1 rfl).trans ((lv_osw c5 rfl).trans (rfl))) (by decide) ?_
      refine lv_iload_n hx hb dX5_cutTo_34 rfl (lv_at hl 1 rfl) ?_
      exact W.iret (v := p1) hx hb hr (fun t ht hW9 => ⟨⟨p1, I0, rfl, ⟨hF, hO, ⟨trivial, trivial⟩⟩, dkW_eq ht hW⟩, hS.F ht⟩) hS.2.2 dX5_cutTo_35
set_option maxHeartbeats 4000000 in
set_option maxRecDepth 100000 in
theorem c_X5_found_1 (l : Launch) (g : dkG) (z : Nat) (I0 : dkI) (p0 : Int32) (dp0 : dkN [(1, 1)] p0)  (hO : dkOk I0) : Met l yX5_found wsX5_found (dkR 0) (dkPc g z [.ref (z + 0), .int p0] I0) (dkQi g z (fun r I1 => dkF [(0, 0, 3, 3)] I0 I1 ∧ dkOk I1 ∧ ((dkN [(-1000011, -1000011)] r ∧ dkN [(1, 1)] (I1 0 3) ∧ True)))) 0 0 (dkA z) := by
  refine Met.ofW (cc := cX5_found) (maxL := 2) (ret := (some .int)) (by decide) rfl ?_
  intro p e s m args below meth c s₁ B hml hv
  obtain ⟨ha, hW, hK, hT⟩ := hv
  have hx := B.exec
  have hb := B.bytes
  have hr := B.returns
  have hts := atoms_spec (ws := wsX5_found) B.pre
  have hown : s.vm.findClass RX5 = some m.cls := findClass_of_methodNamed B.named
  have hlocks := B.notSynchronized
  have hS : va_S (dkA z) s.heap s.heap [] := va_S.rf
  have hF : dkF [(0, 0, 3, 3)] I0 I0 := dkF_rf _ _
  have hl := lv_entry ([.ref (z + 0), .int p0]) (n := 2) (Nat.le_of_ble_eq_true rfl)
  have hgo : entryFrame m args 2 = entryFrame m ([.ref (z + 0), .int p0] : List Value).toArray 2 := by rw [ha]
  rw [hgo, lg_entry_eq]
  generalize (lg_sl ([.ref (z + 0), .int p0]) ++ List.replicate (2 - (lg_sl ([.ref (z + 0), .int p0])).length) Slot.unset).toArray = ls at hl ⊢
  have hl : lv_has ls 2 [(0, .ref (z + 0)), (1, .int p0)] := hl
  refine lv_aload_n hx hb dX5_found_0 rfl (lv_at hl 0 rfl) ?_
  refine lv_iload_n hx hb dX5_found_1 rfl (lv_at hl 1 rfl) ?_
  refine dk_put (k := 0) hx hb hts iX5_found_5 tyX5 tyX5_ok nmX5 hown hK hW (dk_at0 hW) hS rfl 3 (by decide) (hts (.fieldLink RX5 292 "DogKings" "finding" "I") (List.mem_of_getElem? (i := 1) rfl)) rfl rfl (Nat.le_of_ble_eq_true rfl) rfl dX5_found_2 (fun I1 H1 L1 eI1 hW hS => ?_)
  have eI1 : I1 = dkU I0 0 3 p0 := eI1
  have hO := dkO_set hO eI1 (dkN_sub dp0 rfl)
  have hF := dkF_set hF eI1 rfl
  refine lv_ldcw (v := (-1000010)) hx hb hown (hts (.constant RX5 295 (-1000010)) (List.mem_of_getElem? (i := 2) rfl)) dX5_found_5 ?_
  refine lv_iload_n hx hb dX5_found_8 rfl (lv_at hl 1 rfl) ?_
  refine lv_isub hx hb dX5_found_9 ?_
  refine lv_topi (fun v2 ev2 => ?_)
  have dv2 : dkN [(-1000011, -1000011)] v2 := by rw [ev2]; exact dkN_subt (dkN_lit (x := (-1000010)) (-1000010) rfl) dp0 rfl
  exact W.iret (v := v2) hx hb hr (fun t ht hW9 => ⟨⟨v2, I1, rfl, ⟨hF, hO, ⟨dkN_sub dv2 rfl, (show dkN [(1, 1)] (I1 0 3) from dkN_sub (by rw [eI1, dkU_ss]; exact dp0) rfl), trivial⟩⟩, dkW_eq ht hW⟩, hS.F ht⟩) hS.2.2 dX5_found_10
set_option maxHeartbeats 4000000 in
set_option maxRecDepth 100000 in
theorem c_X5_found_2 (l : Launch) (g : dkG) (z : Nat) (I0 : dkI) (p0 : Int32) (dp0 : dkN [(2, 2)] p0)  (hO : dkOk I0) : Met l yX5_found wsX5_found (dkR 0) (dkPc g z [.ref (z + 0), .int p0] I0) (dkQi g z (fun r I1 => dkF [(0, 0, 3, 3)] I0 I1 ∧ dkOk I1 ∧ ((dkN [(-1000012, -1000012)] r ∧ dkN [(2, 2)] (I1 0 3) ∧ True)))) 0 0 (dkA z) := by
  refine Met.ofW (cc := cX5_found) (maxL := 2) (ret := (some .int)) (by decide) rfl ?_
  intro p e s m args below meth c s₁ B hml hv
  obtain ⟨ha, hW, hK, hT⟩ := hv
  have hx := B.exec
  have hb := B.bytes
  have hr := B.returns
  have hts := atoms_spec (ws := wsX5_found) B.pre
  have hown : s.vm.findClass RX5 = some m.cls := findClass_of_methodNamed B.named
  have hlocks := B.notSynchronized
  have hS : va_S (dkA z) s.heap s.heap [] := va_S.rf
  have hF : dkF [(0, 0, 3, 3)] I0 I0 := dkF_rf _ _
  have hl := lv_entry ([.ref (z + 0), .int p0]) (n := 2) (Nat.le_of_ble_eq_true rfl)
  have hgo : entryFrame m args 2 = entryFrame m ([.ref (z + 0), .int p0] : List Value).toArray 2 := by rw [ha]
  rw [hgo, lg_entry_eq]
  generalize (lg_sl ([.ref (z + 0), .int p0]) ++ List.replicate (2 - (lg_sl ([.ref (z + 0), .int p0])).length) Slot.unset).toArray = ls at hl ⊢
  have hl : lv_has ls 2 [(0, .ref (z + 0)), (1, .int p0)] := hl
  refine lv_aload_n hx hb dX5_found_0 rfl (lv_at hl 0 rfl) ?_
  refine lv_iload_n hx hb dX5_found_1 rfl (lv_at hl 1 rfl) ?_
  refine dk_put (k := 0) hx hb hts iX5_found_5 tyX5 tyX5_ok nmX5 hown hK hW (dk_at0 hW) hS rfl 3 (by decide) (hts (.fieldLink RX5 292 "DogKings" "finding" "I") (List.mem_of_getElem? (i := 1) rfl)) rfl rfl (Nat.le_of_ble_eq_true rfl) rfl dX5_found_2 (fun I1 H1 L1 eI1 hW hS => ?_)
  have eI1 : I1 = dkU I0 0 3 p0 := eI1
  have hO := dkO_set hO eI1 (dkN_sub dp0 rfl)
  have hF := dkF_set hF eI1 rfl
  refine lv_ldcw (v := (-1000010)) hx hb hown (hts (.constant RX5 295 (-1000010)) (List.mem_of_getElem? (i := 2) rfl)) dX5_found_5 ?_
  refine lv_iload_n hx hb dX5_found_8 rfl (lv_at hl 1 rfl) ?_
  refine lv_isub hx hb dX5_found_9 ?_
  refine lv_topi (fun v2 ev2 => ?_)
  have dv2 : dkN [(-1000012, -1000012)] v2 := by rw [ev2]; exact dkN_subt (dkN_lit (x := (-1000010)) (-1000010) rfl) dp0 rfl
  exact W.iret (v := v2) hx hb hr (fun t ht hW9 => ⟨⟨v2, I1, rfl, ⟨hF, hO, ⟨dkN_sub dv2 rfl, (show dkN [(2, 2)] (I1 0 3) from dkN_sub (by rw [eI1, dkU_ss]; exact dp0) rfl), trivial⟩⟩, dkW_eq ht hW⟩, hS.F ht⟩) hS.2.2 dX5_found_10
set_option maxHeartbeats 4000000 in
set_option maxRecDepth 100000 in
theorem c_X5_set_0 (l : Launch) (g : dkG) (z : Nat) (I0 : dkI) (p0 : Int32) (p1 : Int32) (p2 : Int32)  (hO : dkOk I0) : Met l yX5_set wsX5_set (dkR 2) (dkPc g z [.ref (z + 0), .int p0, .int p1, .int p2] I0) (dkQi g z (fun r I1 => dkF [(2, 9, 0, 2147483647), (0, 0, 3, 3)] I0 I1 ∧ dkOk I1 ∧ ((True ∧ True)))) 0 0 (dkA z) := by
  refine Met.ofW (cc := cX5_set) (maxL := 4) (ret := (some .int)) (by decide) rfl ?_
  intro p e s m args below meth c s₁ B hml hv
  obtain ⟨ha, hW, hK, hT⟩ := hv
  have hx := B.exec
  have hb := B.bytes
  have hr := B.returns
  have hts := atoms_spec (ws := wsX5_set) B.pre
  have hown : s.vm.findClass RX5 = some m.cls := findClass_of_methodNamed B.named
  have hlocks := B.notSynchronized
  have hS : va_S (dkA z) s.heap s.heap [] := va_S.rf
  have hF : dkF [(2, 9, 0, 2147483647), (0, 0, 3, 3)] I0 I0 := dkF_rf _ _
  have hl := lv_entry ([.ref (z + 0), .int p0, .int p1, .int p2]) (n := 4) (Nat.le_of_ble_eq_true rfl)
  have hgo : entryFrame m args 4 = entryFrame m ([.ref (z + 0), .int p0, .int p1, .int p2] : List Value).toArray 4 := by rw [ha]
  rw [hgo, lg_entry_eq]
  generalize (lg_sl ([.ref (z + 0), .int p0, .int p1, .int p2]) ++ List.replicate (4 - (lg_sl ([.ref (z + 0), .int p0, .int p1, .int p2])).length) Slot.unset).toArray = ls at hl ⊢
  have hl : lv_has ls 4 [(0, .ref (z + 0)), (1, .int p0), (2, .int p1), (3, .int p2)] := hl
  have C38 : ∀ (I : dkI) (H : Heap) (locs : List Loc) (ls : Array Slot), dkW g z I H → va_S (dkA z) s.heap H locs → dkF [(2, 9, 0, 2147483647), (0, 0, 3, 3)] I0 I → dkOk I → dkN [(0, 7)] p0 → lv_has ls 4 [(0, .ref (z + 0)), (1, .int p0), (2, .int p1), (3, .int p2)] → W p l e (headSpec wsX5_set (dkR 2)).room s m args below meth c H locs 0 0 (MQ below (dkQi g z (fun r I1 => dkF [(2, 9, 0, 2147483647), (0, 0, 3, 3)] I0 I1 ∧ dkOk I1 ∧ ((True ∧ True)))) args s 0 0 (dkA z)) (F0 m 38 ls []) := by
    intro I38_ H locs ls hW hS hF_38 hO r38_0 hl
    have hF := hF_38
    refine lv_aload_n hx hb dX5_set_38 rfl (lv_at hl 0 rfl) ?_
    refine lv_iconst (v := 2) hx hb dX5_set_39 (by decide) ?_
    refine dk_Vi (As := [.int 2]) (rest := []) ⟨hx, hb, hml, hown, hts⟩ (c_X5_found_2 l g z I38_ 2 (dkN_lit (x := 2) (2) rfl) hO) (cwV 1 hts gX5_set_X5_found rfl rfl rfl (by decide +kernel) ⟨Nat.le_of_ble_eq_true rfl, Nat.le_of_ble_eq_true rfl⟩) (dk_at0 hW) rfl hK hT hW hS rfl hl.1 rfl (Nat.le_of_ble_eq_true rfl) dX5_set_40 ⟨Nat.zero_le _, Nat.zero_le _⟩ (fun v1 I1 H1 L1 hp1 hW hS => ?_)
    obtain ⟨hF1, hO, hc1⟩ := hp1
    have hF := dkF_call hF hF1 rfl
    obtain ⟨dv1, f1_0_3, -⟩ := hc1
    exact W.iret (v := v1) hx hb hr (fun t ht hW9 => ⟨⟨v1, I1, rfl, ⟨hF, hO, ⟨trivial, trivial⟩⟩, dkW_eq ht hW⟩, hS.F ht⟩) hS.2.2 dX5_set_43
  refine lv_iload_n hx hb dX5_set_0 rfl (lv_at hl 1 rfl) ?_
  refine dk_Si (As := [.int p0]) (rest := []) ⟨hx, hb, hml, hown, hts⟩ (c_X5_isRow_0 l g z I0 p0 hO) (va_cwS 1 hts gX5_set_X5_isRow rfl rfl rfl (by decide +kernel) ⟨Nat.le_of_ble_eq_true rfl, Nat.le_of_ble_eq_true rfl⟩) hK hT hW hS rfl hl.1 rfl (Nat.le_of_ble_eq_true rfl) dX5_set_1 ⟨Nat.zero_le _, Nat.zero_le _⟩ (fun v2 I2 H2 L2 hp2 hW hS => ?_)
  obtain ⟨hF2, hO, hc2⟩ := hp2
  have hF := dkF_call hF hF2 rfl
  rcases hc2 with ⟨dv2, a2_0, -⟩ | hc2
  ·
    have d3 : dkN [(-2147483648, -1), (8, 2147483647)] p0 := dkN_eq1 (dkN_top p0) a2_0 rfl rfl
    refine lv_if_ne (tgt := 10) hx hb dX5_set_4 (by decide) (fun c4 => ?_) (fun c4 => ?_)
    ·
      exact (dkN_nil (show dkN [] v2 from dkN_ne1 (0) dv2 (dkN_lit (x := 0) (0) rfl) (dk_ne c4) rfl)).elim
    ·
      refine lv_ldc (v := (-1000001)) hx hb hown (hts (.constant RX5 70 (-1000001)) (List.mem_of_getElem? (i := 1) rfl)) dX5_set_7 ?_
      exact W.iret (v := (-1000001)) hx hb hr (fun t ht hW9 => ⟨⟨(-1000001), I2, rfl, ⟨hF, hO, ⟨trivial, trivial⟩⟩, dkW_eq ht hW⟩, hS.F ht⟩) hS.2.2 dX5_set_9
  ·
    obtain ⟨dv2, a2_0, -⟩ := hc2
    have d5 : dkN [(0, 7)] p0 := dkN_eq1 (dkN_top p0) a2_0 rfl rfl
    refine lv_if_ne (tgt := 10) hx hb dX5_set_4 (by decide) (fun c6 => ?_) (fun c6 => ?_)
    ·
      refine lv_aload_n hx hb dX5_set_10 rfl (lv_at hl 0 rfl) ?_
      refine lv_iload_n hx hb dX5_set_11 rfl (lv_at hl 1 rfl) ?_
      refine dk_Vi (As := [.int p0]) (rest := []) ⟨hx, hb, hml, hown, hts⟩ (c_X5_isMissing_0 l g z I2 p0 d5 hO) (cwV 1 hts gX5_set_X5_isMissing rfl rfl rfl (by decide +kernel) ⟨Nat.le_of_ble_eq_true rfl, Nat.le_of_ble_eq_true rfl⟩) (dk_at0 hW) rfl hK hT hW hS rfl hl.1 rfl (Nat.le_of_ble_eq_true rfl) dX5_set_12 ⟨Nat.zero_le _, Nat.zero_le _⟩ (fun v7 I7 H7 L7 hp7 hW hS => ?_)
      obtain ⟨hF7, hO, hc7⟩ := hp7
      have hF := dkF_call hF hF7 rfl
      obtain ⟨dv7, -⟩ := hc7
      refine lv_if_eq (tgt := 24) hx hb dX5_set_15 (by decide) (fun c8 => ?_) (fun c8 => ?_)
      ·
        have d9 : dkN [(0, 0)] v7 := dkN_eq1 dv7 (dkN_lit (x := 0) (0) rfl) (congrArg Int32.toInt c8) rfl
        refine lv_iload_n hx hb dX5_set_24 rfl (lv_at hl 2 rfl) ?_
        refine lv_if_lt (tgt := 38) hx hb dX5_set_25 (by decide) (fun c10 => ?_) (fun c10 => ?_)
        ·
          have d11 : dkN [(-2147483648, -1)] p1 := dkN_le1 1 (dkN_top p1) (dkN_lit (x := 0) (0) rfl) (dkc_lt c10) rfl
          exact C38 I7 _ _ ls  hW hS hF hO (dkN_sub d5 rfl) (lv_sub hl [0, 1, 2, 3] rfl)
        ·
          have d12 : dkN [(0, 2147483647)] p1 := dkN_le2 0 (dkN_lit (x := 0) (0) rfl) (dkN_top p1) (dkc_nlt c10) rfl
          refine lv_iload_n hx hb dX5_set_28 rfl (lv_at hl 2 rfl) ?_
          refine lv_aload_n hx hb dX5_set_29 rfl (lv_at hl 0 rfl) ?_
          refine dk_get (k := 0) hx hb hts iX5_set_5 hown hK (dk_at0 hW) rfl 2 (by decide) (hts (.fieldLink RX5 18 "DogKings" "sizes" "[I") (List.mem_of_getElem? (i := 2) rfl)) rfl dX5_set_30 ?_
          refine lv_iload_n hx hb dX5_set_33 rfl (lv_at hl 1 rfl) ?_
          refine dk_ild (k := 11) hx hb hK (dk_at11 hW) (dkN_in (n := 8) d5 rfl) dX5_set_34 ?_
          refine lv_topi (fun v13 ev13 => ?_)
          have dv13 : dkN [(-1, 40)] v13 := by rw [ev13]; exact (hO 11 _)
          refine lv_icmp_lt (tgt := 44) hx hb dX5_set_35 (by decide) (fun c14 => ?_) (fun c14 => ?_)
          ·
            have d15 : dkN [(0, 39)] p1 := dkN_le1 1 d12 dv13 (dkc_lt c14) rfl
            have d16 : dkN [(1, 40)] v13 := dkN_le2 1 d12 dv13 (dkc_lt c14) rfl
            refine lv_aload_n hx hb dX5_set_44 rfl (lv_at hl 0 rfl) ?_
            refine dk_get (k := 0) hx hb hts iX5_set_5 hown hK (dk_at0 hW) rfl 0 (by decide) (hts (.fieldLink RX5 11 "DogKings" "items" "[[I") (List.mem_of_getElem? (i := 3) rfl)) rfl dX5_set_45 ?_
            refine lv_iload_n hx hb dX5_set_48 rfl (lv_at hl 1 rfl) ?_
            obtain ⟨rf17, hrf17, erf17⟩ := dk_rowAt (z := z) (dkN_in (n := 8) d5 rfl)
            refine dk_rld (r := z + rf17) hx hb hK (dk_at1 hW) (dkN_in (n := 8) d5 rfl) erf17 dX5_set_49 ?_
            refine lv_iload_n hx hb dX5_set_50 rfl (lv_at hl 2 rfl) ?_
            refine lv_aload_n hx hb dX5_set_51 rfl (lv_at hl 0 rfl) ?_
            refine dk_get (k := 0) hx hb hts iX5_set_5 hown hK (dk_at0 hW) rfl 1 (by decide) (hts (.fieldLink RX5 14 "DogKings" "lanes" "[I") (List.mem_of_getElem? (i := 4) rfl)) rfl dX5_set_52 ?_
            refine lv_iload_n hx hb dX5_set_55 rfl (lv_at hl 1 rfl) ?_
            refine dk_ild (k := 10) hx hb hK (dk_at10 hW) (dkN_in (n := 8) d5 rfl) dX5_set_56 ?_
            refine lv_topi (fun v18 ev18 => ?_)
            have dv18 : dkN [(0, 2)] v18 := by rw [ev18]; exact (hO 10 _)
            refine lv_iload_n hx hb dX5_set_57 rfl (lv_at hl 3 rfl) ?_
            refine dk_Si (As := [.int v18, .int p2]) (rest := [.int p1, .ref (z + rf17)]) ⟨hx, hb, hml, hown, hts⟩ (c_X5_cutTo_0 l g z I7 v18 p2 dv18 hO) (va_cwS 2 hts gX5_set_X5_cutTo rfl rfl rfl (by decide +kernel) ⟨Nat.le_of_ble_eq_true rfl, Nat.le_of_ble_eq_true rfl⟩) hK hT hW hS rfl hl.1 rfl (Nat.le_of_ble_eq_true rfl) dX5_set_58 ⟨Nat.zero_le _, Nat.zero_le _⟩ (fun v19 I19 H19 L19 hp19 hW hS => ?_)
            obtain ⟨hF19, hO, hc19⟩ := hp19
            have hF := dkF_call hF hF19 rfl
            obtain ⟨_, -⟩ := hc19
            refine dk_ist (k := rf17) hx hb hK hW (dkC_R g z hrf17) (by omega) hS (dkN_in (n := 40) d15 rfl) dX5_set_61 (fun I20 H20 L20 eI20 hW hS => ?_)
            have hO := dkO_setR hO hrf17 eI20
            have hF := dkF_set hF eI20 (dkIn_R hrf17 (dk_clt _) rfl)
            refine lv_aload_n hx hb dX5_set_62 rfl (lv_at hl 0 rfl) ?_
            refine lv_aload_n hx hb dX5_set_63 rfl (lv_at hl 0 rfl) ?_
            refine dk_get (k := 0) hx hb hts iX5_set_5 hown hK (dk_at0 hW) rfl 0 (by decide) (hts (.fieldLink RX5 11 "DogKings" "items" "[[I") (List.mem_of_getElem? (i := 3) rfl)) rfl dX5_set_64 ?_
            refine lv_iload_n hx hb dX5_set_67 rfl (lv_at hl 1 rfl) ?_
            obtain ⟨rf21, hrf21, erf21⟩ := dk_rowAt (z := z) (dkN_in (n := 8) d5 rfl)
            refine dk_rld (r := z + rf21) hx hb hK (dk_at1 hW) (dkN_in (n := 8) d5 rfl) erf21 dX5_set_68 ?_
            refine lv_iload_n hx hb dX5_set_69 rfl (lv_at hl 2 rfl) ?_
            refine dk_ild (k := rf21) hx hb hK (dk_aR hrf21 hW) (dkN_in (n := 40) d15 rfl) dX5_set_70 ?_
            refine lv_topi (fun v22 ev22 => ?_)
            refine dk_Vi (As := [.int v22]) (rest := []) ⟨hx, hb, hml, hown, hts⟩ (c_X5_nothingFound_0 l g z I20 v22 hO) (cwV 1 hts gX5_set_X5_nothingFound rfl rfl rfl (by decide +kernel) ⟨Nat.le_of_ble_eq_true rfl, Nat.le_of_ble_eq_true rfl⟩) (dk_at0 hW) rfl hK hT hW hS rfl hl.1 rfl (Nat.le_of_ble_eq_true rfl) dX5_set_71 ⟨Nat.zero_le _, Nat.zero_le _⟩ (fun v23 I23 H23 L23 hp23 hW hS => ?_)
            obtain ⟨hF23, hO, ev23, hc23⟩ := hp23
            have hF := dkF_call hF hF23 rfl
            obtain ⟨_, f23_0_3, -⟩ := hc23
            rw [ev23]
            exact W.iret (v := v22) hx hb hr (fun t ht hW9 => ⟨⟨v22, I23, rfl, ⟨hF, hO, ⟨trivial, trivial⟩⟩, dkW_eq ht hW⟩, hS.F ht⟩) hS.2.2 dX5_set_74
          ·
            exact C38 I7 _ _ ls  hW hS hF hO (dkN_sub d5 rfl) (lv_sub hl [0, 1, 2, 3] rfl)
      ·
        have d24 : dkN [(1, 1)] v7 := dkN_ne1 (0) dv7 (dkN_lit (x := 0) (0) rfl) (dk_ne c8) rfl
        refine lv_aload_n hx hb dX5_set_18 rfl (lv_at hl 0 rfl) ?_
        refine lv_iconst (v := 1) hx hb dX5_set_19 (by decide) ?_
        refine dk_Vi (As := [.int 1]) (rest := []) ⟨hx, hb, hml, hown, hts⟩ (c_X5_found_1 l g z I7 1 (dkN_lit (x := 1) (1) rfl) hO) (cwV 1 hts gX5_set_X5_found rfl rfl rfl (by decide +kernel) ⟨Nat.le_of_ble_eq_true rfl, Nat.le_of_ble_eq_true rfl⟩) (dk_at0 hW) rfl hK hT hW hS rfl hl.1 rfl (Nat.le_of_ble_eq_true rfl) dX5_set_20 ⟨Nat.zero_le _, Nat.zero_le _⟩ (fun v25 I25 H25 L25 hp25 hW hS => ?_)
        obtain ⟨hF25, hO, hc25⟩ := hp25
        have hF := dkF_call hF hF25 rfl
        obtain ⟨dv25, f25_0_3, -⟩ := hc25
        exact W.iret (v := v25) hx hb hr (fun t ht hW9 => ⟨⟨v25, I25, rfl, ⟨hF, hO, ⟨trivial, trivial⟩⟩, dkW_eq ht hW⟩, hS.F ht⟩) hS.2.2 dX5_set_23
    ·
      exact (dkN_nil (show dkN [] v2 from dkN_eq1 dv2 (dkN_lit (x := 0) (0) rfl) (congrArg Int32.toInt c6) rfl)).elim
set_option maxHeartbeats 4000000 in
set_option maxRecDepth 100000 in
theorem c_X6_isMissing_0 (l : Launch) (g : dkG) (z : Nat) (I0 : dkI) (p0 : Int32) (dp0 : dkN [(0, 7)] p0)  (hO : dkOk I0) : Met l yX6_isMissing wsX6_isMissing (dkR 0) (dkPc g z [.ref (z + 340), .int p0] I0) (dkQi g z (fun r I1 => dkF [] I0 I1 ∧ dkOk I1 ∧ ((dkN [(0, 1)] r ∧ True)))) 0 0 (dkA z) := by
  refine Met.ofW (cc := cX6_isMissing) (maxL := 2) (ret := (some .boolean)) (by decide) rfl ?_
  intro p e s m args below meth c s₁ B hml hv
  obtain ⟨ha, hW, hK, hT⟩ := hv
  have hx := B.exec
  have hb := B.bytes
  have hr := B.returns
  have hts := atoms_spec (ws := wsX6_isMissing) B.pre
  have hown : s.vm.findClass RX6 = some m.cls := findClass_of_methodNamed B.named
  have hlocks := B.notSynchronized
  have hS : va_S (dkA z) s.heap s.heap [] := va_S.rf
  have hF : dkF [] I0 I0 := dkF_rf _ _
  have hl := lv_entry ([.ref (z + 340), .int p0]) (n := 2) (Nat.le_of_ble_eq_true rfl)
  have hgo : entryFrame m args 2 = entryFrame m ([.ref (z + 340), .int p0] : List Value).toArray 2 := by rw [ha]
  rw [hgo, lg_entry_eq]
  generalize (lg_sl ([.ref (z + 340), .int p0]) ++ List.replicate (2 - (lg_sl ([.ref (z + 340), .int p0])).length) Slot.unset).toArray = ls at hl ⊢
  have hl : lv_has ls 2 [(0, .ref (z + 340)), (1, .int p0)] := hl
  refine lv_aload_n hx hb dX6_isMissing_0 rfl (lv_at hl 0 rfl) ?_
  refine dk_get (k := 340) hx hb hts iX6_isMissing_6 hown hK (dk_at340 hW) rfl 0 (by decide) (hts (.fieldLink RX6 7 "DogKingsModel" "lane" "[I") (List.mem_of_getElem? (i := 1) rfl)) rfl dX6_isMissing_1 ?_
  refine lv_iload_n hx hb dX6_isMissing_4 rfl (lv_at hl 1 rfl) ?_
  refine dk_ild (k := 341) hx hb hK (dk_at341 hW) (dkN_in (n := 8) dp0 rfl) dX6_isMissing_5 ?_
  refine lv_topi (fun v1 ev1 => ?_)
  have dv1 : dkN [(-1000000, -1000000), (0, 2)] v1 := by rw [ev1]; exact (hO 341 _)
  refine lv_ldc (v := (-1000000)) hx hb hown (hts (.constant RX6 50 (-1000000)) (List.mem_of_getElem? (i := 2) rfl)) dX6_isMissing_6 ?_
  refine lv_icmp_ne (tgt := 15) hx hb dX6_isMissing_8 (by decide) (fun c2 => ?_) (fun c2 => ?_)
  ·
    have d3 : dkN [(0, 2)] v1 := dkN_ne1 (-1000000) dv1 (dkN_lit (x := (-1000000)) (-1000000) rfl) (dk_ne c2) rfl
    refine lv_iconst (v := 0) hx hb dX6_isMissing_15 (by decide) ?_
    exact W.zret (v := 0) (ty := .boolean) hx hb hr rfl (fun t ht hW9 => ⟨⟨0, I0, rfl, ⟨hF, hO, ⟨dkN_sub (dkN_lit (x := 0) (0) rfl) rfl, trivial⟩⟩, dkW_eq ht hW⟩, hS.F ht⟩) hS.2.2 dX6_isMissing_16
  ·
    have d4 : dkN [(-1000000, -1000000)] v1 := dkN_eq1 dv1 (dkN_lit (x := (-1000000)) (-1000000) rfl) (congrArg Int32.toInt c2) rfl
    refine lv_iconst (v := 1) hx hb dX6_isMissing_11 (by decide) ?_
    refine lv_goto (tgt := 16) hx hb dX6_isMissing_12 (by decide) ?_
    exact W.zret (v := 1) (ty := .boolean) hx hb hr rfl (fun t ht hW9 => ⟨⟨1, I0, rfl, ⟨hF, hO, ⟨dkN_sub (dkN_lit (x := 1) (1) rfl) rfl, trivial⟩⟩, dkW_eq ht hW⟩, hS.F ht⟩) hS.2.2 dX6_isMissing_16
set_option maxHeartbeats 4000000 in
set_option maxRecDepth 100000 in
theorem c_X6_in_2 (l : Launch) (g : dkG) (z : Nat) (I0 : dkI) (p0 : Int32) (p1 : Int32) (p2 : Int32) (dp1 : dkN [(0, 0)] p1) (dp2 : dkN [(-1, 39)] p2)  (hO : dkOk I0) : Met l yX6_in wsX6_in (dkR 0) (dkPc g z [.int p0, .int p1, .int p2] I0) (dkQi g z (fun r I1 => dkF [] I0 I1 ∧ dkOk I1 ∧ ((dkN [(0, 0)] r ∧ True) ∨ (dkN [(1, 1)] r ∧ dkN [(0, 39)] p0 ∧ dkN [(0, 39)] p2 ∧ True)))) 0 0 (dkA z) := by
  refine Met.ofW (cc := cX6_in) (maxL := 3) (ret := (some .boolean)) (by decide) rfl ?_
  intro p e s m args below meth c s₁ B hml hv
  obtain ⟨ha, hW, hK, hT⟩ := hv
  have hx := B.exec
  have hb := B.bytes
  have hr := B.returns
  have hts := atoms_spec (ws := wsX6_in) B.pre
  have hown : s.vm.findClass RX6 = some m.cls := findClass_of_methodNamed B.named
  have hlocks := B.notSynchronized
  have hS : va_S (dkA z) s.heap s.heap [] := va_S.rf
  have hF : dkF [] I0 I0 := dkF_rf _ _
  have hl := lv_entry ([.int p0, .int p1, .int p2]) (n := 3) (Nat.le_of_ble_eq_true rfl)
  have hgo : entryFrame m args 3 = entryFrame m ([.int p0, .int p1, .int p2] : List Value).toArray 3 := by rw [ha]
  rw [hgo, lg_entry_eq]
  generalize (lg_sl ([.int p0, .int p1, .int p2]) ++ List.replicate (3 - (lg_sl ([.int p0, .int p1, .int p2])).length) Slot.unset).toArray = ls at hl ⊢
  have hl : lv_has ls 3 [(0, .int p0), (1, .int p1), (2, .int p2)] := hl
  refine lv_iload_n hx hb dX6_in_0 rfl (lv_at hl 0 rfl) ?_
  refine lv_iload_n hx hb dX6_in_1 rfl (lv_at hl 1 rfl) ?_
  refine lv_icmp_lt (tgt := 14) hx hb dX6_in_2 (by decide) (fun c1 => ?_) (fun c1 => ?_)
  ·
    have d2 : dkN [(-2147483648, -1)] p0 := dkN_le1 1 (dkN_top p0) dp1 (dkc_lt c1) rfl
    refine lv_iconst (v := 0) hx hb dX6_in_14 (by decide) ?_
    exact W.zret (v := 0) (ty := .boolean) hx hb hr rfl (fun t ht hW9 => ⟨⟨0, I0, rfl, ⟨hF, hO, Or.inl ⟨dkN_sub (dkN_lit (x := 0) (0) rfl) rfl, trivial⟩⟩, dkW_eq ht hW⟩, hS.F ht⟩) hS.2.2 dX6_in_15
  ·
    have d3 : dkN [(0, 2147483647)] p0 := dkN_le2 0 dp1 (dkN_top p0) (dkc_nlt c1) rfl
    refine lv_iload_n hx hb dX6_in_5 rfl (lv_at hl 0 rfl) ?_
    refine lv_iload_n hx hb dX6_in_6 rfl (lv_at hl 2 rfl) ?_
    refine lv_icmp_gt (tgt := 14) hx hb dX6_in_7 (by decide) (fun c4 => ?_) (fun c4 => ?_)
    ·
      refine lv_iconst (v := 0) hx hb dX6_in_14 (by decide) ?_
      exact W.zret (v := 0) (ty := .boolean) hx hb hr rfl (fun t ht hW9 => ⟨⟨0, I0, rfl, ⟨hF, hO, Or.inl ⟨dkN_sub (dkN_lit (x := 0) (0) rfl) rfl, trivial⟩⟩, dkW_eq ht hW⟩, hS.F ht⟩) hS.2.2 dX6_in_15
    ·
      have d5 : dkN [(0, 39)] p2 := dkN_le2 0 d3 dp2 (dkc_nlt c4) rfl
      have d6 : dkN [(0, 39)] p0 := dkN_le1 0 d3 dp2 (dkc_nlt c4) rfl
      refine lv_iconst (v := 1) hx hb dX6_in_10 (by decide) ?_
      refine lv_goto (tgt := 15) hx hb dX6_in_11 (by decide) ?_
      exact W.zret (v := 1) (ty := .boolean) hx hb hr rfl (fun t ht hW9 => ⟨⟨1, I0, rfl, ⟨hF, hO, Or.inr (⟨dkN_sub (dkN_lit (x := 1) (1) rfl) rfl, dkN_sub d6 rfl, dkN_sub d5 rfl, trivial⟩)⟩, dkW_eq ht hW⟩, hS.F ht⟩) hS.2.2 dX6_in_15
set_option maxHeartbeats 4000000 in
set_option maxRecDepth 100000 in
theorem c_X6_found_1 (l : Launch) (g : dkG) (z : Nat) (I0 : dkI) (p0 : Int32) (dp0 : dkN [(2, 2)] p0)  (hO : dkOk I0) : Met l yX6_found wsX6_found (dkR 0) (dkPc g z [.ref (z + 340), .int p0] I0) (dkQi g z (fun r I1 => dkF [(340, 340, 4, 4)] I0 I1 ∧ dkOk I1 ∧ ((dkN [(-1000012, -1000012)] r ∧ dkN [(2, 2)] (I1 340 4) ∧ True)))) 0 0 (dkA z) := by
  refine Met.ofW (cc := cX6_found) (maxL := 2) (ret := (some .int)) (by decide) rfl ?_
  intro p e s m args below meth c s₁ B hml hv
  obtain ⟨ha, hW, hK, hT⟩ := hv
  have hx := B.exec
  have hb := B.bytes
  have hr := B.returns
  have hts := atoms_spec (ws := wsX6_found) B.pre
  have hown : s.vm.findClass RX6 = some m.cls := findClass_of_methodNamed B.named
  have hlocks := B.notSynchronized
  have hS : va_S (dkA z) s.heap s.heap [] := va_S.rf
  have hF : dkF [(340, 340, 4, 4)] I0 I0 := dkF_rf _ _
  have hl := lv_entry ([.ref (z + 340), .int p0]) (n := 2) (Nat.le_of_ble_eq_true rfl)
  have hgo : entryFrame m args 2 = entryFrame m ([.ref (z + 340), .int p0] : List Value).toArray 2 := by rw [ha]
  rw [hgo, lg_entry_eq]
  generalize (lg_sl ([.ref (z + 340), .int p0]) ++ List.replicate (2 - (lg_sl ([.ref (z + 340), .int p0])).length) Slot.unset).toArray = ls at hl ⊢
  have hl : lv_has ls 2 [(0, .ref (z + 340)), (1, .int p0)] := hl
  refine lv_aload_n hx hb dX6_found_0 rfl (lv_at hl 0 rfl) ?_
  refine lv_iload_n hx hb dX6_found_1 rfl (lv_at hl 1 rfl) ?_
  refine dk_put (k := 340) hx hb hts iX6_found_6 tyX6 tyX6_ok nmX6 hown hK hW (dk_at340 hW) hS rfl 4 (by decide) (hts (.fieldLink RX6 51 "DogKingsModel" "status" "I") (List.mem_of_getElem? (i := 1) rfl)) rfl rfl (Nat.le_of_ble_eq_true rfl) rfl dX6_found_2 (fun I1 H1 L1 eI1 hW hS => ?_)
  have eI1 : I1 = dkU I0 340 4 p0 := eI1
  have hO := dkO_set hO eI1 (dkN_sub dp0 rfl)
  have hF := dkF_set hF eI1 rfl
  refine lv_ldc (v := (-1000010)) hx hb hown (hts (.constant RX6 55 (-1000010)) (List.mem_of_getElem? (i := 2) rfl)) dX6_found_5 ?_
  refine lv_iload_n hx hb dX6_found_7 rfl (lv_at hl 1 rfl) ?_
  refine lv_isub hx hb dX6_found_8 ?_
  refine lv_topi (fun v2 ev2 => ?_)
  have dv2 : dkN [(-1000012, -1000012)] v2 := by rw [ev2]; exact dkN_subt (dkN_lit (x := (-1000010)) (-1000010) rfl) dp0 rfl
  exact W.iret (v := v2) hx hb hr (fun t ht hW9 => ⟨⟨v2, I1, rfl, ⟨hF, hO, ⟨dkN_sub dv2 rfl, (show dkN [(2, 2)] (I1 340 4) from dkN_sub (by rw [eI1, dkU_ss]; exact dp0) rfl), trivial⟩⟩, dkW_eq ht hW⟩, hS.F ht⟩) hS.2.2 dX6_found_9
set_option maxHeartbeats 4000000 in
set_option maxRecDepth 100000 in
theorem c_X6_cut_0 (l : Launch) (g : dkG) (z : Nat) (I0 : dkI) (p0 : Int32) (p1 : Int32) (dp0 : dkN [(-1000000, -1000000), (0, 2)] p0)  (hO : dkOk I0) : Met l yX6_cut wsX6_cut (dkR 0) (dkPc g z [.int p0, .int p1] I0) (dkQi g z (fun r I1 => dkF [] I0 I1 ∧ dkOk I1 ∧ ((True ∧ True)))) 0 0 (dkA z) := by
  refine Met.ofW (cc := cX6_cut) (maxL := 2) (ret := (some .int)) (by decide) rfl ?_
  intro p e s m args below meth c s₁ B hml hv
  obtain ⟨ha, hW, hK, hT⟩ := hv
  have hx := B.exec
  have hb := B.bytes
  have hr := B.returns
  have hts := atoms_spec (ws := wsX6_cut) B.pre
  have hown : s.vm.findClass RX6 = some m.cls := findClass_of_methodNamed B.named
  have hlocks := B.notSynchronized
  have hS : va_S (dkA z) s.heap s.heap [] := va_S.rf
  have hF : dkF [] I0 I0 := dkF_rf _ _
  have hl := lv_entry ([.int p0, .int p1]) (n := 2) (Nat.le_of_ble_eq_true rfl)
  have hgo : entryFrame m args 2 = entryFrame m ([.int p0, .int p1] : List Value).toArray 2 := by rw [ha]
  rw [hgo, lg_entry_eq]
  generalize (lg_sl ([.int p0, .int p1]) ++ List.replicate (2 - (lg_sl ([.int p0, .int p1])).length) Slot.unset).toArray = ls at hl ⊢
  have hl : lv_has ls 2 [(0, .int p0), (1, .int p1)] := hl
  refine lv_iload_n hx hb dX6_cut_0 rfl (lv_at hl 0 rfl) ?_
  refine lv_if_ne (tgt := 14) hx hb dX6_cut_1 (by decide) (fun c1 => ?_) (fun c1 => ?_)
  ·
    have d2 : dkN [(-1000000, -1000000), (1, 2)] p0 := dkN_ne1 (0) dp0 (dkN_lit (x := 0) (0) rfl) (dk_ne c1) rfl
    refine lv_iload_n hx hb dX6_cut_14 rfl (lv_at hl 0 rfl) ?_
    refine lv_iconst (v := 1) hx hb dX6_cut_15 (by decide) ?_
    refine lv_icmp_ne (tgt := 29) hx hb dX6_cut_16 (by decide) (fun c3 => ?_) (fun c3 => ?_)
    ·
      have d4 : dkN [(-1000000, -1000000), (2, 2)] p0 := dkN_ne1 (1) d2 (dkN_lit (x := 1) (1) rfl) (dk_ne c3) rfl
      refine lv_iload_n hx hb dX6_cut_29 rfl (lv_at hl 1 rfl) ?_
      exact W.iret (v := p1) hx hb hr (fun t ht hW9 => ⟨⟨p1, I0, rfl, ⟨hF, hO, ⟨trivial, trivial⟩⟩, dkW_eq ht hW⟩, hS.F ht⟩) hS.2.2 dX6_cut_30
    ·
      have d5 : dkN [(1, 1)] p0 := dkN_eq1 d2 (dkN_lit (x := 1) (1) rfl) (congrArg Int32.toInt c3) rfl
      refine lv_iload_n hx hb dX6_cut_19 rfl (lv_at hl 1 rfl) ?_
      refine lv_bipush (v := 16) hx hb dX6_cut_20 (by decide) ?_
      refine lv_ishl hx hb dX6_cut_22 ?_
      refine lv_topi (fun v6 ev6 => ?_)
      refine lv_bipush (v := 16) hx hb dX6_cut_23 (by decide) ?_
      refine lv_ishr hx hb dX6_cut_25 ?_
      refine lv_topi (fun v7 ev7 => ?_)
      refine lv_goto (tgt := 30) hx hb dX6_cut_26 (by decide) ?_
      exact W.iret (v := v7) hx hb hr (fun t ht hW9 => ⟨⟨v7, I0, rfl, ⟨hF, hO, ⟨trivial, trivial⟩⟩, dkW_eq ht hW⟩, hS.F ht⟩) hS.2.2 dX6_cut_30
  ·
    have d8 : dkN [(0, 0)] p0 := dkN_eq1 dp0 (dkN_lit (x := 0) (0) rfl) (congrArg Int32.toInt c1) rfl
    refine lv_iload_n hx hb dX6_cut_4 rfl (lv_at hl 1 rfl) ?_
    refine lv_bipush (v := 24) hx hb dX6_cut_5 (by decide) ?_
    refine lv_ishl hx hb dX6_cut_7 ?_
    refine lv_topi (fun v9 ev9 => ?_)
    refine lv_bipush (v := 24) hx hb dX6_cut_8 (by decide) ?_
    refine lv_ishr hx hb dX6_cut_10 ?_
    refine lv_topi (fun v10 ev10 => ?_)
    refine lv_goto (tgt := 30) hx hb dX6_cut_11 (by decide) ?_
    exact W.iret (v := v10) hx hb hr (fun t ht hW9 => ⟨⟨v10, I0, rfl, ⟨hF, hO, ⟨trivial, trivial⟩⟩, dkW_eq ht hW⟩, hS.F ht⟩) hS.2.2 dX6_cut_30
set_option maxHeartbeats 4000000 in
set_option maxRecDepth 100000 in
theorem c_X6_found_2 (l : Launch) (g : dkG) (z : Nat) (I0 : dkI) (p0 : Int32) (dp0 : dkN [(1, 1)] p0)  (hO : dkOk I0) : Met l yX6_found wsX6_found (dkR 0) (dkPc g z [.ref (z + 340), .int p0] I0) (dkQi g z (fun r I1 => dkF [(340, 340, 4, 4)] I0 I1 ∧ dkOk I1 ∧ ((dkN [(-1000011, -1000011)] r ∧ dkN [(1, 1)] (I1 340 4) ∧ True)))) 0 0 (dkA z) := by
  refine Met.ofW (cc := cX6_found) (maxL := 2) (ret := (some .int)) (by decide) rfl ?_
  intro p e s m args below meth c s₁ B hml hv
  obtain ⟨ha, hW, hK, hT⟩ := hv
  have hx := B.exec
  have hb := B.bytes
  have hr := B.returns
  have hts := atoms_spec (ws := wsX6_found) B.pre
  have hown : s.vm.findClass RX6 = some m.cls := findClass_of_methodNamed B.named
  have hlocks := B.notSynchronized
  have hS : va_S (dkA z) s.heap s.heap [] := va_S.rf
  have hF : dkF [(340, 340, 4, 4)] I0 I0 := dkF_rf _ _
  have hl := lv_entry ([.ref (z + 340), .int p0]) (n := 2) (Nat.le_of_ble_eq_true rfl)
  have hgo : entryFrame m args 2 = entryFrame m ([.ref (z + 340), .int p0] : List Value).toArray 2 := by rw [ha]
  rw [hgo, lg_entry_eq]
  generalize (lg_sl ([.ref (z + 340), .int p0]) ++ List.replicate (2 - (lg_sl ([.ref (z + 340), .int p0])).length) Slot.unset).toArray = ls at hl ⊢
  have hl : lv_has ls 2 [(0, .ref (z + 340)), (1, .int p0)] := hl
  refine lv_aload_n hx hb dX6_found_0 rfl (lv_at hl 0 rfl) ?_
  refine lv_iload_n hx hb dX6_found_1 rfl (lv_at hl 1 rfl) ?_
  refine dk_put (k := 340) hx hb hts iX6_found_6 tyX6 tyX6_ok nmX6 hown hK hW (dk_at340 hW) hS rfl 4 (by decide) (hts (.fieldLink RX6 51 "DogKingsModel" "status" "I") (List.mem_of_getElem? (i := 1) rfl)) rfl rfl (Nat.le_of_ble_eq_true rfl) rfl dX6_found_2 (fun I1 H1 L1 eI1 hW hS => ?_)
  have eI1 : I1 = dkU I0 340 4 p0 := eI1
  have hO := dkO_set hO eI1 (dkN_sub dp0 rfl)
  have hF := dkF_set hF eI1 rfl
  refine lv_ldc (v := (-1000010)) hx hb hown (hts (.constant RX6 55 (-1000010)) (List.mem_of_getElem? (i := 2) rfl)) dX6_found_5 ?_
  refine lv_iload_n hx hb dX6_found_7 rfl (lv_at hl 1 rfl) ?_
  refine lv_isub hx hb dX6_found_8 ?_
  refine lv_topi (fun v2 ev2 => ?_)
  have dv2 : dkN [(-1000011, -1000011)] v2 := by rw [ev2]; exact dkN_subt (dkN_lit (x := (-1000010)) (-1000010) rfl) dp0 rfl
  exact W.iret (v := v2) hx hb hr (fun t ht hW9 => ⟨⟨v2, I1, rfl, ⟨hF, hO, ⟨dkN_sub dv2 rfl, (show dkN [(1, 1)] (I1 340 4) from dkN_sub (by rw [eI1, dkU_ss]; exact dp0) rfl), trivial⟩⟩, dkW_eq ht hW⟩, hS.F ht⟩) hS.2.2 dX6_found_9
set_option maxHeartbeats 4000000 in
set_option maxRecDepth 100000 in
theorem c_X6_set_0 (l : Launch) (g : dkG) (z : Nat) (I0 : dkI) (p0 : Int32) (p1 : Int32) (p2 : Int32)  (hO : dkOk I0) : Met l yX6_set wsX6_set (dkR 2) (dkPc g z [.ref (z + 340), .int p0, .int p1, .int p2] I0) (dkQi g z (fun r I1 => dkF [(340, 340, 4, 4), (343, 343, 0, 319)] I0 I1 ∧ dkOk I1 ∧ ((True ∧ True)))) 0 0 (dkA z) := by
  refine Met.ofW (cc := cX6_set) (maxL := 4) (ret := (some .int)) (by decide) rfl ?_
  intro p e s m args below meth c s₁ B hml hv
  obtain ⟨ha, hW, hK, hT⟩ := hv
  have hx := B.exec
  have hb := B.bytes
  have hr := B.returns
  have hts := atoms_spec (ws := wsX6_set) B.pre
  have hown : s.vm.findClass RX6 = some m.cls := findClass_of_methodNamed B.named
  have hlocks := B.notSynchronized
  have hS : va_S (dkA z) s.heap s.heap [] := va_S.rf
  have hF : dkF [(340, 340, 4, 4), (343, 343, 0, 319)] I0 I0 := dkF_rf _ _
  have hl := lv_entry ([.ref (z + 340), .int p0, .int p1, .int p2]) (n := 4) (Nat.le_of_ble_eq_true rfl)
  have hgo : entryFrame m args 4 = entryFrame m ([.ref (z + 340), .int p0, .int p1, .int p2] : List Value).toArray 4 := by rw [ha]
  rw [hgo, lg_entry_eq]
  generalize (lg_sl ([.ref (z + 340), .int p0, .int p1, .int p2]) ++ List.replicate (4 - (lg_sl ([.ref (z + 340), .int p0, .int p1, .int p2])).length) Slot.unset).toArray = ls at hl ⊢
  have hl : lv_has ls 4 [(0, .ref (z + 340)), (1, .int p0), (2, .int p1), (3, .int p2)] := hl
  refine lv_iload_n hx hb dX6_set_0 rfl (lv_at hl 1 rfl) ?_
  refine dk_Si (As := [.int p0]) (rest := []) ⟨hx, hb, hml, hown, hts⟩ (c_X6_isRow_0 l g z I0 p0 hO) (va_cwS 1 hts gX6_set_X6_isRow rfl rfl rfl (by decide +kernel) ⟨Nat.le_of_ble_eq_true rfl, Nat.le_of_ble_eq_true rfl⟩) hK hT hW hS rfl hl.1 rfl (Nat.le_of_ble_eq_true rfl) dX6_set_1 ⟨Nat.zero_le _, Nat.zero_le _⟩ (fun v1 I1 H1 L1 hp1 hW hS => ?_)
  obtain ⟨hF1, hO, hc1⟩ := hp1
  have hF := dkF_call hF hF1 rfl
  rcases hc1 with ⟨dv1, a1_0, -⟩ | hc1
  ·
    have d2 : dkN [(-2147483648, -1), (8, 2147483647)] p0 := dkN_eq1 (dkN_top p0) a1_0 rfl rfl
    refine lv_if_ne (tgt := 10) hx hb dX6_set_4 (by decide) (fun c3 => ?_) (fun c3 => ?_)
    ·
      exact (dkN_nil (show dkN [] v1 from dkN_ne1 (0) dv1 (dkN_lit (x := 0) (0) rfl) (dk_ne c3) rfl)).elim
    ·
      refine lv_ldc (v := (-1000001)) hx hb hown (hts (.constant RX6 64 (-1000001)) (List.mem_of_getElem? (i := 1) rfl)) dX6_set_7 ?_
      exact W.iret (v := (-1000001)) hx hb hr (fun t ht hW9 => ⟨⟨(-1000001), I1, rfl, ⟨hF, hO, ⟨trivial, trivial⟩⟩, dkW_eq ht hW⟩, hS.F ht⟩) hS.2.2 dX6_set_9
  ·
    obtain ⟨dv1, a1_0, -⟩ := hc1
    have d4 : dkN [(0, 7)] p0 := dkN_eq1 (dkN_top p0) a1_0 rfl rfl
    refine lv_if_ne (tgt := 10) hx hb dX6_set_4 (by decide) (fun c5 => ?_) (fun c5 => ?_)
    ·
      refine lv_aload_n hx hb dX6_set_10 rfl (lv_at hl 0 rfl) ?_
      refine lv_iload_n hx hb dX6_set_11 rfl (lv_at hl 1 rfl) ?_
      refine dk_Vi (As := [.int p0]) (rest := []) ⟨hx, hb, hml, hown, hts⟩ (c_X6_isMissing_0 l g z I1 p0 d4 hO) (cwV 1 hts gX6_set_X6_isMissing rfl rfl rfl (by decide +kernel) ⟨Nat.le_of_ble_eq_true rfl, Nat.le_of_ble_eq_true rfl⟩) (dk_at340 hW) rfl hK hT hW hS rfl hl.1 rfl (Nat.le_of_ble_eq_true rfl) dX6_set_12 ⟨Nat.zero_le _, Nat.zero_le _⟩ (fun v6 I6 H6 L6 hp6 hW hS => ?_)
      obtain ⟨hF6, hO, hc6⟩ := hp6
      have hF := dkF_call hF hF6 rfl
      obtain ⟨dv6, -⟩ := hc6
      refine lv_if_eq (tgt := 24) hx hb dX6_set_15 (by decide) (fun c7 => ?_) (fun c7 => ?_)
      ·
        have d8 : dkN [(0, 0)] v6 := dkN_eq1 dv6 (dkN_lit (x := 0) (0) rfl) (congrArg Int32.toInt c7) rfl
        refine lv_iload_n hx hb dX6_set_24 rfl (lv_at hl 2 rfl) ?_
        refine lv_iconst (v := 0) hx hb dX6_set_25 (by decide) ?_
        refine lv_aload_n hx hb dX6_set_26 rfl (lv_at hl 0 rfl) ?_
        refine dk_get (k := 340) hx hb hts iX6_set_6 hown hK (dk_at340 hW) rfl 1 (by decide) (hts (.fieldLink RX6 13 "DogKingsModel" "many" "[I") (List.mem_of_getElem? (i := 2) rfl)) rfl dX6_set_27 ?_
        refine lv_iload_n hx hb dX6_set_30 rfl (lv_at hl 1 rfl) ?_
        refine dk_ild (k := 342) hx hb hK (dk_at342 hW) (dkN_in (n := 8) d4 rfl) dX6_set_31 ?_
        refine lv_topi (fun v9 ev9 => ?_)
        have dv9 : dkN [(0, 40)] v9 := by rw [ev9]; exact (hO 342 _)
        refine lv_iconst (v := 1) hx hb dX6_set_32 (by decide) ?_
        refine lv_isub hx hb dX6_set_33 ?_
        refine lv_topi (fun v10 ev10 => ?_)
        have dv10 : dkN [(-1, 39)] v10 := by rw [ev10]; exact dkN_subt dv9 (dkN_lit (x := 1) (1) rfl) rfl
        refine dk_Si (As := [.int p1, .int 0, .int v10]) (rest := []) ⟨hx, hb, hml, hown, hts⟩ (c_X6_in_2 l g z I6 p1 0 v10 (dkN_lit (x := 0) (0) rfl) dv10 hO) (va_cwS 3 hts gX6_set_X6_in rfl rfl rfl (by decide +kernel) ⟨Nat.le_of_ble_eq_true rfl, Nat.le_of_ble_eq_true rfl⟩) hK hT hW hS rfl hl.1 rfl (Nat.le_of_ble_eq_true rfl) dX6_set_34 ⟨Nat.zero_le _, Nat.zero_le _⟩ (fun v11 I11 H11 L11 hp11 hW hS => ?_)
        obtain ⟨hF11, hO, hc11⟩ := hp11
        have hF := dkF_call hF hF11 rfl
        rcases hc11 with ⟨dv11, -⟩ | hc11
        ·
          refine lv_if_ne (tgt := 46) hx hb dX6_set_37 (by decide) (fun c12 => ?_) (fun c12 => ?_)
          ·
            exact (dkN_nil (show dkN [] v11 from dkN_ne1 (0) dv11 (dkN_lit (x := 0) (0) rfl) (dk_ne c12) rfl)).elim
          ·
            refine lv_aload_n hx hb dX6_set_40 rfl (lv_at hl 0 rfl) ?_
            refine lv_iconst (v := 2) hx hb dX6_set_41 (by decide) ?_
            refine dk_Vi (As := [.int 2]) (rest := []) ⟨hx, hb, hml, hown, hts⟩ (c_X6_found_1 l g z I11 2 (dkN_lit (x := 2) (2) rfl) hO) (cwV 1 hts gX6_set_X6_found rfl rfl rfl (by decide +kernel) ⟨Nat.le_of_ble_eq_true rfl, Nat.le_of_ble_eq_true rfl⟩) (dk_at340 hW) rfl hK hT hW hS rfl hl.1 rfl (Nat.le_of_ble_eq_true rfl) dX6_set_42 ⟨Nat.zero_le _, Nat.zero_le _⟩ (fun v13 I13 H13 L13 hp13 hW hS => ?_)
            obtain ⟨hF13, hO, hc13⟩ := hp13
            have hF := dkF_call hF hF13 rfl
            obtain ⟨dv13, f13_340_4, -⟩ := hc13
            exact W.iret (v := v13) hx hb hr (fun t ht hW9 => ⟨⟨v13, I13, rfl, ⟨hF, hO, ⟨trivial, trivial⟩⟩, dkW_eq ht hW⟩, hS.F ht⟩) hS.2.2 dX6_set_45
        ·
          obtain ⟨dv11, a11_0, a11_2, -⟩ := hc11
          have d14 : dkN [(0, 39)] p1 := dkN_eq1 (dkN_top p1) a11_0 rfl rfl
          have d15 : dkN [(0, 39)] v10 := dkN_eq1 dv10 a11_2 rfl rfl
          refine lv_if_ne (tgt := 46) hx hb dX6_set_37 (by decide) (fun c16 => ?_) (fun c16 => ?_)
          ·
            refine lv_aload_n hx hb dX6_set_46 rfl (lv_at hl 0 rfl) ?_
            refine dk_get (k := 340) hx hb hts iX6_set_6 hown hK (dk_at340 hW) rfl 2 (by decide) (hts (.fieldLink RX6 16 "DogKingsModel" "items" "[I") (List.mem_of_getElem? (i := 3) rfl)) rfl dX6_set_47 ?_
            refine lv_bipush (v := 40) hx hb dX6_set_50 (by decide) ?_
            refine lv_iload_n hx hb dX6_set_52 rfl (lv_at hl 1 rfl) ?_
            refine lv_imul hx hb dX6_set_53 ?_
            refine lv_topi (fun v17 ev17 => ?_)
            have dv17 : dkN [(0, 280)] v17 := by rw [ev17]; exact dkN_mulL 40 (by decide) (dkN_lit (x := 40) (40) rfl) d4 rfl
            refine lv_iload_n hx hb dX6_set_54 rfl (lv_at hl 2 rfl) ?_
            refine lv_iadd hx hb dX6_set_55 ?_
            refine lv_topi (fun v18 ev18 => ?_)
            have dv18 : dkN [(0, 319)] v18 := by rw [ev18]; exact dkN_add dv17 d14 rfl
            refine lv_aload_n hx hb dX6_set_56 rfl (lv_at hl 0 rfl) ?_
            refine dk_get (k := 340) hx hb hts iX6_set_6 hown hK (dk_at340 hW) rfl 0 (by decide) (hts (.fieldLink RX6 7 "DogKingsModel" "lane" "[I") (List.mem_of_getElem? (i := 4) rfl)) rfl dX6_set_57 ?_
            refine lv_iload_n hx hb dX6_set_60 rfl (lv_at hl 1 rfl) ?_
            refine dk_ild (k := 341) hx hb hK (dk_at341 hW) (dkN_in (n := 8) d4 rfl) dX6_set_61 ?_
            refine lv_topi (fun v19 ev19 => ?_)
            have dv19 : dkN [(-1000000, -1000000), (0, 2)] v19 := by rw [ev19]; exact (hO 341 _)
            refine lv_iload_n hx hb dX6_set_62 rfl (lv_at hl 3 rfl) ?_
            refine dk_Si (As := [.int v19, .int p2]) (rest := [.int v18, .ref (z + 343)]) ⟨hx, hb, hml, hown, hts⟩ (c_X6_cut_0 l g z I11 v19 p2 dv19 hO) (va_cwS 2 hts gX6_set_X6_cut rfl rfl rfl (by decide +kernel) ⟨Nat.le_of_ble_eq_true rfl, Nat.le_of_ble_eq_true rfl⟩) hK hT hW hS rfl hl.1 rfl (Nat.le_of_ble_eq_true rfl) dX6_set_63 ⟨Nat.zero_le _, Nat.zero_le _⟩ (fun v20 I20 H20 L20 hp20 hW hS => ?_)
            obtain ⟨hF20, hO, hc20⟩ := hp20
            have hF := dkF_call hF hF20 rfl
            obtain ⟨_, -⟩ := hc20
            refine dk_ist (k := 343) hx hb hK hW (fun _ => rfl) (by decide) hS (dkN_in (n := 320) dv18 rfl) dX6_set_66 (fun I21 H21 L21 eI21 hW hS => ?_)
            have hO := dkO_set hO eI21 (dkN_sub (dkN_top v20) rfl)
            have hF := dkF_set hF eI21 (dkIn_v dv18 rfl)
            refine lv_aload_n hx hb dX6_set_67 rfl (lv_at hl 0 rfl) ?_
            refine lv_aload_n hx hb dX6_set_68 rfl (lv_at hl 0 rfl) ?_
            refine dk_get (k := 340) hx hb hts iX6_set_6 hown hK (dk_at340 hW) rfl 2 (by decide) (hts (.fieldLink RX6 16 "DogKingsModel" "items" "[I") (List.mem_of_getElem? (i := 3) rfl)) rfl dX6_set_69 ?_
            refine lv_bipush (v := 40) hx hb dX6_set_72 (by decide) ?_
            refine lv_iload_n hx hb dX6_set_74 rfl (lv_at hl 1 rfl) ?_
            refine lv_imul hx hb dX6_set_75 ?_
            refine lv_topi (fun v22 ev22 => ?_)
            have dv22 : dkN [(0, 280)] v22 := by rw [ev22]; exact dkN_mulL 40 (by decide) (dkN_lit (x := 40) (40) rfl) d4 rfl
            refine lv_iload_n hx hb dX6_set_76 rfl (lv_at hl 2 rfl) ?_
            refine lv_iadd hx hb dX6_set_77 ?_
            refine lv_topi (fun v23 ev23 => ?_)
            have dv23 : dkN [(0, 319)] v23 := by rw [ev23]; exact dkN_add dv22 d14 rfl
            refine dk_ild (k := 343) hx hb hK (dk_at343 hW) (dkN_in (n := 320) dv23 rfl) dX6_set_78 ?_
            refine lv_topi (fun v24 ev24 => ?_)
            refine dk_Vi (As := [.int v24]) (rest := []) ⟨hx, hb, hml, hown, hts⟩ (c_X6_well_0 l g z I21 v24 hO) (cwV 1 hts gX6_set_X6_well rfl rfl rfl (by decide +kernel) ⟨Nat.le_of_ble_eq_true rfl, Nat.le_of_ble_eq_true rfl⟩) (dk_at340 hW) rfl hK hT hW hS rfl hl.1 rfl (Nat.le_of_ble_eq_true rfl) dX6_set_79 ⟨Nat.zero_le _, Nat.zero_le _⟩ (fun v25 I25 H25 L25 hp25 hW hS => ?_)
            obtain ⟨hF25, hO, ev25, hc25⟩ := hp25
            have hF := dkF_call hF hF25 rfl
            obtain ⟨_, f25_340_4, -⟩ := hc25
            rw [ev25]
            exact W.iret (v := v24) hx hb hr (fun t ht hW9 => ⟨⟨v24, I25, rfl, ⟨hF, hO, ⟨trivial, trivial⟩⟩, dkW_eq ht hW⟩, hS.F ht⟩) hS.2.2 dX6_set_82
          ·
            exact (dkN_nil (show dkN [] v11 from dkN_eq1 dv11 (dkN_lit (x := 0) (0) rfl) (congrArg Int32.toInt c16) rfl)).elim
      ·
        have d26 : dkN [(1, 1)] v6 := dkN_ne1 (0) dv6 (dkN_lit (x := 0) (0) rfl) (dk_ne c7) rfl
        refine lv_aload_n hx hb dX6_set_18 rfl (lv_at hl 0 rfl) ?_
        refine lv_iconst (v := 1) hx hb dX6_set_19 (by decide) ?_
        refine dk_Vi (As := [.int 1]) (rest := []) ⟨hx, hb, hml, hown, hts⟩ (c_X6_found_2 l g z I6 1 (dkN_lit (x := 1) (1) rfl) hO) (cwV 1 hts gX6_set_X6_found rfl rfl rfl (by decide +kernel) ⟨Nat.le_of_ble_eq_true rfl, Nat.le_of_ble_eq_true rfl⟩) (dk_at340 hW) rfl hK hT hW hS rfl hl.1 rfl (Nat.le_of_ble_eq_true rfl) dX6_set_20 ⟨Nat.zero_le _, Nat.zero_le _⟩ (fun v27 I27 H27 L27 hp27 hW hS => ?_)
        obtain ⟨hF27, hO, hc27⟩ := hp27
        have hF := dkF_call hF hF27 rfl
        obtain ⟨dv27, f27_340_4, -⟩ := hc27
        exact W.iret (v := v27) hx hb hr (fun t ht hW9 => ⟨⟨v27, I27, rfl, ⟨hF, hO, ⟨trivial, trivial⟩⟩, dkW_eq ht hW⟩, hS.F ht⟩) hS.2.2 dX6_set_23
    ·
      exact (dkN_nil (show dkN [] v1 from dkN_eq1 dv1 (dkN_lit (x := 0) (0) rfl) (congrArg Int32.toInt c5) rfl)).elim
set_option maxHeartbeats 4000000 in
set_option maxRecDepth 100000 in
theorem c_X5_hasItems_0 (l : Launch) (g : dkG) (z : Nat) (I0 : dkI) (p0 : Int32) (p1 : Int32) (p2 : Int32) (dp0 : dkN [(0, 7)] p0)  (hO : dkOk I0) : Met l yX5_hasItems wsX5_hasItems (dkR 0) (dkPc g z [.ref (z + 0), .int p0, .int p1, .int p2] I0) (dkQi g z (fun r I1 => dkF [] I0 I1 ∧ dkOk I1 ∧ ((dkN [(0, 0)] r ∧ True) ∨ (dkN [(1, 1)] r ∧ dkN [(0, 40)] p1 ∧ dkN [(0, 2147483647)] p2 ∧ p1.toInt + p2.toInt ≤ 40 ∧ True)))) 0 0 (dkA z) := by
  refine Met.ofW (cc := cX5_hasItems) (maxL := 4) (ret := (some .boolean)) (by decide) rfl ?_
  intro p e s m args below meth c s₁ B hml hv
  obtain ⟨ha, hW, hK, hT⟩ := hv
  have hx := B.exec
  have hb := B.bytes
  have hr := B.returns
  have hts := atoms_spec (ws := wsX5_hasItems) B.pre
  have hown : s.vm.findClass RX5 = some m.cls := findClass_of_methodNamed B.named
  have hlocks := B.notSynchronized
  have hS : va_S (dkA z) s.heap s.heap [] := va_S.rf
  have hF : dkF [] I0 I0 := dkF_rf _ _
  have hl := lv_entry ([.ref (z + 0), .int p0, .int p1, .int p2]) (n := 4) (Nat.le_of_ble_eq_true rfl)
  have hgo : entryFrame m args 4 = entryFrame m ([.ref (z + 0), .int p0, .int p1, .int p2] : List Value).toArray 4 := by rw [ha]
  rw [hgo, lg_entry_eq]
  generalize (lg_sl ([.ref (z + 0), .int p0, .int p1, .int p2]) ++ List.replicate (4 - (lg_sl ([.ref (z + 0), .int p0, .int p1, .int p2])).length) Slot.unset).toArray = ls at hl ⊢
  have hl : lv_has ls 4 [(0, .ref (z + 0)), (1, .int p0), (2, .int p1), (3, .int p2)] := hl
  refine lv_iload_n hx hb dX5_hasItems_0 rfl (lv_at hl 2 rfl) ?_
  refine lv_if_lt (tgt := 24) hx hb dX5_hasItems_1 (by decide) (fun c1 => ?_) (fun c1 => ?_)
  ·
    have d2 : dkN [(-2147483648, -1)] p1 := dkN_le1 1 (dkN_top p1) (dkN_lit (x := 0) (0) rfl) (dkc_lt c1) rfl
    refine lv_iconst (v := 0) hx hb dX5_hasItems_24 (by decide) ?_
    exact W.zret (v := 0) (ty := .boolean) hx hb hr rfl (fun t ht hW9 => ⟨⟨0, I0, rfl, ⟨hF, hO, Or.inl ⟨dkN_sub (dkN_lit (x := 0) (0) rfl) rfl, trivial⟩⟩, dkW_eq ht hW⟩, hS.F ht⟩) hS.2.2 dX5_hasItems_25
  ·
    have d3 : dkN [(0, 2147483647)] p1 := dkN_le2 0 (dkN_lit (x := 0) (0) rfl) (dkN_top p1) (dkc_nlt c1) rfl
    refine lv_iload_n hx hb dX5_hasItems_4 rfl (lv_at hl 3 rfl) ?_
    refine lv_if_lt (tgt := 24) hx hb dX5_hasItems_5 (by decide) (fun c4 => ?_) (fun c4 => ?_)
    ·
      have d5 : dkN [(-2147483648, -1)] p2 := dkN_le1 1 (dkN_top p2) (dkN_lit (x := 0) (0) rfl) (dkc_lt c4) rfl
      refine lv_iconst (v := 0) hx hb dX5_hasItems_24 (by decide) ?_
      exact W.zret (v := 0) (ty := .boolean) hx hb hr rfl (fun t ht hW9 => ⟨⟨0, I0, rfl, ⟨hF, hO, Or.inl ⟨dkN_sub (dkN_lit (x := 0) (0) rfl) rfl, trivial⟩⟩, dkW_eq ht hW⟩, hS.F ht⟩) hS.2.2 dX5_hasItems_25
    ·
      have d6 : dkN [(0, 2147483647)] p2 := dkN_le2 0 (dkN_lit (x := 0) (0) rfl) (dkN_top p2) (dkc_nlt c4) rfl
      refine lv_iload_n hx hb dX5_hasItems_8 rfl (lv_at hl 2 rfl) ?_
      refine lv_aload_n hx hb dX5_hasItems_9 rfl (lv_at hl 0 rfl) ?_
      refine dk_get (k := 0) hx hb hts iX5_hasItems_5 hown hK (dk_at0 hW) rfl 2 (by decide) (hts (.fieldLink RX5 18 "DogKings" "sizes" "[I") (List.mem_of_getElem? (i := 1) rfl)) rfl dX5_hasItems_10 ?_
      refine lv_iload_n hx hb dX5_hasItems_13 rfl (lv_at hl 1 rfl) ?_
      refine dk_ild (k := 11) hx hb hK (dk_at11 hW) (dkN_in (n := 8) dp0 rfl) dX5_hasItems_14 ?_
      refine lv_topi (fun v7 ev7 => ?_)
      have dv7 : dkN [(-1, 40)] v7 := by rw [ev7]; exact (hO 11 _)
      refine lv_iload_n hx hb dX5_hasItems_15 rfl (lv_at hl 3 rfl) ?_
      refine lv_isub hx hb dX5_hasItems_16 ?_
      refine lv_topi (fun v8 ev8 => ?_)
      have dv8 : dkN [(-2147483648, 40)] v8 := by rw [ev8]; exact dkN_subt dv7 d6 rfl
      refine lv_icmp_gt (tgt := 24) hx hb dX5_hasItems_17 (by decide) (fun c9 => ?_) (fun c9 => ?_)
      ·
        refine lv_iconst (v := 0) hx hb dX5_hasItems_24 (by decide) ?_
        exact W.zret (v := 0) (ty := .boolean) hx hb hr rfl (fun t ht hW9 => ⟨⟨0, I0, rfl, ⟨hF, hO, Or.inl ⟨dkN_sub (dkN_lit (x := 0) (0) rfl) rfl, trivial⟩⟩, dkW_eq ht hW⟩, hS.F ht⟩) hS.2.2 dX5_hasItems_25
      ·
        have d10 : dkN [(0, 40)] v8 := dkN_le2 0 d3 dv8 (dkc_nlt c9) rfl
        have d11 : dkN [(0, 40)] p1 := dkN_le1 0 d3 dv8 (dkc_nlt c9) rfl
        refine lv_iconst (v := 1) hx hb dX5_hasItems_20 (by decide) ?_
        refine lv_goto (tgt := 25) hx hb dX5_hasItems_21 (by decide) ?_
        exact W.zret (v := 1) (ty := .boolean) hx hb hr rfl (fun t ht hW9 => ⟨⟨1, I0, rfl, ⟨hF, hO, Or.inr (⟨dkN_sub (dkN_lit (x := 1) (1) rfl) rfl, dkN_sub d11 rfl, dkN_sub d6 rfl, (dk_relsubR ev8 dv7 d6 (dkc_nlt c9) rfl), trivial⟩)⟩, dkW_eq ht hW⟩, hS.F ht⟩) hS.2.2 dX5_hasItems_25
set_option maxHeartbeats 4000000 in
set_option maxRecDepth 100000 in
theorem c_X5_hasItems_1 (l : Launch) (g : dkG) (z : Nat) (I0 : dkI) (p0 : Int32) (p1 : Int32) (p2 : Int32) (dp0 : dkN [(0, 7)] p0) (dp2 : dkN [(0, 2147483647)] p2)  (hO : dkOk I0) : Met l yX5_hasItems wsX5_hasItems (dkR 0) (dkPc g z [.ref (z + 0), .int p0, .int p1, .int p2] I0) (dkQi g z (fun r I1 => dkF [] I0 I1 ∧ dkOk I1 ∧ ((dkN [(0, 0)] r ∧ True) ∨ (dkN [(1, 1)] r ∧ dkN [(0, 40)] p1 ∧ p1.toInt + p2.toInt ≤ 40 ∧ True)))) 0 0 (dkA z) := by
  refine Met.ofW (cc := cX5_hasItems) (maxL := 4) (ret := (some .boolean)) (by decide) rfl ?_
  intro p e s m args below meth c s₁ B hml hv
  obtain ⟨ha, hW, hK, hT⟩ := hv
  have hx := B.exec
  have hb := B.bytes
  have hr := B.returns
  have hts := atoms_spec (ws := wsX5_hasItems) B.pre
  have hown : s.vm.findClass RX5 = some m.cls := findClass_of_methodNamed B.named
  have hlocks := B.notSynchronized
  have hS : va_S (dkA z) s.heap s.heap [] := va_S.rf
  have hF : dkF [] I0 I0 := dkF_rf _ _
  have hl := lv_entry ([.ref (z + 0), .int p0, .int p1, .int p2]) (n := 4) (Nat.le_of_ble_eq_true rfl)
  have hgo : entryFrame m args 4 = entryFrame m ([.ref (z + 0), .int p0, .int p1, .int p2] : List Value).toArray 4 := by rw [ha]
  rw [hgo, lg_entry_eq]
  generalize (lg_sl ([.ref (z + 0), .int p0, .int p1, .int p2]) ++ List.replicate (4 - (lg_sl ([.ref (z + 0), .int p0, .int p1, .int p2])).length) Slot.unset).toArray = ls at hl ⊢
  have hl : lv_has ls 4 [(0, .ref (z + 0)), (1, .int p0), (2, .int p1), (3, .int p2)] := hl
  refine lv_iload_n hx hb dX5_hasItems_0 rfl (lv_at hl 2 rfl) ?_
  refine lv_if_lt (tgt := 24) hx hb dX5_hasItems_1 (by decide) (fun c1 => ?_) (fun c1 => ?_)
  ·
    have d2 : dkN [(-2147483648, -1)] p1 := dkN_le1 1 (dkN_top p1) (dkN_lit (x := 0) (0) rfl) (dkc_lt c1) rfl
    refine lv_iconst (v := 0) hx hb dX5_hasItems_24 (by decide) ?_
    exact W.zret (v := 0) (ty := .boolean) hx hb hr rfl (fun t ht hW9 => ⟨⟨0, I0, rfl, ⟨hF, hO, Or.inl ⟨dkN_sub (dkN_lit (x := 0) (0) rfl) rfl, trivial⟩⟩, dkW_eq ht hW⟩, hS.F ht⟩) hS.2.2 dX5_hasItems_25
  ·
    have d3 : dkN [(0, 2147483647)] p1 := dkN_le2 0 (dkN_lit (x := 0) (0) rfl) (dkN_top p1) (dkc_nlt c1) rfl
    refine lv_iload_n hx hb dX5_hasItems_4 rfl (lv_at hl 3 rfl) ?_
    refine lv_if_lt (tgt := 24) hx hb dX5_hasItems_5 (by decide) (fun c4 => ?_) (fun c4 => ?_)
    ·
      exact (dkN_nil (show dkN [] p2 from dkN_le1 1 dp2 (dkN_lit (x := 0) (0) rfl) (dkc_lt c4) rfl)).elim
    ·
      refine lv_iload_n hx hb dX5_hasItems_8 rfl (lv_at hl 2 rfl) ?_
      refine lv_aload_n hx hb dX5_hasItems_9 rfl (lv_at hl 0 rfl) ?_
      refine dk_get (k := 0) hx hb hts iX5_hasItems_5 hown hK (dk_at0 hW) rfl 2 (by decide) (hts (.fieldLink RX5 18 "DogKings" "sizes" "[I") (List.mem_of_getElem? (i := 1) rfl)) rfl dX5_hasItems_10 ?_
      refine lv_iload_n hx hb dX5_hasItems_13 rfl (lv_at hl 1 rfl) ?_
      refine dk_ild (k := 11) hx hb hK (dk_at11 hW) (dkN_in (n := 8) dp0 rfl) dX5_hasItems_14 ?_
      refine lv_topi (fun v5 ev5 => ?_)
      have dv5 : dkN [(-1, 40)] v5 := by rw [ev5]; exact (hO 11 _)
      refine lv_iload_n hx hb dX5_hasItems_15 rfl (lv_at hl 3 rfl) ?_
      refine lv_isub hx hb dX5_hasItems_16 ?_
      refine lv_topi (fun v6 ev6 => ?_)
      have dv6 : dkN [(-2147483648, 40)] v6 := by rw [ev6]; exact dkN_subt dv5 dp2 rfl
      refine lv_icmp_gt (tgt := 24) hx hb dX5_hasItems_17 (by decide) (fun c7 => ?_) (fun c7 => ?_)
      ·
        refine lv_iconst (v := 0) hx hb dX5_hasItems_24 (by decide) ?_
        exact W.zret (v := 0) (ty := .boolean) hx hb hr rfl (fun t ht hW9 => ⟨⟨0, I0, rfl, ⟨hF, hO, Or.inl ⟨dkN_sub (dkN_lit (x := 0) (0) rfl) rfl, trivial⟩⟩, dkW_eq ht hW⟩, hS.F ht⟩) hS.2.2 dX5_hasItems_25
      ·
        have d8 : dkN [(0, 40)] v6 := dkN_le2 0 d3 dv6 (dkc_nlt c7) rfl
        have d9 : dkN [(0, 40)] p1 := dkN_le1 0 d3 dv6 (dkc_nlt c7) rfl
        refine lv_iconst (v := 1) hx hb dX5_hasItems_20 (by decide) ?_
        refine lv_goto (tgt := 25) hx hb dX5_hasItems_21 (by decide) ?_
        exact W.zret (v := 1) (ty := .boolean) hx hb hr rfl (fun t ht hW9 => ⟨⟨1, I0, rfl, ⟨hF, hO, Or.inr (⟨dkN_sub (dkN_lit (x := 1) (1) rfl) rfl, dkN_sub d9 rfl, (dk_relsubR ev6 dv5 dp2 (dkc_nlt c7) rfl), trivial⟩)⟩, dkW_eq ht hW⟩, hS.F ht⟩) hS.2.2 dX5_hasItems_25
set_option maxHeartbeats 4000000 in
set_option maxRecDepth 100000 in
theorem c_X5_found_3 (l : Launch) (g : dkG) (z : Nat) (I0 : dkI) (p0 : Int32) (dp0 : dkN [(5, 5)] p0)  (hO : dkOk I0) : Met l yX5_found wsX5_found (dkR 0) (dkPc g z [.ref (z + 0), .int p0] I0) (dkQi g z (fun r I1 => dkF [(0, 0, 3, 3)] I0 I1 ∧ dkOk I1 ∧ ((dkN [(-1000015, -1000015)] r ∧ dkN [(5, 5)] (I1 0 3) ∧ True)))) 0 0 (dkA z) := by
  refine Met.ofW (cc := cX5_found) (maxL := 2) (ret := (some .int)) (by decide) rfl ?_
  intro p e s m args below meth c s₁ B hml hv
  obtain ⟨ha, hW, hK, hT⟩ := hv
  have hx := B.exec
  have hb := B.bytes
  have hr := B.returns
  have hts := atoms_spec (ws := wsX5_found) B.pre
  have hown : s.vm.findClass RX5 = some m.cls := findClass_of_methodNamed B.named
  have hlocks := B.notSynchronized
  have hS : va_S (dkA z) s.heap s.heap [] := va_S.rf
  have hF : dkF [(0, 0, 3, 3)] I0 I0 := dkF_rf _ _
  have hl := lv_entry ([.ref (z + 0), .int p0]) (n := 2) (Nat.le_of_ble_eq_true rfl)
  have hgo : entryFrame m args 2 = entryFrame m ([.ref (z + 0), .int p0] : List Value).toArray 2 := by rw [ha]
  rw [hgo, lg_entry_eq]
  generalize (lg_sl ([.ref (z + 0), .int p0]) ++ List.replicate (2 - (lg_sl ([.ref (z + 0), .int p0])).length) Slot.unset).toArray = ls at hl ⊢
  have hl : lv_has ls 2 [(0, .ref (z + 0)), (1, .int p0)] := hl
  refine lv_aload_n hx hb dX5_found_0 rfl (lv_at hl 0 rfl) ?_
  refine lv_iload_n hx hb dX5_found_1 rfl (lv_at hl 1 rfl) ?_
  refine dk_put (k := 0) hx hb hts iX5_found_5 tyX5 tyX5_ok nmX5 hown hK hW (dk_at0 hW) hS rfl 3 (by decide) (hts (.fieldLink RX5 292 "DogKings" "finding" "I") (List.mem_of_getElem? (i := 1) rfl)) rfl rfl (Nat.le_of_ble_eq_true rfl) rfl dX5_found_2 (fun I1 H1 L1 eI1 hW hS => ?_)
  have eI1 : I1 = dkU I0 0 3 p0 := eI1
  have hO := dkO_set hO eI1 (dkN_sub dp0 rfl)
  have hF := dkF_set hF eI1 rfl
  refine lv_ldcw (v := (-1000010)) hx hb hown (hts (.constant RX5 295 (-1000010)) (List.mem_of_getElem? (i := 2) rfl)) dX5_found_5 ?_
  refine lv_iload_n hx hb dX5_found_8 rfl (lv_at hl 1 rfl) ?_
  refine lv_isub hx hb dX5_found_9 ?_
  refine lv_topi (fun v2 ev2 => ?_)
  have dv2 : dkN [(-1000015, -1000015)] v2 := by rw [ev2]; exact dkN_subt (dkN_lit (x := (-1000010)) (-1000010) rfl) dp0 rfl
  exact W.iret (v := v2) hx hb hr (fun t ht hW9 => ⟨⟨v2, I1, rfl, ⟨hF, hO, ⟨dkN_sub dv2 rfl, (show dkN [(5, 5)] (I1 0 3) from dkN_sub (by rw [eI1, dkU_ss]; exact dp0) rfl), trivial⟩⟩, dkW_eq ht hW⟩, hS.F ht⟩) hS.2.2 dX5_found_10
