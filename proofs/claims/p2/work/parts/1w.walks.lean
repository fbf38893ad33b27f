set_option maxHeartbeats 4000000 in
set_option maxRecDepth 100000 in
theorem c_X5_status_0 (l : Launch) (g : dkG) (z : Nat) (I0 : dkI)  (hO : dkOk I0) : Met l yX5_status wsX5_status (dkR 0) (dkPc g z [.ref (z + 0)] I0) (dkQi g z (fun r I1 => dkF [] I0 I1 ∧ dkOk I1 ∧ ((True ∧ True)))) 0 0 (dkA z) := by
  refine Met.ofW (cc := cX5_status) (maxL := 1) (ret := (some .int)) (by decide) rfl ?_
  intro p e s m args below meth c s₁ B hml hv
  obtain ⟨ha, hW, hK, hT⟩ := hv
  have hx := B.exec
  have hb := B.bytes
  have hr := B.returns
  have hts := atoms_spec (ws := wsX5_status) B.pre
  have hown : s.vm.findClass RX5 = some m.cls := findClass_of_methodNamed B.named
  have hlocks := B.notSynchronized
  have hS : va_S (dkA z) s.heap s.heap [] := va_S.rf
  have hF : dkF [] I0 I0 := dkF_rf _ _
  have hl := lv_entry ([.ref (z + 0)]) (n := 1) (Nat.le_of_ble_eq_true rfl)
  have hgo : entryFrame m args 1 = entryFrame m ([.ref (z + 0)] : List Value).toArray 1 := by rw [ha]
  rw [hgo, lg_entry_eq]
  generalize (lg_sl ([.ref (z + 0)]) ++ List.replicate (1 - (lg_sl ([.ref (z + 0)])).length) Slot.unset).toArray = ls at hl ⊢
  have hl : lv_has ls 1 [(0, .ref (z + 0))] := hl
  refine lv_aload_n hx hb dX5_status_0 rfl (lv_at hl 0 rfl) ?_
  refine dk_get (k := 0) hx hb hts iX5_status_5 hown hK (dk_at0 hW) rfl 3 (by decide) (hts (.fieldLink RX5 292 "DogKings" "finding" "I") (List.mem_of_getElem? (i := 1) rfl)) rfl dX5_status_1 ?_
  refine lv_topi (fun v1 ev1 => ?_)
  exact W.iret (v := v1) hx hb hr (fun t ht hW9 => ⟨⟨v1, I0, rfl, ⟨hF, hO, ⟨trivial, trivial⟩⟩, dkW_eq ht hW⟩, hS.F ht⟩) hS.2.2 dX5_status_4
set_option maxHeartbeats 4000000 in
set_option maxRecDepth 100000 in
theorem c_X6_status_0 (l : Launch) (g : dkG) (z : Nat) (I0 : dkI)  (hO : dkOk I0) : Met l yX6_status wsX6_status (dkR 0) (dkPc g z [.ref (z + 340)] I0) (dkQi g z (fun r I1 => dkF [] I0 I1 ∧ dkOk I1 ∧ ((True ∧ True)))) 0 0 (dkA z) := by
  refine Met.ofW (cc := cX6_status) (maxL := 1) (ret := (some .int)) (by decide) rfl ?_
  intro p e s m args below meth c s₁ B hml hv
  obtain ⟨ha, hW, hK, hT⟩ := hv
  have hx := B.exec
  have hb := B.bytes
  have hr := B.returns
  have hts := atoms_spec (ws := wsX6_status) B.pre
  have hown : s.vm.findClass RX6 = some m.cls := findClass_of_methodNamed B.named
  have hlocks := B.notSynchronized
  have hS : va_S (dkA z) s.heap s.heap [] := va_S.rf
  have hF : dkF [] I0 I0 := dkF_rf _ _
  have hl := lv_entry ([.ref (z + 340)]) (n := 1) (Nat.le_of_ble_eq_true rfl)
  have hgo : entryFrame m args 1 = entryFrame m ([.ref (z + 340)] : List Value).toArray 1 := by rw [ha]
  rw [hgo, lg_entry_eq]
  generalize (lg_sl ([.ref (z + 340)]) ++ List.replicate (1 - (lg_sl ([.ref (z + 340)])).length) Slot.unset).toArray = ls at hl ⊢
  have hl : lv_has ls 1 [(0, .ref (z + 340))] := hl
  refine lv_aload_n hx hb dX6_status_0 rfl (lv_at hl 0 rfl) ?_
  refine dk_get (k := 340) hx hb hts iX6_status_6 hown hK (dk_at340 hW) rfl 4 (by decide) (hts (.fieldLink RX6 51 "DogKingsModel" "status" "I") (List.mem_of_getElem? (i := 1) rfl)) rfl dX6_status_1 ?_
  refine lv_topi (fun v1 ev1 => ?_)
  exact W.iret (v := v1) hx hb hr (fun t ht hW9 => ⟨⟨v1, I0, rfl, ⟨hF, hO, ⟨trivial, trivial⟩⟩, dkW_eq ht hW⟩, hS.F ht⟩) hS.2.2 dX6_status_4
set_option maxHeartbeats 4000000 in
set_option maxRecDepth 100000 in
theorem c_X5_isUpTo_8 (l : Launch) (g : dkG) (z : Nat) (I0 : dkI) (p0 : Int32) (p1 : Int32) (dp0 : dkN [(-2147483648, -1), (8, 2147483647)] p0) (dp1 : dkN [(7, 7)] p1)  (hO : dkOk I0) : Met l yX5_isUpTo wsX5_isUpTo (dkR 0) (dkPc g z [.int p0, .int p1] I0) (dkQi g z (fun r I1 => dkF [] I0 I1 ∧ dkOk I1 ∧ ((dkN [(0, 0)] r ∧ True)))) 0 0 (dkA z) := by
  refine Met.ofW (cc := cX5_isUpTo) (maxL := 2) (ret := (some .boolean)) (by decide) rfl ?_
  intro p e s m args below meth c s₁ B hml hv
  obtain ⟨ha, hW, hK, hT⟩ := hv
  have hx := B.exec
  have hb := B.bytes
  have hr := B.returns
  have hts := atoms_spec (ws := wsX5_isUpTo) B.pre
  have hown : s.vm.findClass RX5 = some m.cls := findClass_of_methodNamed B.named
  have hlocks := B.notSynchronized
  have hS : va_S (dkA z) s.heap s.heap [] := va_S.rf
  have hF : dkF [] I0 I0 := dkF_rf _ _
  have hl := lv_entry ([.int p0, .int p1]) (n := 2) (Nat.le_of_ble_eq_true rfl)
  have hgo : entryFrame m args 2 = entryFrame m ([.int p0, .int p1] : List Value).toArray 2 := by rw [ha]
  rw [hgo, lg_entry_eq]
  generalize (lg_sl ([.int p0, .int p1]) ++ List.replicate (2 - (lg_sl ([.int p0, .int p1])).length) Slot.unset).toArray = ls at hl ⊢
  have hl : lv_has ls 2 [(0, .int p0), (1, .int p1)] := hl
  refine lv_iload_n hx hb dX5_isUpTo_0 rfl (lv_at hl 0 rfl) ?_
  refine lv_if_lt (tgt := 13) hx hb dX5_isUpTo_1 (by decide) (fun c1 => ?_) (fun c1 => ?_)
  ·
    have d2 : dkN [(-2147483648, -1)] p0 := dkN_le1 1 dp0 (dkN_lit (x := 0) (0) rfl) (dkc_lt c1) rfl
    refine lv_iconst (v := 0) hx hb dX5_isUpTo_13 (by decide) ?_
    exact W.zret (v := 0) (ty := .boolean) hx hb hr rfl (fun t ht hW9 => ⟨⟨0, I0, rfl, ⟨hF, hO, ⟨dkN_sub (dkN_lit (x := 0) (0) rfl) rfl, trivial⟩⟩, dkW_eq ht hW⟩, hS.F ht⟩) hS.2.2 dX5_isUpTo_14
  ·
    have d3 : dkN [(8, 2147483647)] p0 := dkN_le2 0 (dkN_lit (x := 0) (0) rfl) dp0 (dkc_nlt c1) rfl
    refine lv_iload_n hx hb dX5_isUpTo_4 rfl (lv_at hl 0 rfl) ?_
    refine lv_iload_n hx hb dX5_isUpTo_5 rfl (lv_at hl 1 rfl) ?_
    refine lv_icmp_gt (tgt := 13) hx hb dX5_isUpTo_6 (by decide) (fun c4 => ?_) (fun c4 => ?_)
    ·
      refine lv_iconst (v := 0) hx hb dX5_isUpTo_13 (by decide) ?_
      exact W.zret (v := 0) (ty := .boolean) hx hb hr rfl (fun t ht hW9 => ⟨⟨0, I0, rfl, ⟨hF, hO, ⟨dkN_sub (dkN_lit (x := 0) (0) rfl) rfl, trivial⟩⟩, dkW_eq ht hW⟩, hS.F ht⟩) hS.2.2 dX5_isUpTo_14
    ·
      exact (dkN_nil (show dkN [] p1 from dkN_le2 0 d3 dp1 (dkc_nlt c4) rfl)).elim
set_option maxHeartbeats 4000000 in
set_option maxRecDepth 100000 in
theorem c_X5_isRow_1 (l : Launch) (g : dkG) (z : Nat) (I0 : dkI) (p0 : Int32) (dp0 : dkN [(-2147483648, -1), (8, 2147483647)] p0)  (hO : dkOk I0) : Met l yX5_isRow wsX5_isRow (dkR 1) (dkPc g z [.int p0] I0) (dkQi g z (fun r I1 => dkF [] I0 I1 ∧ dkOk I1 ∧ ((dkN [(0, 0)] r ∧ True)))) 0 0 (dkA z) := by
  refine Met.ofW (cc := cX5_isRow) (maxL := 1) (ret := (some .boolean)) (by decide) rfl ?_
  intro p e s m args below meth c s₁ B hml hv
  obtain ⟨ha, hW, hK, hT⟩ := hv
  have hx := B.exec
  have hb := B.bytes
  have hr := B.returns
  have hts := atoms_spec (ws := wsX5_isRow) B.pre
  have hown : s.vm.findClass RX5 = some m.cls := findClass_of_methodNamed B.named
  have hlocks := B.notSynchronized
  have hS : va_S (dkA z) s.heap s.heap [] := va_S.rf
  have hF : dkF [] I0 I0 := dkF_rf _ _
  have hl := lv_entry ([.int p0]) (n := 1) (Nat.le_of_ble_eq_true rfl)
  have hgo : entryFrame m args 1 = entryFrame m ([.int p0] : List Value).toArray 1 := by rw [ha]
  rw [hgo, lg_entry_eq]
  generalize (lg_sl ([.int p0]) ++ List.replicate (1 - (lg_sl ([.int p0])).length) Slot.unset).toArray = ls at hl ⊢
  have hl : lv_has ls 1 [(0, .int p0)] := hl
  refine lv_iload_n hx hb dX5_isRow_0 rfl (lv_at hl 0 rfl) ?_
  refine lv_bipush (v := 7) hx hb dX5_isRow_1 (by decide) ?_
  refine dk_Si (As := [.int p0, .int 7]) (rest := []) ⟨hx, hb, hml, hown, hts⟩ (c_X5_isUpTo_8 l g z I0 p0 7 dp0 (dkN_lit (x := 7) (7) rfl) hO) (va_cwS 2 hts gX5_isRow_X5_isUpTo rfl rfl rfl (by decide +kernel) ⟨Nat.le_of_ble_eq_true rfl, Nat.le_of_ble_eq_true rfl⟩) hK hT hW hS rfl hl.1 rfl (Nat.le_of_ble_eq_true rfl) dX5_isRow_3 ⟨Nat.zero_le _, Nat.zero_le _⟩ (fun v1 I1 H1 L1 hp1 hW hS => ?_)
  obtain ⟨hF1, hO, hc1⟩ := hp1
  have hF := dkF_call hF hF1 rfl
  obtain ⟨dv1, -⟩ := hc1
  exact W.zret (v := v1) (ty := .boolean) hx hb hr (dkN_zr dv1 rfl) (fun t ht hW9 => ⟨⟨v1, I1, rfl, ⟨hF, hO, ⟨dkN_sub dv1 rfl, trivial⟩⟩, dkW_eq ht hW⟩, hS.F ht⟩) hS.2.2 dX5_isRow_6
set_option maxHeartbeats 4000000 in
set_option maxRecDepth 100000 in
theorem c_X5_row_1 (l : Launch) (g : dkG) (z : Nat) (I0 : dkI) (p0 : Int32) (p1 : Int32) (p2 : Int32) (dp0 : dkN [(-2147483648, -1), (8, 2147483647)] p0)  (hO : dkOk I0) : Met l yX5_row wsX5_row (dkR 2) (dkPc g z [.ref (z + 0), .int p0, .int p1, .int p2] I0) (dkQi g z (fun r I1 => dkF [] I0 I1 ∧ dkOk I1 ∧ ((dkN [(-1000001, -1000001)] r ∧ True)))) 0 0 (dkA z) := by
  refine Met.ofW (cc := cX5_row) (maxL := 5) (ret := (some .int)) (by decide) rfl ?_
  intro p e s m args below meth c s₁ B hml hv
  obtain ⟨ha, hW, hK, hT⟩ := hv
  have hx := B.exec
  have hb := B.bytes
  have hr := B.returns
  have hts := atoms_spec (ws := wsX5_row) B.pre
  have hown : s.vm.findClass RX5 = some m.cls := findClass_of_methodNamed B.named
  have hlocks := B.notSynchronized
  have hS : va_S (dkA z) s.heap s.heap [] := va_S.rf
  have hF : dkF [] I0 I0 := dkF_rf _ _
  have hl := lv_entry ([.ref (z + 0), .int p0, .int p1, .int p2]) (n := 5) (Nat.le_of_ble_eq_true rfl)
  have hgo : entryFrame m args 5 = entryFrame m ([.ref (z + 0), .int p0, .int p1, .int p2] : List Value).toArray 5 := by rw [ha]
  rw [hgo, lg_entry_eq]
  generalize (lg_sl ([.ref (z + 0), .int p0, .int p1, .int p2]) ++ List.replicate (5 - (lg_sl ([.ref (z + 0), .int p0, .int p1, .int p2])).length) Slot.unset).toArray = ls at hl ⊢
  have hl : lv_has ls 5 [(0, .ref (z + 0)), (1, .int p0), (2, .int p1), (3, .int p2)] := hl
  refine lv_iload_n hx hb dX5_row_0 rfl (lv_at hl 1 rfl) ?_
  refine dk_Si (As := [.int p0]) (rest := []) ⟨hx, hb, hml, hown, hts⟩ (c_X5_isRow_1 l g z I0 p0 dp0 hO) (va_cwS 1 hts gX5_row_X5_isRow rfl rfl rfl (by decide +kernel) ⟨Nat.le_of_ble_eq_true rfl, Nat.le_of_ble_eq_true rfl⟩) hK hT hW hS rfl hl.1 rfl (Nat.le_of_ble_eq_true rfl) dX5_row_1 ⟨Nat.zero_le _, Nat.zero_le _⟩ (fun v1 I1 H1 L1 hp1 hW hS => ?_)
  obtain ⟨hF1, hO, hc1⟩ := hp1
  have hF := dkF_call hF hF1 rfl
  obtain ⟨dv1, -⟩ := hc1
  refine lv_if_eq (tgt := 21) hx hb dX5_row_4 (by decide) (fun c2 => ?_) (fun c2 => ?_)
  ·
    refine lv_ldc (v := (-1000001)) hx hb hown (hts (.constant RX5 70 (-1000001)) (List.mem_of_getElem? (i := 1) rfl)) dX5_row_21 ?_
    exact W.iret (v := (-1000001)) hx hb hr (fun t ht hW9 => ⟨⟨(-1000001), I1, rfl, ⟨hF, hO, ⟨dkN_sub (dkN_lit (x := (-1000001)) (-1000001) rfl) rfl, trivial⟩⟩, dkW_eq ht hW⟩, hS.F ht⟩) hS.2.2 dX5_row_23
  ·
    exact (dkN_nil (show dkN [] v1 from dkN_ne1 (0) dv1 (dkN_lit (x := 0) (0) rfl) (dk_ne c2) rfl)).elim
set_option maxHeartbeats 4000000 in
set_option maxRecDepth 100000 in
theorem c_X6_in_22 (l : Launch) (g : dkG) (z : Nat) (I0 : dkI) (p0 : Int32) (p1 : Int32) (p2 : Int32) (dp0 : dkN [(-2147483648, -1), (8, 2147483647)] p0) (dp1 : dkN [(0, 0)] p1) (dp2 : dkN [(7, 7)] p2)  (hO : dkOk I0) : Met l yX6_in wsX6_in (dkR 0) (dkPc g z [.int p0, .int p1, .int p2] I0) (dkQi g z (fun r I1 => dkF [] I0 I1 ∧ dkOk I1 ∧ ((dkN [(0, 0)] r ∧ True)))) 0 0 (dkA z) := by
  refine Met.ofW (cc := cX6_in) (maxL := 3) (ret := (some .boolean)) (by decide) rfl ?_
  intro p e s m args below meth c s₁ B hml hv
  obtain ⟨ha, hW, hK, hT⟩ := hv
  have hx := B.exec
  have hb := B.bytes
  have hr := B.returns
  have hts := atoms_spec (ws := wsX6_in) B.pre
  have hown : s.vm.findClass RX6 = some m.cls := findClass_of_methodNamed B.named
  have hlocks := B.notSynchronized
  have hS : va_S (dkA z) s.heap s.heap [] := va_S.rf
  have hF : dkF [] I0 I0 := dkF_rf _ _
  have hl := lv_entry ([.int p0, .int p1, .int p2]) (n := 3) (Nat.le_of_ble_eq_true rfl)
  have hgo : entryFrame m args 3 = entryFrame m ([.int p0, .int p1, .int p2] : List Value).toArray 3 := by rw [ha]
  rw [hgo, lg_entry_eq]
  generalize (lg_sl ([.int p0, .int p1, .int p2]) ++ List.replicate (3 - (lg_sl ([.int p0, .int p1, .int p2])).length) Slot.unset).toArray = ls at hl ⊢
  have hl : lv_has ls 3 [(0, .int p0), (1, .int p1), (2, .int p2)] := hl
  refine lv_iload_n hx hb dX6_in_0 rfl (lv_at hl 0 rfl) ?_
  refine lv_iload_n hx hb dX6_in_1 rfl (lv_at hl 1 rfl) ?_
  refine lv_icmp_lt (tgt := 14) hx hb dX6_in_2 (by decide) (fun c1 => ?_) (fun c1 => ?_)
  ·
    have d2 : dkN [(-2147483648, -1)] p0 := dkN_le1 1 dp0 dp1 (dkc_lt c1) rfl
    refine lv_iconst (v := 0) hx hb dX6_in_14 (by decide) ?_
    exact W.zret (v := 0) (ty := .boolean) hx hb hr rfl (fun t ht hW9 => ⟨⟨0, I0, rfl, ⟨hF, hO, ⟨dkN_sub (dkN_lit (x := 0) (0) rfl) rfl, trivial⟩⟩, dkW_eq ht hW⟩, hS.F ht⟩) hS.2.2 dX6_in_15
  ·
    have d3 : dkN [(8, 2147483647)] p0 := dkN_le2 0 dp1 dp0 (dkc_nlt c1) rfl
    refine lv_iload_n hx hb dX6_in_5 rfl (lv_at hl 0 rfl) ?_
    refine lv_iload_n hx hb dX6_in_6 rfl (lv_at hl 2 rfl) ?_
    refine lv_icmp_gt (tgt := 14) hx hb dX6_in_7 (by decide) (fun c4 => ?_) (fun c4 => ?_)
    ·
      refine lv_iconst (v := 0) hx hb dX6_in_14 (by decide) ?_
      exact W.zret (v := 0) (ty := .boolean) hx hb hr rfl (fun t ht hW9 => ⟨⟨0, I0, rfl, ⟨hF, hO, ⟨dkN_sub (dkN_lit (x := 0) (0) rfl) rfl, trivial⟩⟩, dkW_eq ht hW⟩, hS.F ht⟩) hS.2.2 dX6_in_15
    ·
      exact (dkN_nil (show dkN [] p2 from dkN_le2 0 d3 dp2 (dkc_nlt c4) rfl)).elim
set_option maxHeartbeats 4000000 in
set_option maxRecDepth 100000 in
theorem c_X6_isRow_1 (l : Launch) (g : dkG) (z : Nat) (I0 : dkI) (p0 : Int32) (dp0 : dkN [(-2147483648, -1), (8, 2147483647)] p0)  (hO : dkOk I0) : Met l yX6_isRow wsX6_isRow (dkR 1) (dkPc g z [.int p0] I0) (dkQi g z (fun r I1 => dkF [] I0 I1 ∧ dkOk I1 ∧ ((dkN [(0, 0)] r ∧ True)))) 0 0 (dkA z) := by
  refine Met.ofW (cc := cX6_isRow) (maxL := 1) (ret := (some .boolean)) (by decide) rfl ?_
  intro p e s m args below meth c s₁ B hml hv
  obtain ⟨ha, hW, hK, hT⟩ := hv
  have hx := B.exec
  have hb := B.bytes
  have hr := B.returns
  have hts := atoms_spec (ws := wsX6_isRow) B.pre
  have hown : s.vm.findClass RX6 = some m.cls := findClass_of_methodNamed B.named
  have hlocks := B.notSynchronized
  have hS : va_S (dkA z) s.heap s.heap [] := va_S.rf
  have hF : dkF [] I0 I0 := dkF_rf _ _
  have hl := lv_entry ([.int p0]) (n := 1) (Nat.le_of_ble_eq_true rfl)
  have hgo : entryFrame m args 1 = entryFrame m ([.int p0] : List Value).toArray 1 := by rw [ha]
  rw [hgo, lg_entry_eq]
  generalize (lg_sl ([.int p0]) ++ List.replicate (1 - (lg_sl ([.int p0])).length) Slot.unset).toArray = ls at hl ⊢
  have hl : lv_has ls 1 [(0, .int p0)] := hl
  refine lv_iload_n hx hb dX6_isRow_0 rfl (lv_at hl 0 rfl) ?_
  refine lv_iconst (v := 0) hx hb dX6_isRow_1 (by decide) ?_
  refine lv_bipush (v := 7) hx hb dX6_isRow_2 (by decide) ?_
  refine dk_Si (As := [.int p0, .int 0, .int 7]) (rest := []) ⟨hx, hb, hml, hown, hts⟩ (c_X6_in_22 l g z I0 p0 0 7 dp0 (dkN_lit (x := 0) (0) rfl) (dkN_lit (x := 7) (7) rfl) hO) (va_cwS 3 hts gX6_isRow_X6_in rfl rfl rfl (by decide +kernel) ⟨Nat.le_of_ble_eq_true rfl, Nat.le_of_ble_eq_true rfl⟩) hK hT hW hS rfl hl.1 rfl (Nat.le_of_ble_eq_true rfl) dX6_isRow_4 ⟨Nat.zero_le _, Nat.zero_le _⟩ (fun v1 I1 H1 L1 hp1 hW hS => ?_)
  obtain ⟨hF1, hO, hc1⟩ := hp1
  have hF := dkF_call hF hF1 rfl
  obtain ⟨dv1, -⟩ := hc1
  exact W.zret (v := v1) (ty := .boolean) hx hb hr (dkN_zr dv1 rfl) (fun t ht hW9 => ⟨⟨v1, I1, rfl, ⟨hF, hO, ⟨dkN_sub dv1 rfl, trivial⟩⟩, dkW_eq ht hW⟩, hS.F ht⟩) hS.2.2 dX6_isRow_7
set_option maxHeartbeats 4000000 in
set_option maxRecDepth 100000 in
theorem c_X6_row_1 (l : Launch) (g : dkG) (z : Nat) (I0 : dkI) (p0 : Int32) (p1 : Int32) (p2 : Int32) (dp0 : dkN [(-2147483648, -1), (8, 2147483647)] p0)  (hO : dkOk I0) : Met l yX6_row wsX6_row (dkR 2) (dkPc g z [.ref (z + 340), .int p0, .int p1, .int p2] I0) (dkQi g z (fun r I1 => dkF [] I0 I1 ∧ dkOk I1 ∧ ((dkN [(-1000001, -1000001)] r ∧ True)))) 0 0 (dkA z) := by
  refine Met.ofW (cc := cX6_row) (maxL := 5) (ret := (some .int)) (by decide) rfl ?_
  intro p e s m args below meth c s₁ B hml hv
  obtain ⟨ha, hW, hK, hT⟩ := hv
  have hx := B.exec
  have hb := B.bytes
  have hr := B.returns
  have hts := atoms_spec (ws := wsX6_row) B.pre
  have hown : s.vm.findClass RX6 = some m.cls := findClass_of_methodNamed B.named
  have hlocks := B.notSynchronized
  have hS : va_S (dkA z) s.heap s.heap [] := va_S.rf
  have hF : dkF [] I0 I0 := dkF_rf _ _
  have hl := lv_entry ([.ref (z + 340), .int p0, .int p1, .int p2]) (n := 5) (Nat.le_of_ble_eq_true rfl)
  have hgo : entryFrame m args 5 = entryFrame m ([.ref (z + 340), .int p0, .int p1, .int p2] : List Value).toArray 5 := by rw [ha]
  rw [hgo, lg_entry_eq]
  generalize (lg_sl ([.ref (z + 340), .int p0, .int p1, .int p2]) ++ List.replicate (5 - (lg_sl ([.ref (z + 340), .int p0, .int p1, .int p2])).length) Slot.unset).toArray = ls at hl ⊢
  have hl : lv_has ls 5 [(0, .ref (z + 340)), (1, .int p0), (2, .int p1), (3, .int p2)] := hl
  refine lv_iload_n hx hb dX6_row_0 rfl (lv_at hl 1 rfl) ?_
  refine dk_Si (As := [.int p0]) (rest := []) ⟨hx, hb, hml, hown, hts⟩ (c_X6_isRow_1 l g z I0 p0 dp0 hO) (va_cwS 1 hts gX6_row_X6_isRow rfl rfl rfl (by decide +kernel) ⟨Nat.le_of_ble_eq_true rfl, Nat.le_of_ble_eq_true rfl⟩) hK hT hW hS rfl hl.1 rfl (Nat.le_of_ble_eq_true rfl) dX6_row_1 ⟨Nat.zero_le _, Nat.zero_le _⟩ (fun v1 I1 H1 L1 hp1 hW hS => ?_)
  obtain ⟨hF1, hO, hc1⟩ := hp1
  have hF := dkF_call hF hF1 rfl
  obtain ⟨dv1, -⟩ := hc1
  refine lv_if_eq (tgt := 22) hx hb dX6_row_4 (by decide) (fun c2 => ?_) (fun c2 => ?_)
  ·
    refine lv_ldc (v := (-1000001)) hx hb hown (hts (.constant RX6 64 (-1000001)) (List.mem_of_getElem? (i := 1) rfl)) dX6_row_22 ?_
    exact W.iret (v := (-1000001)) hx hb hr (fun t ht hW9 => ⟨⟨(-1000001), I1, rfl, ⟨hF, hO, ⟨dkN_sub (dkN_lit (x := (-1000001)) (-1000001) rfl) rfl, trivial⟩⟩, dkW_eq ht hW⟩, hS.F ht⟩) hS.2.2 dX6_row_24
  ·
    exact (dkN_nil (show dkN [] v1 from dkN_ne1 (0) dv1 (dkN_lit (x := 0) (0) rfl) (dk_ne c2) rfl)).elim
set_option maxHeartbeats 4000000 in
set_option maxRecDepth 100000 in
theorem c_X5_isUpTo_9 (l : Launch) (g : dkG) (z : Nat) (I0 : dkI) (p0 : Int32) (p1 : Int32) (dp0 : dkN [(0, 7)] p0) (dp1 : dkN [(7, 7)] p1)  (hO : dkOk I0) : Met l yX5_isUpTo wsX5_isUpTo (dkR 0) (dkPc g z [.int p0, .int p1] I0) (dkQi g z (fun r I1 => dkF [] I0 I1 ∧ dkOk I1 ∧ ((dkN [(1, 1)] r ∧ True)))) 0 0 (dkA z) := by
  refine Met.ofW (cc := cX5_isUpTo) (maxL := 2) (ret := (some .boolean)) (by decide) rfl ?_
  intro p e s m args below meth c s₁ B hml hv
  obtain ⟨ha, hW, hK, hT⟩ := hv
  have hx := B.exec
  have hb := B.bytes
  have hr := B.returns
  have hts := atoms_spec (ws := wsX5_isUpTo) B.pre
  have hown : s.vm.findClass RX5 = some m.cls := findClass_of_methodNamed B.named
  have hlocks := B.notSynchronized
  have hS : va_S (dkA z) s.heap s.heap [] := va_S.rf
  have hF : dkF [] I0 I0 := dkF_rf _ _
  have hl := lv_entry ([.int p0, .int p1]) (n := 2) (Nat.le_of_ble_eq_true rfl)
  have hgo : entryFrame m args 2 = entryFrame m ([.int p0, .int p1] : List Value).toArray 2 := by rw [ha]
  rw [hgo, lg_entry_eq]
  generalize (lg_sl ([.int p0, .int p1]) ++ List.replicate (2 - (lg_sl ([.int p0, .int p1])).length) Slot.unset).toArray = ls at hl ⊢
  have hl : lv_has ls 2 [(0, .int p0), (1, .int p1)] := hl
  refine lv_iload_n hx hb dX5_isUpTo_0 rfl (lv_at hl 0 rfl) ?_
  refine lv_if_lt (tgt := 13) hx hb dX5_isUpTo_1 (by decide) (fun c1 => ?_) (fun c1 => ?_)
  ·
    exact (dkN_nil (show dkN [] p0 from dkN_le1 1 dp0 (dkN_lit (x := 0) (0) rfl) (dkc_lt c1) rfl)).elim
  ·
    refine lv_iload_n hx hb dX5_isUpTo_4 rfl (lv_at hl 0 rfl) ?_
    refine lv_iload_n hx hb dX5_isUpTo_5 rfl (lv_at hl 1 rfl) ?_
    refine lv_icmp_gt (tgt := 13) hx hb dX5_isUpTo_6 (by decide) (fun c2 => ?_) (fun c2 => ?_)
    ·
      exact (dkN_nil (show dkN [] p1 from dkN_le1 1 dp1 dp0 (dkc_lt c2) rfl)).elim
    ·
      refine lv_iconst (v := 1) hx hb dX5_isUpTo_9 (by decide) ?_
      refine lv_goto (tgt := 14) hx hb dX5_isUpTo_10 (by decide) ?_
      exact W.zret (v := 1) (ty := .boolean) hx hb hr rfl (fun t ht hW9 => ⟨⟨1, I0, rfl, ⟨hF, hO, ⟨dkN_sub (dkN_lit (x := 1) (1) rfl) rfl, trivial⟩⟩, dkW_eq ht hW⟩, hS.F ht⟩) hS.2.2 dX5_isUpTo_14
set_option maxHeartbeats 4000000 in
set_option maxRecDepth 100000 in
theorem c_X5_isRow_2 (l : Launch) (g : dkG) (z : Nat) (I0 : dkI) (p0 : Int32) (dp0 : dkN [(0, 7)] p0)  (hO : dkOk I0) : Met l yX5_isRow wsX5_isRow (dkR 1) (dkPc g z [.int p0] I0) (dkQi g z (fun r I1 => dkF [] I0 I1 ∧ dkOk I1 ∧ ((dkN [(1, 1)] r ∧ True)))) 0 0 (dkA z) := by
  refine Met.ofW (cc := cX5_isRow) (maxL := 1) (ret := (some .boolean)) (by decide) rfl ?_
  intro p e s m args below meth c s₁ B hml hv
  obtain ⟨ha, hW, hK, hT⟩ := hv
  have hx := B.exec
  have hb := B.bytes
  have hr := B.returns
  have hts := atoms_spec (ws := wsX5_isRow) B.pre
  have hown : s.vm.findClass RX5 = some m.cls := findClass_of_methodNamed B.named
  have hlocks := B.notSynchronized
  have hS : va_S (dkA z) s.heap s.heap [] := va_S.rf
  have hF : dkF [] I0 I0 := dkF_rf _ _
  have hl := lv_entry ([.int p0]) (n := 1) (Nat.le_of_ble_eq_true rfl)
  have hgo : entryFrame m args 1 = entryFrame m ([.int p0] : List Value).toArray 1 := by rw [ha]
  rw [hgo, lg_entry_eq]
  generalize (lg_sl ([.int p0]) ++ List.replicate (1 - (lg_sl ([.int p0])).length) Slot.unset).toArray = ls at hl ⊢
  have hl : lv_has ls 1 [(0, .int p0)] := hl
  refine lv_iload_n hx hb dX5_isRow_0 rfl (lv_at hl 0 rfl) ?_
  refine lv_bipush (v := 7) hx hb dX5_isRow_1 (by decide) ?_
  refine dk_Si (As := [.int p0, .int 7]) (rest := []) ⟨hx, hb, hml, hown, hts⟩ (c_X5_isUpTo_9 l g z I0 p0 7 dp0 (dkN_lit (x := 7) (7) rfl) hO) (va_cwS 2 hts gX5_isRow_X5_isUpTo rfl rfl rfl (by decide +kernel) ⟨Nat.le_of_ble_eq_true rfl, Nat.le_of_ble_eq_true rfl⟩) hK hT hW hS rfl hl.1 rfl (Nat.le_of_ble_eq_true rfl) dX5_isRow_3 ⟨Nat.zero_le _, Nat.zero_le _⟩ (fun v1 I1 H1 L1 hp1 hW hS => ?_)
  obtain ⟨hF1, hO, hc1⟩ := hp1
  have hF := dkF_call hF hF1 rfl
  obtain ⟨dv1, -⟩ := hc1
  exact W.zret (v := v1) (ty := .boolean) hx hb hr (dkN_zr dv1 rfl) (fun t ht hW9 => ⟨⟨v1, I1, rfl, ⟨hF, hO, ⟨dkN_sub dv1 rfl, trivial⟩⟩, dkW_eq ht hW⟩, hS.F ht⟩) hS.2.2 dX5_isRow_6
set_option maxHeartbeats 4000000 in
set_option maxRecDepth 100000 in
theorem c_X5_isUpTo_10 (l : Launch) (g : dkG) (z : Nat) (I0 : dkI) (p0 : Int32) (p1 : Int32) (dp0 : dkN [(-2147483648, -1), (3, 2147483647)] p0) (dp1 : dkN [(2, 2)] p1)  (hO : dkOk I0) : Met l yX5_isUpTo wsX5_isUpTo (dkR 0) (dkPc g z [.int p0, .int p1] I0) (dkQi g z (fun r I1 => dkF [] I0 I1 ∧ dkOk I1 ∧ ((dkN [(0, 0)] r ∧ True)))) 0 0 (dkA z) := by
  refine Met.ofW (cc := cX5_isUpTo) (maxL := 2) (ret := (some .boolean)) (by decide) rfl ?_
  intro p e s m args below meth c s₁ B hml hv
  obtain ⟨ha, hW, hK, hT⟩ := hv
  have hx := B.exec
  have hb := B.bytes
  have hr := B.returns
  have hts := atoms_spec (ws := wsX5_isUpTo) B.pre
  have hown : s.vm.findClass RX5 = some m.cls := findClass_of_methodNamed B.named
  have hlocks := B.notSynchronized
  have hS : va_S (dkA z) s.heap s.heap [] := va_S.rf
  have hF : dkF [] I0 I0 := dkF_rf _ _
  have hl := lv_entry ([.int p0, .int p1]) (n := 2) (Nat.le_of_ble_eq_true rfl)
  have hgo : entryFrame m args 2 = entryFrame m ([.int p0, .int p1] : List Value).toArray 2 := by rw [ha]
  rw [hgo, lg_entry_eq]
  generalize (lg_sl ([.int p0, .int p1]) ++ List.replicate (2 - (lg_sl ([.int p0, .int p1])).length) Slot.unset).toArray = ls at hl ⊢
  have hl : lv_has ls 2 [(0, .int p0), (1, .int p1)] := hl
  refine lv_iload_n hx hb dX5_isUpTo_0 rfl (lv_at hl 0 rfl) ?_
  refine lv_if_lt (tgt := 13) hx hb dX5_isUpTo_1 (by decide) (fun c1 => ?_) (fun c1 => ?_)
  ·
    have d2 : dkN [(-2147483648, -1)] p0 := dkN_le1 1 dp0 (dkN_lit (x := 0) (0) rfl) (dkc_lt c1) rfl
    refine lv_iconst (v := 0) hx hb dX5_isUpTo_13 (by decide) ?_
    exact W.zret (v := 0) (ty := .boolean) hx hb hr rfl (fun t ht hW9 => ⟨⟨0, I0, rfl, ⟨hF, hO, ⟨dkN_sub (dkN_lit (x := 0) (0) rfl) rfl, trivial⟩⟩, dkW_eq ht hW⟩, hS.F ht⟩) hS.2.2 dX5_isUpTo_14
  ·
    have d3 : dkN [(3, 2147483647)] p0 := dkN_le2 0 (dkN_lit (x := 0) (0) rfl) dp0 (dkc_nlt c1) rfl
    refine lv_iload_n hx hb dX5_isUpTo_4 rfl (lv_at hl 0 rfl) ?_
    refine lv_iload_n hx hb dX5_isUpTo_5 rfl (lv_at hl 1 rfl) ?_
    refine lv_icmp_gt (tgt := 13) hx hb dX5_isUpTo_6 (by decide) (fun c4 => ?_) (fun c4 => ?_)
    ·
      refine lv_iconst (v := 0) hx hb dX5_isUpTo_13 (by decide) ?_
      exact W.zret (v := 0) (ty := .boolean) hx hb hr rfl (fun t ht hW9 => ⟨⟨0, I0, rfl, ⟨hF, hO, ⟨dkN_sub (dkN_lit (x := 0) (0) rfl) rfl, trivial⟩⟩, dkW_eq ht hW⟩, hS.F ht⟩) hS.2.2 dX5_isUpTo_14
    ·
      exact (dkN_nil (show dkN [] p1 from dkN_le2 0 d3 dp1 (dkc_nlt c4) rfl)).elim
set_option maxHeartbeats 4000000 in
set_option maxRecDepth 100000 in
theorem c_X5_row_2 (l : Launch) (g : dkG) (z : Nat) (I0 : dkI) (p0 : Int32) (p1 : Int32) (p2 : Int32) (dp0 : dkN [(0, 7)] p0) (dp1 : dkN [(-2147483648, -1), (3, 2147483647)] p1)  (hO : dkOk I0) : Met l yX5_row wsX5_row (dkR 2) (dkPc g z [.ref (z + 0), .int p0, .int p1, .int p2] I0) (dkQi g z (fun r I1 => dkF [] I0 I1 ∧ dkOk I1 ∧ ((dkN [(-1000001, -1000001)] r ∧ True)))) 0 0 (dkA z) := by
  refine Met.ofW (cc := cX5_row) (maxL := 5) (ret := (some .int)) (by decide) rfl ?_
  intro p e s m args below meth c s₁ B hml hv
  obtain ⟨ha, hW, hK, hT⟩ := hv
  have hx := B.exec
  have hb := B.bytes
  have hr := B.returns
  have hts := atoms_spec (ws := wsX5_row) B.pre
  have hown : s.vm.findClass RX5 = some m.cls := findClass_of_methodNamed B.named
  have hlocks := B.notSynchronized
  have hS : va_S (dkA z) s.heap s.heap [] := va_S.rf
  have hF : dkF [] I0 I0 := dkF_rf _ _
  have hl := lv_entry ([.ref (z + 0), .int p0, .int p1, .int p2]) (n := 5) (Nat.le_of_ble_eq_true rfl)
  have hgo : entryFrame m args 5 = entryFrame m ([.ref (z + 0), .int p0, .int p1, .int p2] : List Value).toArray 5 := by rw [ha]
  rw [hgo, lg_entry_eq]
  generalize (lg_sl ([.ref (z + 0), .int p0, .int p1, .int p2]) ++ List.replicate (5 - (lg_sl ([.ref (z + 0), .int p0, .int p1, .int p2])).length) Slot.unset).toArray = ls at hl ⊢
  have hl : lv_has ls 5 [(0, .ref (z + 0)), (1, .int p0), (2, .int p1), (3, .int p2)] := hl
  refine lv_iload_n hx hb dX5_row_0 rfl (lv_at hl 1 rfl) ?_
  refine dk_Si (As := [.int p0]) (rest := []) ⟨hx, hb, hml, hown, hts⟩ (c_X5_isRow_2 l g z I0 p0 dp0 hO) (va_cwS 1 hts gX5_row_X5_isRow rfl rfl rfl (by decide +kernel) ⟨Nat.le_of_ble_eq_true rfl, Nat.le_of_ble_eq_true rfl⟩) hK hT hW hS rfl hl.1 rfl (Nat.le_of_ble_eq_true rfl) dX5_row_1 ⟨Nat.zero_le _, Nat.zero_le _⟩ (fun v1 I1 H1 L1 hp1 hW hS => ?_)
  obtain ⟨hF1, hO, hc1⟩ := hp1
  have hF := dkF_call hF hF1 rfl
  obtain ⟨dv1, -⟩ := hc1
  refine lv_if_eq (tgt := 21) hx hb dX5_row_4 (by decide) (fun c2 => ?_) (fun c2 => ?_)
  ·
    exact (dkN_nil (show dkN [] v1 from dkN_eq1 dv1 (dkN_lit (x := 0) (0) rfl) (congrArg Int32.toInt c2) rfl)).elim
  ·
    refine lv_iload_n hx hb dX5_row_7 rfl (lv_at hl 2 rfl) ?_
    refine lv_iconst (v := 2) hx hb dX5_row_8 (by decide) ?_
    refine dk_Si (As := [.int p1, .int 2]) (rest := []) ⟨hx, hb, hml, hown, hts⟩ (c_X5_isUpTo_10 l g z I1 p1 2 dp1 (dkN_lit (x := 2) (2) rfl) hO) (va_cwS 2 hts gX5_row_X5_isUpTo rfl rfl rfl (by decide +kernel) ⟨Nat.le_of_ble_eq_true rfl, Nat.le_of_ble_eq_true rfl⟩) hK hT hW hS rfl hl.1 rfl (Nat.le_of_ble_eq_true rfl) dX5_row_9 ⟨Nat.zero_le _, Nat.zero_le _⟩ (fun v3 I3 H3 L3 hp3 hW hS => ?_)
    obtain ⟨hF3, hO, hc3⟩ := hp3
    have hF := dkF_call hF hF3 rfl
    obtain ⟨dv3, -⟩ := hc3
    refine lv_if_eq (tgt := 21) hx hb dX5_row_12 (by decide) (fun c4 => ?_) (fun c4 => ?_)
    ·
      refine lv_ldc (v := (-1000001)) hx hb hown (hts (.constant RX5 70 (-1000001)) (List.mem_of_getElem? (i := 1) rfl)) dX5_row_21 ?_
      exact W.iret (v := (-1000001)) hx hb hr (fun t ht hW9 => ⟨⟨(-1000001), I3, rfl, ⟨hF, hO, ⟨dkN_sub (dkN_lit (x := (-1000001)) (-1000001) rfl) rfl, trivial⟩⟩, dkW_eq ht hW⟩, hS.F ht⟩) hS.2.2 dX5_row_23
    ·
      exact (dkN_nil (show dkN [] v3 from dkN_ne1 (0) dv3 (dkN_lit (x := 0) (0) rfl) (dk_ne c4) rfl)).elim
set_option maxHeartbeats 4000000 in
set_option maxRecDepth 100000 in
theorem c_X6_in_23 (l : Launch) (g : dkG) (z : Nat) (I0 : dkI) (p0 : Int32) (p1 : Int32) (p2 : Int32) (dp0 : dkN [(0, 7)] p0) (dp1 : dkN [(0, 0)] p1) (dp2 : dkN [(7, 7)] p2)  (hO : dkOk I0) : Met l yX6_in wsX6_in (dkR 0) (dkPc g z [.int p0, .int p1, .int p2] I0) (dkQi g z (fun r I1 => dkF [] I0 I1 ∧ dkOk I1 ∧ ((dkN [(1, 1)] r ∧ True)))) 0 0 (dkA z) := by
  refine Met.ofW (cc := cX6_in) (maxL := 3) (ret := (some .boolean)) (by decide) rfl ?_
  intro p e s m args below meth c s₁ B hml hv
  obtain ⟨ha, hW, hK, hT⟩ := hv
  have hx := B.exec
  have hb := B.bytes
  have hr := B.returns
  have hts := atoms_spec (ws := wsX6_in) B.pre
  have hown : s.vm.findClass RX6 = some m.cls := findClass_of_methodNamed B.named
  have hlocks := B.notSynchronized
  have hS : va_S (dkA z) s.heap s.heap [] := va_S.rf
  have hF : dkF [] I0 I0 := dkF_rf _ _
  have hl := lv_entry ([.int p0, .int p1, .int p2]) (n := 3) (Nat.le_of_ble_eq_true rfl)
  have hgo : entryFrame m args 3 = entryFrame m ([.int p0, .int p1, .int p2] : List Value).toArray 3 := by rw [ha]
  rw [hgo, lg_entry_eq]
  generalize (lg_sl ([.int p0, .int p1, .int p2]) ++ List.replicate (3 - (lg_sl ([.int p0, .int p1, .int p2])).length) Slot.unset).toArray = ls at hl ⊢
  have hl : lv_has ls 3 [(0, .int p0), (1, .int p1), (2, .int p2)] := hl
  refine lv_iload_n hx hb dX6_in_0 rfl (lv_at hl 0 rfl) ?_
  refine lv_iload_n hx hb dX6_in_1 rfl (lv_at hl 1 rfl) ?_
  refine lv_icmp_lt (tgt := 14) hx hb dX6_in_2 (by decide) (fun c1 => ?_) (fun c1 => ?_)
  ·
    exact (dkN_nil (show dkN [] p0 from dkN_le1 1 dp0 dp1 (dkc_lt c1) rfl)).elim
  ·
    refine lv_iload_n hx hb dX6_in_5 rfl (lv_at hl 0 rfl) ?_
    refine lv_iload_n hx hb dX6_in_6 rfl (lv_at hl 2 rfl) ?_
    refine lv_icmp_gt (tgt := 14) hx hb dX6_in_7 (by decide) (fun c2 => ?_) (fun c2 => ?_)
    ·
      exact (dkN_nil (show dkN [] p2 from dkN_le1 1 dp2 dp0 (dkc_lt c2) rfl)).elim
    ·
      refine lv_iconst (v := 1) hx hb dX6_in_10 (by decide) ?_
      refine lv_goto (tgt := 15) hx hb dX6_in_11 (by decide) ?_
      exact W.zret (v := 1) (ty := .boolean) hx hb hr rfl (fun t ht hW9 => ⟨⟨1, I0, rfl, ⟨hF, hO, ⟨dkN_sub (dkN_lit (x := 1) (1) rfl) rfl, trivial⟩⟩, dkW_eq ht hW⟩, hS.F ht⟩) hS.2.2 dX6_in_15
set_option maxHeartbeats 4000000 in
set_option maxRecDepth 100000 in
theorem c_X6_isRow_2 (l : Launch) (g : dkG) (z : Nat) (I0 : dkI) (p0 : Int32) (dp0 : dkN [(0, 7)] p0)  (hO : dkOk I0) : Met l yX6_isRow wsX6_isRow (dkR 1) (dkPc g z [.int p0] I0) (dkQi g z (fun r I1 => dkF [] I0 I1 ∧ dkOk I1 ∧ ((dkN [(1, 1)] r ∧ True)))) 0 0 (dkA z) := by
  refine Met.ofW (cc := cX6_isRow) (maxL := 1) (ret := (some .boolean)) (by decide) rfl ?_
  intro p e s m args below meth c s₁ B hml hv
  obtain ⟨ha, hW, hK, hT⟩ := hv
  have hx := B.exec
  have hb := B.bytes
  have hr := B.returns
  have hts := atoms_spec (ws := wsX6_isRow) B.pre
  have hown : s.vm.findClass RX6 = some m.cls := findClass_of_methodNamed B.named
  have hlocks := B.notSynchronized
  have hS : va_S (dkA z) s.heap s.heap [] := va_S.rf
  have hF : dkF [] I0 I0 := dkF_rf _ _
  have hl := lv_entry ([.int p0]) (n := 1) (Nat.le_of_ble_eq_true rfl)
  have hgo : entryFrame m args 1 = entryFrame m ([.int p0] : List Value).toArray 1 := by rw [ha]
  rw [hgo, lg_entry_eq]
  generalize (lg_sl ([.int p0]) ++ List.replicate (1 - (lg_sl ([.int p0])).length) Slot.unset).toArray = ls at hl ⊢
  have hl : lv_has ls 1 [(0, .int p0)] := hl
  refine lv_iload_n hx hb dX6_isRow_0 rfl (lv_at hl 0 rfl) ?_
  refine lv_iconst (v := 0) hx hb dX6_isRow_1 (by decide) ?_
  refine lv_bipush (v := 7) hx hb dX6_isRow_2 (by decide) ?_
  refine dk_Si (As := [.int p0, .int 0, .int 7]) (rest := []) ⟨hx, hb, hml, hown, hts⟩ (c_X6_in_23 l g z I0 p0 0 7 dp0 (dkN_lit (x := 0) (0) rfl) (dkN_lit (x := 7) (7) rfl) hO) (va_cwS 3 hts gX6_isRow_X6_in rfl rfl rfl (by decide +kernel) ⟨Nat.le_of_ble_eq_true rfl, Nat.le_of_ble_eq_true rfl⟩) hK hT hW hS rfl hl.1 rfl (Nat.le_of_ble_eq_true rfl) dX6_isRow_4 ⟨Nat.zero_le _, Nat.zero_le _⟩ (fun v1 I1 H1 L1 hp1 hW hS => ?_)
  obtain ⟨hF1, hO, hc1⟩ := hp1
  have hF := dkF_call hF hF1 rfl
  obtain ⟨dv1, -⟩ := hc1
  exact W.zret (v := v1) (ty := .boolean) hx hb hr (dkN_zr dv1 rfl) (fun t ht hW9 => ⟨⟨v1, I1, rfl, ⟨hF, hO, ⟨dkN_sub dv1 rfl, trivial⟩⟩, dkW_eq ht hW⟩, hS.F ht⟩) hS.2.2 dX6_isRow_7
set_option maxHeartbeats 4000000 in
set_option maxRecDepth 100000 in
theorem c_X6_in_24 (l : Launch) (g : dkG) (z : Nat) (I0 : dkI) (p0 : Int32) (p1 : Int32) (p2 : Int32) (dp0 : dkN [(-2147483648, -1), (3, 2147483647)] p0) (dp1 : dkN [(0, 0)] p1) (dp2 : dkN [(2, 2)] p2)  (hO : dkOk I0) : Met l yX6_in wsX6_in (dkR 0) (dkPc g z [.int p0, .int p1, .int p2] I0) (dkQi g z (fun r I1 => dkF [] I0 I1 ∧ dkOk I1 ∧ ((dkN [(0, 0)] r ∧ True)))) 0 0 (dkA z) := by
  refine Met.ofW (cc := cX6_in) (maxL := 3) (ret := (some .boolean)) (by decide) rfl ?_
  intro p e s m args below meth c s₁ B hml hv
  obtain ⟨ha, hW, hK, hT⟩ := hv
  have hx := B.exec
  have hb := B.bytes
  have hr := B.returns
  have hts := atoms_spec (ws := wsX6_in) B.pre
  have hown : s.vm.findClass RX6 = some m.cls := findClass_of_methodNamed B.named
  have hlocks := B.notSynchronized
  have hS : va_S (dkA z) s.heap s.heap [] := va_S.rf
  have hF : dkF [] I0 I0 := dkF_rf _ _
  have hl := lv_entry ([.int p0, .int p1, .int p2]) (n := 3) (Nat.le_of_ble_eq_true rfl)
  have hgo : entryFrame m args 3 = entryFrame m ([.int p0, .int p1, .int p2] : List Value).toArray 3 := by rw [ha]
  rw [hgo, lg_entry_eq]
  generalize (lg_sl ([.int p0, .int p1, .int p2]) ++ List.replicate (3 - (lg_sl ([.int p0, .int p1, .int p2])).length) Slot.unset).toArray = ls at hl ⊢
  have hl : lv_has ls 3 [(0, .int p0), (1, .int p1), (2, .int p2)] := hl
  refine lv_iload_n hx hb dX6_in_0 rfl (lv_at hl 0 rfl) ?_
  refine lv_iload_n hx hb dX6_in_1 rfl (lv_at hl 1 rfl) ?_
  refine lv_icmp_lt (tgt := 14) hx hb dX6_in_2 (by decide) (fun c1 => ?_) (fun c1 => ?_)
  ·
    have d2 : dkN [(-2147483648, -1)] p0 := dkN_le1 1 dp0 dp1 (dkc_lt c1) rfl
    refine lv_iconst (v := 0) hx hb dX6_in_14 (by decide) ?_
    exact W.zret (v := 0) (ty := .boolean) hx hb hr rfl (fun t ht hW9 => ⟨⟨0, I0, rfl, ⟨hF, hO, ⟨dkN_sub (dkN_lit (x := 0) (0) rfl) rfl, trivial⟩⟩, dkW_eq ht hW⟩, hS.F ht⟩) hS.2.2 dX6_in_15
  ·
    have d3 : dkN [(3, 2147483647)] p0 := dkN_le2 0 dp1 dp0 (dkc_nlt c1) rfl
    refine lv_iload_n hx hb dX6_in_5 rfl (lv_at hl 0 rfl) ?_
    refine lv_iload_n hx hb dX6_in_6 rfl (lv_at hl 2 rfl) ?_
    refine lv_icmp_gt (tgt := 14) hx hb dX6_in_7 (by decide) (fun c4 => ?_) (fun c4 => ?_)
    ·
      refine lv_iconst (v := 0) hx hb dX6_in_14 (by decide) ?_
      exact W.zret (v := 0) (ty := .boolean) hx hb hr rfl (fun t ht hW9 => ⟨⟨0, I0, rfl, ⟨hF, hO, ⟨dkN_sub (dkN_lit (x := 0) (0) rfl) rfl, trivial⟩⟩, dkW_eq ht hW⟩, hS.F ht⟩) hS.2.2 dX6_in_15
    ·
      exact (dkN_nil (show dkN [] p2 from dkN_le2 0 d3 dp2 (dkc_nlt c4) rfl)).elim
set_option maxHeartbeats 4000000 in
set_option maxRecDepth 100000 in
theorem c_X6_row_2 (l : Launch) (g : dkG) (z : Nat) (I0 : dkI) (p0 : Int32) (p1 : Int32) (p2 : Int32) (dp0 : dkN [(0, 7)] p0) (dp1 : dkN [(-2147483648, -1), (3, 2147483647)] p1)  (hO : dkOk I0) : Met l yX6_row wsX6_row (dkR 2) (dkPc g z [.ref (z + 340), .int p0, .int p1, .int p2] I0) (dkQi g z (fun r I1 => dkF [] I0 I1 ∧ dkOk I1 ∧ ((dkN [(-1000001, -1000001)] r ∧ True)))) 0 0 (dkA z) := by
  refine Met.ofW (cc := cX6_row) (maxL := 5) (ret := (some .int)) (by decide) rfl ?_
  intro p e s m args below meth c s₁ B hml hv
  obtain ⟨ha, hW, hK, hT⟩ := hv
  have hx := B.exec
  have hb := B.bytes
  have hr := B.returns
  have hts := atoms_spec (ws := wsX6_row) B.pre
  have hown : s.vm.findClass RX6 = some m.cls := findClass_of_methodNamed B.named
  have hlocks := B.notSynchronized
  have hS : va_S (dkA z) s.heap s.heap [] := va_S.rf
  have hF : dkF [] I0 I0 := dkF_rf _ _
  have hl := lv_entry ([.ref (z + 340), .int p0, .int p1, .int p2]) (n := 5) (Nat.le_of_ble_eq_true rfl)
  have hgo : entryFrame m args 5 = entryFrame m ([.ref (z + 340), .int p0, .int p1, .int p2] : List Value).toArray 5 := by rw [ha]
  rw [hgo, lg_entry_eq]
  generalize (lg_sl ([.ref (z + 340), .int p0, .int p1, .int p2]) ++ List.replicate (5 - (lg_sl ([.ref (z + 340), .int p0, .int p1, .int p2])).length) Slot.unset).toArray = ls at hl ⊢
  have hl : lv_has ls 5 [(0, .ref (z + 340)), (1, .int p0), (2, .int p1), (3, .int p2)] := hl
  refine lv_iload_n hx hb dX6_row_0 rfl (lv_at hl 1 rfl) ?_
  refine dk_Si (As := [.int p0]) (rest := []) ⟨hx, hb, hml, hown, hts⟩ (c_X6_isRow_2 l g z I0 p0 dp0 hO) (va_cwS 1 hts gX6_row_X6_isRow rfl rfl rfl (by decide +kernel) ⟨Nat.le_of_ble_eq_true rfl, Nat.le_of_ble_eq_true rfl⟩) hK hT hW hS rfl hl.1 rfl (Nat.le_of_ble_eq_true rfl) dX6_row_1 ⟨Nat.zero_le _, Nat.zero_le _⟩ (fun v1 I1 H1 L1 hp1 hW hS => ?_)
  obtain ⟨hF1, hO, hc1⟩ := hp1
  have hF := dkF_call hF hF1 rfl
  obtain ⟨dv1, -⟩ := hc1
  refine lv_if_eq (tgt := 22) hx hb dX6_row_4 (by decide) (fun c2 => ?_) (fun c2 => ?_)
  ·
    exact (dkN_nil (show dkN [] v1 from dkN_eq1 dv1 (dkN_lit (x := 0) (0) rfl) (congrArg Int32.toInt c2) rfl)).elim
  ·
    refine lv_iload_n hx hb dX6_row_7 rfl (lv_at hl 2 rfl) ?_
    refine lv_iconst (v := 0) hx hb dX6_row_8 (by decide) ?_
    refine lv_iconst (v := 2) hx hb dX6_row_9 (by decide) ?_
    refine dk_Si (As := [.int p1, .int 0, .int 2]) (rest := []) ⟨hx, hb, hml, hown, hts⟩ (c_X6_in_24 l g z I1 p1 0 2 dp1 (dkN_lit (x := 0) (0) rfl) (dkN_lit (x := 2) (2) rfl) hO) (va_cwS 3 hts gX6_row_X6_in rfl rfl rfl (by decide +kernel) ⟨Nat.le_of_ble_eq_true rfl, Nat.le_of_ble_eq_true rfl⟩) hK hT hW hS rfl hl.1 rfl (Nat.le_of_ble_eq_true rfl) dX6_row_10 ⟨Nat.zero_le _, Nat.zero_le _⟩ (fun v3 I3 H3 L3 hp3 hW hS => ?_)
    obtain ⟨hF3, hO, hc3⟩ := hp3
    have hF := dkF_call hF hF3 rfl
    obtain ⟨dv3, -⟩ := hc3
    refine lv_if_eq (tgt := 22) hx hb dX6_row_13 (by decide) (fun c4 => ?_) (fun c4 => ?_)
    ·
      refine lv_ldc (v := (-1000001)) hx hb hown (hts (.constant RX6 64 (-1000001)) (List.mem_of_getElem? (i := 1) rfl)) dX6_row_22 ?_
      exact W.iret (v := (-1000001)) hx hb hr (fun t ht hW9 => ⟨⟨(-1000001), I3, rfl, ⟨hF, hO, ⟨dkN_sub (dkN_lit (x := (-1000001)) (-1000001) rfl) rfl, trivial⟩⟩, dkW_eq ht hW⟩, hS.F ht⟩) hS.2.2 dX6_row_24
    ·
      exact (dkN_nil (show dkN [] v3 from dkN_ne1 (0) dv3 (dkN_lit (x := 0) (0) rfl) (dk_ne c4) rfl)).elim
set_option maxHeartbeats 4000000 in
set_option maxRecDepth 100000 in
theorem c_X5_isUpTo_11 (l : Launch) (g : dkG) (z : Nat) (I0 : dkI) (p0 : Int32) (p1 : Int32) (dp0 : dkN [(0, 2)] p0) (dp1 : dkN [(2, 2)] p1)  (hO : dkOk I0) : Met l yX5_isUpTo wsX5_isUpTo (dkR 0) (dkPc g z [.int p0, .int p1] I0) (dkQi g z (fun r I1 => dkF [] I0 I1 ∧ dkOk I1 ∧ ((dkN [(1, 1)] r ∧ True)))) 0 0 (dkA z) := by
  refine Met.ofW (cc := cX5_isUpTo) (maxL := 2) (ret := (some .boolean)) (by decide) rfl ?_
  intro p e s m args below meth c s₁ B hml hv
  obtain ⟨ha, hW, hK, hT⟩ := hv
  have hx := B.exec
  have hb := B.bytes
  have hr := B.returns
  have hts := atoms_spec (ws := wsX5_isUpTo) B.pre
  have hown : s.vm.findClass RX5 = some m.cls := findClass_of_methodNamed B.named
  have hlocks := B.notSynchronized
  have hS : va_S (dkA z) s.heap s.heap [] := va_S.rf
  have hF : dkF [] I0 I0 := dkF_rf _ _
  have hl := lv_entry ([.int p0, .int p1]) (n := 2) (Nat.le_of_ble_eq_true rfl)
  have hgo : entryFrame m args 2 = entryFrame m ([.int p0, .int p1] : List Value).toArray 2 := by rw [ha]
  rw [hgo, lg_entry_eq]
  generalize (lg_sl ([.int p0, .int p1]) ++ List.replicate (2 - (lg_sl ([.int p0, .int p1])).length) Slot.unset).toArray = ls at hl ⊢
  have hl : lv_has ls 2 [(0, .int p0), (1, .int p1)] := hl
  refine lv_iload_n hx hb dX5_isUpTo_0 rfl (lv_at hl 0 rfl) ?_
  refine lv_if_lt (tgt := 13) hx hb dX5_isUpTo_1 (by decide) (fun c1 => ?_) (fun c1 => ?_)
  ·
    exact (dkN_nil (show dkN [] p0 from dkN_le1 1 dp0 (dkN_lit (x := 0) (0) rfl) (dkc_lt c1) rfl)).elim
  ·
    refine lv_iload_n hx hb dX5_isUpTo_4 rfl (lv_at hl 0 rfl) ?_
    refine lv_iload_n hx hb dX5_isUpTo_5 rfl (lv_at hl 1 rfl) ?_
    refine lv_icmp_gt (tgt := 13) hx hb dX5_isUpTo_6 (by decide) (fun c2 => ?_) (fun c2 => ?_)
    ·
      exact (dkN_nil (show dkN [] p1 from dkN_le1 1 dp1 dp0 (dkc_lt c2) rfl)).elim
    ·
      refine lv_iconst (v := 1) hx hb dX5_isUpTo_9 (by decide) ?_
      refine lv_goto (tgt := 14) hx hb dX5_isUpTo_10 (by decide) ?_
      exact W.zret (v := 1) (ty := .boolean) hx hb hr rfl (fun t ht hW9 => ⟨⟨1, I0, rfl, ⟨hF, hO, ⟨dkN_sub (dkN_lit (x := 1) (1) rfl) rfl, trivial⟩⟩, dkW_eq ht hW⟩, hS.F ht⟩) hS.2.2 dX5_isUpTo_14
set_option maxHeartbeats 4000000 in
set_option maxRecDepth 100000 in
theorem c_X5_row_3 (l : Launch) (g : dkG) (z : Nat) (I0 : dkI) (p0 : Int32) (p1 : Int32) (p2 : Int32) (dp0 : dkN [(0, 7)] p0) (dp1 : dkN [(0, 2)] p1) (dp2 : dkN [(-2147483648, -1)] p2)  (hO : dkOk I0) : Met l yX5_row wsX5_row (dkR 2) (dkPc g z [.ref (z + 0), .int p0, .int p1, .int p2] I0) (dkQi g z (fun r I1 => dkF [(0, 0, 3, 3)] I0 I1 ∧ dkOk I1 ∧ ((dkN [(-1000014, -1000014)] r ∧ dkN [(4, 4)] (I1 0 3) ∧ True)))) 0 0 (dkA z) := by
  refine Met.ofW (cc := cX5_row) (maxL := 5) (ret := (some .int)) (by decide) rfl ?_
  intro p e s m args below meth c s₁ B hml hv
  obtain ⟨ha, hW, hK, hT⟩ := hv
  have hx := B.exec
  have hb := B.bytes
  have hr := B.returns
  have hts := atoms_spec (ws := wsX5_row) B.pre
  have hown : s.vm.findClass RX5 = some m.cls := findClass_of_methodNamed B.named
  have hlocks := B.notSynchronized
  have hS : va_S (dkA z) s.heap s.heap [] := va_S.rf
  have hF : dkF [(0, 0, 3, 3)] I0 I0 := dkF_rf _ _
  have hl := lv_entry ([.ref (z + 0), .int p0, .int p1, .int p2]) (n := 5) (Nat.le_of_ble_eq_true rfl)
  have hgo : entryFrame m args 5 = entryFrame m ([.ref (z + 0), .int p0, .int p1, .int p2] : List Value).toArray 5 := by rw [ha]
  rw [hgo, lg_entry_eq]
  generalize (lg_sl ([.ref (z + 0), .int p0, .int p1, .int p2]) ++ List.replicate (5 - (lg_sl ([.ref (z + 0), .int p0, .int p1, .int p2])).length) Slot.unset).toArray = ls at hl ⊢
  have hl : lv_has ls 5 [(0, .ref (z + 0)), (1, .int p0), (2, .int p1), (3, .int p2)] := hl
  refine lv_iload_n hx hb dX5_row_0 rfl (lv_at hl 1 rfl) ?_
  refine dk_Si (As := [.int p0]) (rest := []) ⟨hx, hb, hml, hown, hts⟩ (c_X5_isRow_2 l g z I0 p0 dp0 hO) (va_cwS 1 hts gX5_row_X5_isRow rfl rfl rfl (by decide +kernel) ⟨Nat.le_of_ble_eq_true rfl, Nat.le_of_ble_eq_true rfl⟩) hK hT hW hS rfl hl.1 rfl (Nat.le_of_ble_eq_true rfl) dX5_row_1 ⟨Nat.zero_le _, Nat.zero_le _⟩ (fun v1 I1 H1 L1 hp1 hW hS => ?_)
  obtain ⟨hF1, hO, hc1⟩ := hp1
  have hF := dkF_call hF hF1 rfl
  obtain ⟨dv1, -⟩ := hc1
  refine lv_if_eq (tgt := 21) hx hb dX5_row_4 (by decide) (fun c2 => ?_) (fun c2 => ?_)
  ·
    exact (dkN_nil (show dkN [] v1 from dkN_eq1 dv1 (dkN_lit (x := 0) (0) rfl) (congrArg Int32.toInt c2) rfl)).elim
  ·
    refine lv_iload_n hx hb dX5_row_7 rfl (lv_at hl 2 rfl) ?_
    refine lv_iconst (v := 2) hx hb dX5_row_8 (by decide) ?_
    refine dk_Si (As := [.int p1, .int 2]) (rest := []) ⟨hx, hb, hml, hown, hts⟩ (c_X5_isUpTo_11 l g z I1 p1 2 dp1 (dkN_lit (x := 2) (2) rfl) hO) (va_cwS 2 hts gX5_row_X5_isUpTo rfl rfl rfl (by decide +kernel) ⟨Nat.le_of_ble_eq_true rfl, Nat.le_of_ble_eq_true rfl⟩) hK hT hW hS rfl hl.1 rfl (Nat.le_of_ble_eq_true rfl) dX5_row_9 ⟨Nat.zero_le _, Nat.zero_le _⟩ (fun v3 I3 H3 L3 hp3 hW hS => ?_)
    obtain ⟨hF3, hO, hc3⟩ := hp3
    have hF := dkF_call hF hF3 rfl
    obtain ⟨dv3, -⟩ := hc3
    refine lv_if_eq (tgt := 21) hx hb dX5_row_12 (by decide) (fun c4 => ?_) (fun c4 => ?_)
    ·
      exact (dkN_nil (show dkN [] v3 from dkN_eq1 dv3 (dkN_lit (x := 0) (0) rfl) (congrArg Int32.toInt c4) rfl)).elim
    ·
      refine lv_iload_n hx hb dX5_row_15 rfl (lv_at hl 3 rfl) ?_
      refine lv_bipush (v := 40) hx hb dX5_row_16 (by decide) ?_
      refine lv_icmp_le (tgt := 24) hx hb dX5_row_18 (by decide) (fun c5 => ?_) (fun c5 => ?_)
      ·
        refine lv_iload_n hx hb dX5_row_24 rfl (lv_at hl 3 rfl) ?_
        refine lv_if_ge (tgt := 34) hx hb dX5_row_25 (by decide) (fun c6 => ?_) (fun c6 => ?_)
        ·
          exact (dkN_nil (show dkN [] 0 from dkN_le1 0 (dkN_lit (x := 0) (0) rfl) dp2 (dkc_le c6) rfl)).elim
        ·
          refine lv_aload_n hx hb dX5_row_28 rfl (lv_at hl 0 rfl) ?_
          refine lv_iconst (v := 4) hx hb dX5_row_29 (by decide) ?_
          refine dk_Vi (As := [.int 4]) (rest := []) ⟨hx, hb, hml, hown, hts⟩ (c_X5_found_0 l g z I3 4 (dkN_lit (x := 4) (4) rfl) hO) (cwV 1 hts gX5_row_X5_found rfl rfl rfl (by decide +kernel) ⟨Nat.le_of_ble_eq_true rfl, Nat.le_of_ble_eq_true rfl⟩) (dk_at0 hW) rfl hK hT hW hS rfl hl.1 rfl (Nat.le_of_ble_eq_true rfl) dX5_row_30 ⟨Nat.zero_le _, Nat.zero_le _⟩ (fun v7 I7 H7 L7 hp7 hW hS => ?_)
          obtain ⟨hF7, hO, hc7⟩ := hp7
          have hF := dkF_call hF hF7 rfl
          obtain ⟨dv7, f7_0_3, -⟩ := hc7
          exact W.iret (v := v7) hx hb hr (fun t ht hW9 => ⟨⟨v7, I7, rfl, ⟨hF, hO, ⟨dkN_sub dv7 rfl, (show dkN [(4, 4)] (I7 0 3) from dkN_sub f7_0_3 rfl), trivial⟩⟩, dkW_eq ht hW⟩, hS.F ht⟩) hS.2.2 dX5_row_33
      ·
        exact (dkN_nil (show dkN [] p2 from dkN_le2 1 (dkN_lit (x := 40) (40) rfl) dp2 (dkc_nle c5) rfl)).elim
set_option maxHeartbeats 4000000 in
set_option maxRecDepth 100000 in
theorem c_X6_in_25 (l : Launch) (g : dkG) (z : Nat) (I0 : dkI) (p0 : Int32) (p1 : Int32) (p2 : Int32) (dp0 : dkN [(0, 2)] p0) (dp1 : dkN [(0, 0)] p1) (dp2 : dkN [(2, 2)] p2)  (hO : dkOk I0) : Met l yX6_in wsX6_in (dkR 0) (dkPc g z [.int p0, .int p1, .int p2] I0) (dkQi g z (fun r I1 => dkF [] I0 I1 ∧ dkOk I1 ∧ ((dkN [(1, 1)] r ∧ True)))) 0 0 (dkA z) := by
  refine Met.ofW (cc := cX6_in) (maxL := 3) (ret := (some .boolean)) (by decide) rfl ?_
  intro p e s m args below meth c s₁ B hml hv
  obtain ⟨ha, hW, hK, hT⟩ := hv
  have hx := B.exec
  have hb := B.bytes
  have hr := B.returns
  have hts := atoms_spec (ws := wsX6_in) B.pre
  have hown : s.vm.findClass RX6 = some m.cls := findClass_of_methodNamed B.named
  have hlocks := B.notSynchronized
  have hS : va_S (dkA z) s.heap s.heap [] := va_S.rf
  have hF : dkF [] I0 I0 := dkF_rf _ _
  have hl := lv_entry ([.int p0, .int p1, .int p2]) (n := 3) (Nat.le_of_ble_eq_true rfl)
  have hgo : entryFrame m args 3 = entryFrame m ([.int p0, .int p1, .int p2] : List Value).toArray 3 := by rw [ha]
  rw [hgo, lg_entry_eq]
  generalize (lg_sl ([.int p0, .int p1, .int p2]) ++ List.replicate (3 - (lg_sl ([.int p0, .int p1, .int p2])).length) Slot.unset).toArray = ls at hl ⊢
  have hl : lv_has ls 3 [(0, .int p0), (1, .int p1), (2, .int p2)] := hl
  refine lv_iload_n hx hb dX6_in_0 rfl (lv_at hl 0 rfl) ?_
  refine lv_iload_n hx hb dX6_in_1 rfl (lv_at hl 1 rfl) ?_
  refine lv_icmp_lt (tgt := 14) hx hb dX6_in_2 (by decide) (fun c1 => ?_) (fun c1 => ?_)
  ·
    exact (dkN_nil (show dkN [] p0 from dkN_le1 1 dp0 dp1 (dkc_lt c1) rfl)).elim
  ·
    refine lv_iload_n hx hb dX6_in_5 rfl (lv_at hl 0 rfl) ?_
    refine lv_iload_n hx hb dX6_in_6 rfl (lv_at hl 2 rfl) ?_
    refine lv_icmp_gt (tgt := 14) hx hb dX6_in_7 (by decide) (fun c2 => ?_) (fun c2 => ?_)
    ·
      exact (dkN_nil (show dkN [] p2 from dkN_le1 1 dp2 dp0 (dkc_lt c2) rfl)).elim
    ·
      refine lv_iconst (v := 1) hx hb dX6_in_10 (by decide) ?_
      refine lv_goto (tgt := 15) hx hb dX6_in_11 (by decide) ?_
      exact W.zret (v := 1) (ty := .boolean) hx hb hr rfl (fun t ht hW9 => ⟨⟨1, I0, rfl, ⟨hF, hO, ⟨dkN_sub (dkN_lit (x := 1) (1) rfl) rfl, trivial⟩⟩, dkW_eq ht hW⟩, hS.F ht⟩) hS.2.2 dX6_in_15
set_option maxHeartbeats 4000000 in
set_option maxRecDepth 100000 in
theorem c_X6_row_3 (l : Launch) (g : dkG) (z : Nat) (I0 : dkI) (p0 : Int32) (p1 : Int32) (p2 : Int32) (dp0 : dkN [(0, 7)] p0) (dp1 : dkN [(0, 2)] p1) (dp2 : dkN [(-2147483648, -1)] p2)  (hO : dkOk I0) : Met l yX6_row wsX6_row (dkR 2) (dkPc g z [.ref (z + 340), .int p0, .int p1, .int p2] I0) (dkQi g z (fun r I1 => dkF [(340, 340, 4, 4)] I0 I1 ∧ dkOk I1 ∧ ((dkN [(-1000014, -1000014)] r ∧ dkN [(4, 4)] (I1 340 4) ∧ True)))) 0 0 (dkA z) := by
  refine Met.ofW (cc := cX6_row) (maxL := 5) (ret := (some .int)) (by decide) rfl ?_
  intro p e s m args below meth c s₁ B hml hv
  obtain ⟨ha, hW, hK, hT⟩ := hv
  have hx := B.exec
  have hb := B.bytes
  have hr := B.returns
  have hts := atoms_spec (ws := wsX6_row) B.pre
  have hown : s.vm.findClass RX6 = some m.cls := findClass_of_methodNamed B.named
  have hlocks := B.notSynchronized
  have hS : va_S (dkA z) s.heap s.heap [] := va_S.rf
  have hF : dkF [(340, 340, 4, 4)] I0 I0 := dkF_rf _ _
  have hl := lv_entry ([.ref (z + 340), .int p0, .int p1, .int p2]) (n := 5) (Nat.le_of_ble_eq_true rfl)
  have hgo : entryFrame m args 5 = entryFrame m ([.ref (z + 340), .int p0, .int p1, .int p2] : List Value).toArray 5 := by rw [ha]
  rw [hgo, lg_entry_eq]
  generalize (lg_sl ([.ref (z + 340), .int p0, .int p1, .int p2]) ++ List.replicate (5 - (lg_sl ([.ref (z + 340), .int p0, .int p1, .int p2])).length) Slot.unset).toArray = ls at hl ⊢
  have hl : lv_has ls 5 [(0, .ref (z + 340)), (1, .int p0), (2, .int p1), (3, .int p2)] := hl
  refine lv_iload_n hx hb dX6_row_0 rfl (lv_at hl 1 rfl) ?_
  refine dk_Si (As := [.int p0]) (rest := []) ⟨hx, hb, hml, hown, hts⟩ (c_X6_isRow_2 l g z I0 p0 dp0 hO) (va_cwS 1 hts gX6_row_X6_isRow rfl rfl rfl (by decide +kernel) ⟨Nat.le_of_ble_eq_true rfl, Nat.le_of_ble_eq_true rfl⟩) hK hT hW hS rfl hl.1 rfl (Nat.le_of_ble_eq_true rfl) dX6_row_1 ⟨Nat.zero_le _, Nat.zero_le _⟩ (fun v1 I1 H1 L1 hp1 hW hS => ?_)
  obtain ⟨hF1, hO, hc1⟩ := hp1
  have hF := dkF_call hF hF1 rfl
  obtain ⟨dv1, -⟩ := hc1
  refine lv_if_eq (tgt := 22) hx hb dX6_row_4 (by decide) (fun c2 => ?_) (fun c2 => ?_)
  ·
    exact (dkN_nil (show dkN [] v1 from dkN_eq1 dv1 (dkN_lit (x := 0) (0) rfl) (congrArg Int32.toInt c2) rfl)).elim
  ·
    refine lv_iload_n hx hb dX6_row_7 rfl (lv_at hl 2 rfl) ?_
    refine lv_iconst (v := 0) hx hb dX6_row_8 (by decide) ?_
    refine lv_iconst (v := 2) hx hb dX6_row_9 (by decide) ?_
    refine dk_Si (As := [.int p1, .int 0, .int 2]) (rest := []) ⟨hx, hb, hml, hown, hts⟩ (c_X6_in_25 l g z I1 p1 0 2 dp1 (dkN_lit (x := 0) (0) rfl) (dkN_lit (x := 2) (2) rfl) hO) (va_cwS 3 hts gX6_row_X6_in rfl rfl rfl (by decide +kernel) ⟨Nat.le_of_ble_eq_true rfl, Nat.le_of_ble_eq_true rfl⟩) hK hT hW hS rfl hl.1 rfl (Nat.le_of_ble_eq_true rfl) dX6_row_10 ⟨Nat.zero_le _, Nat.zero_le _⟩ (fun v3 I3 H3 L3 hp3 hW hS => ?_)
    obtain ⟨hF3, hO, hc3⟩ := hp3
    have hF := dkF_call hF hF3 rfl
    obtain ⟨dv3, -⟩ := hc3
    refine lv_if_eq (tgt := 22) hx hb dX6_row_13 (by decide) (fun c4 => ?_) (fun c4 => ?_)
    ·
      exact (dkN_nil (show dkN [] v3 from dkN_eq1 dv3 (dkN_lit (x := 0) (0) rfl) (congrArg Int32.toInt c4) rfl)).elim
    ·
      refine lv_iload_n hx hb dX6_row_16 rfl (lv_at hl 3 rfl) ?_
      refine lv_bipush (v := 40) hx hb dX6_row_17 (by decide) ?_
      refine lv_icmp_le (tgt := 25) hx hb dX6_row_19 (by decide) (fun c5 => ?_) (fun c5 => ?_)
      ·
        refine lv_iload_n hx hb dX6_row_25 rfl (lv_at hl 3 rfl) ?_
        refine lv_if_ge (tgt := 35) hx hb dX6_row_26 (by decide) (fun c6 => ?_) (fun c6 => ?_)
        ·
          exact (dkN_nil (show dkN [] 0 from dkN_le1 0 (dkN_lit (x := 0) (0) rfl) dp2 (dkc_le c6) rfl)).elim
        ·
          refine lv_aload_n hx hb dX6_row_29 rfl (lv_at hl 0 rfl) ?_
          refine lv_iconst (v := 4) hx hb dX6_row_30 (by decide) ?_
          refine dk_Vi (As := [.int 4]) (rest := []) ⟨hx, hb, hml, hown, hts⟩ (c_X6_found_0 l g z I3 4 (dkN_lit (x := 4) (4) rfl) hO) (cwV 1 hts gX6_row_X6_found rfl rfl rfl (by decide +kernel) ⟨Nat.le_of_ble_eq_true rfl, Nat.le_of_ble_eq_true rfl⟩) (dk_at340 hW) rfl hK hT hW hS rfl hl.1 rfl (Nat.le_of_ble_eq_true rfl) dX6_row_31 ⟨Nat.zero_le _, Nat.zero_le _⟩ (fun v7 I7 H7 L7 hp7 hW hS => ?_)
          obtain ⟨hF7, hO, hc7⟩ := hp7
          have hF := dkF_call hF hF7 rfl
          obtain ⟨dv7, f7_340_4, -⟩ := hc7
          exact W.iret (v := v7) hx hb hr (fun t ht hW9 => ⟨⟨v7, I7, rfl, ⟨hF, hO, ⟨dkN_sub dv7 rfl, (show dkN [(4, 4)] (I7 340 4) from dkN_sub f7_340_4 rfl), trivial⟩⟩, dkW_eq ht hW⟩, hS.F ht⟩) hS.2.2 dX6_row_34
      ·
        exact (dkN_nil (show dkN [] p2 from dkN_le2 1 (dkN_lit (x := 40) (40) rfl) dp2 (dkc_nle c5) rfl)).elim
set_option maxHeartbeats 4000000 in
set_option maxRecDepth 100000 in
theorem c_X5_row_4 (l : Launch) (g : dkG) (z : Nat) (I0 : dkI) (p0 : Int32) (p1 : Int32) (p2 : Int32) (dp0 : dkN [(0, 7)] p0) (dp1 : dkN [(0, 2)] p1) (dp2 : dkN [(0, 40)] p2)  (hO : dkOk I0) : Met l yX5_row wsX5_row (dkR 2) (dkPc g z [.ref (z + 0), .int p0, .int p1, .int p2] I0) (dkQi g z (fun r I1 => dkF [(2, 9, 0, 2147483647), (0, 0, 3, 3), (10, 10, 0, 7), (11, 11, 0, 7)] I0 I1 ∧ dkOk I1 ∧ r = p2 ∧ ((dkN [(0, 40)] r ∧ dkN [(0, 0)] (I1 0 3) ∧ True)))) 0 0 (dkA z) := by
  refine Met.ofW (cc := cX5_row) (maxL := 5) (ret := (some .int)) (by decide) rfl ?_
  intro p e s m args below meth c s₁ B hml hv
  obtain ⟨ha, hW, hK, hT⟩ := hv
  have hx := B.exec
  have hb := B.bytes
  have hr := B.returns
  have hts := atoms_spec (ws := wsX5_row) B.pre
  have hown : s.vm.findClass RX5 = some m.cls := findClass_of_methodNamed B.named
  have hlocks := B.notSynchronized
  have hS : va_S (dkA z) s.heap s.heap [] := va_S.rf
  have hF : dkF [(2, 9, 0, 2147483647), (0, 0, 3, 3), (10, 10, 0, 7), (11, 11, 0, 7)] I0 I0 := dkF_rf _ _
  have hl := lv_entry ([.ref (z + 0), .int p0, .int p1, .int p2]) (n := 5) (Nat.le_of_ble_eq_true rfl)
  have hgo : entryFrame m args 5 = entryFrame m ([.ref (z + 0), .int p0, .int p1, .int p2] : List Value).toArray 5 := by rw [ha]
  rw [hgo, lg_entry_eq]
  generalize (lg_sl ([.ref (z + 0), .int p0, .int p1, .int p2]) ++ List.replicate (5 - (lg_sl ([.ref (z + 0), .int p0, .int p1, .int p2])).length) Slot.unset).toArray = ls at hl ⊢
  have hl : lv_has ls 5 [(0, .ref (z + 0)), (1, .int p0), (2, .int p1), (3, .int p2)] := hl
  have C37 : ∀ (n : Nat), ∀ (I : dkI) (H : Heap) (locs : List Loc) (ls : Array Slot) (x37_4 : Int32), (40 - x37_4.toInt).toNat < n → dkW g z I H → va_S (dkA z) s.heap H locs → dkF [(2, 9, 0, 2147483647), (0, 0, 3, 3), (10, 10, 0, 7), (11, 11, 0, 7)] I0 I → dkOk I → dkN [(0, 40)] x37_4 → lv_has ls 5 [(0, .ref (z + 0)), (1, .int p0), (2, .int p1), (3, .int p2), (4, .int x37_4)] → W p l e (headSpec wsX5_row (dkR 2)).room s m args below meth c H locs 0 0 (MQ below (dkQi g z (fun r I1 => dkF [(2, 9, 0, 2147483647), (0, 0, 3, 3), (10, 10, 0, 7), (11, 11, 0, 7)] I0 I1 ∧ dkOk I1 ∧ r = p2 ∧ ((dkN [(0, 40)] r ∧ dkN [(0, 0)] (I1 0 3) ∧ True)))) args s 0 0 (dkA z)) (F0 m 37 ls []) := by
    intro n
    induction n with
    | zero => intro I H locs ls x37_4 hn; exact absurd hn (Nat.not_lt_zero _)
    | succ n ih37 =>
      intro I37_ H locs ls x37_4 hn37 hW hS hF_37 hO k37_0 hl
      have hF := hF_37
      refine lv_iload hx hb dX5_row_37 (lv_at hl 4 rfl) ?_
      refine lv_iload_n hx hb dX5_row_39 rfl (lv_at hl 3 rfl) ?_
      refine lv_icmp_ge (tgt := 59) hx hb dX5_row_40 (by decide) (fun c1 => ?_) (fun c1 => ?_)
      ·
        refine lv_aload_n hx hb dX5_row_59 rfl (lv_at hl 0 rfl) ?_
        refine dk_get (k := 0) hx hb hts iX5_row_5 hown hK (dk_at0 hW) rfl 1 (by decide) (hts (.fieldLink RX5 14 "DogKings" "lanes" "[I") (List.mem_of_getElem? (i := 3) rfl)) rfl dX5_row_60 ?_
        refine lv_iload_n hx hb dX5_row_63 rfl (lv_at hl 1 rfl) ?_
        refine lv_iload_n hx hb dX5_row_64 rfl (lv_at hl 2 rfl) ?_
        refine dk_ist (k := 10) hx hb hK hW (fun _ => rfl) (by decide) hS (dkN_in (n := 8) dp0 rfl) dX5_row_65 (fun I2 H2 L2 eI2 hW hS => ?_)
        have hO := dkO_set hO eI2 (dkN_sub dp1 rfl)
        have hF := dkF_set hF eI2 (dkIn_v dp0 rfl)
        refine lv_aload_n hx hb dX5_row_66 rfl (lv_at hl 0 rfl) ?_
        refine dk_get (k := 0) hx hb hts iX5_row_5 hown hK (dk_at0 hW) rfl 2 (by decide) (hts (.fieldLink RX5 18 "DogKings" "sizes" "[I") (List.mem_of_getElem? (i := 4) rfl)) rfl dX5_row_67 ?_
        refine lv_iload_n hx hb dX5_row_70 rfl (lv_at hl 1 rfl) ?_
        refine lv_iload_n hx hb dX5_row_71 rfl (lv_at hl 3 rfl) ?_
        refine dk_ist (k := 11) hx hb hK hW (fun _ => rfl) (by decide) hS (dkN_in (n := 8) dp0 rfl) dX5_row_72 (fun I3 H3 L3 eI3 hW hS => ?_)
        have hO := dkO_set hO eI3 (dkN_sub dp2 rfl)
        have hF := dkF_set hF eI3 (dkIn_v dp0 rfl)
        refine lv_aload_n hx hb dX5_row_73 rfl (lv_at hl 0 rfl) ?_
        refine lv_iload_n hx hb dX5_row_74 rfl (lv_at hl 3 rfl) ?_
        refine dk_Vi (As := [.int p2]) (rest := []) ⟨hx, hb, hml, hown, hts⟩ (c_X5_nothingFound_0 l g z I3 p2 hO) (cwV 1 hts gX5_row_X5_nothingFound rfl rfl rfl (by decide +kernel) ⟨Nat.le_of_ble_eq_true rfl, Nat.le_of_ble_eq_true rfl⟩) (dk_at0 hW) rfl hK hT hW hS rfl hl.1 rfl (Nat.le_of_ble_eq_true rfl) dX5_row_75 ⟨Nat.zero_le _, Nat.zero_le _⟩ (fun v4 I4 H4 L4 hp4 hW hS => ?_)
        obtain ⟨hF4, hO, ev4, hc4⟩ := hp4
        have hF := dkF_call hF hF4 rfl
        obtain ⟨_, f4_0_3, -⟩ := hc4
        rw [ev4]
        exact W.iret (v := p2) hx hb hr (fun t ht hW9 => ⟨⟨p2, I4, rfl, ⟨hF, hO, rfl, ⟨dkN_sub dp2 rfl, (show dkN [(0, 0)] (I4 0 3) from dkN_sub f4_0_3 rfl), trivial⟩⟩, dkW_eq ht hW⟩, hS.F ht⟩) hS.2.2 dX5_row_78
      ·
        have d5 : dkN [(1, 40)] p2 := dkN_le2 1 k37_0 dp2 (dkc_nle c1) rfl
        have d6 : dkN [(0, 39)] x37_4 := dkN_le1 1 k37_0 dp2 (dkc_nle c1) rfl
        refine lv_aload_n hx hb dX5_row_43 rfl (lv_at hl 0 rfl) ?_
        refine dk_get (k := 0) hx hb hts iX5_row_5 hown hK (dk_at0 hW) rfl 0 (by decide) (hts (.fieldLink RX5 11 "DogKings" "items" "[[I") (List.mem_of_getElem? (i := 2) rfl)) rfl dX5_row_44 ?_
        refine lv_iload_n hx hb dX5_row_47 rfl (lv_at hl 1 rfl) ?_
        obtain ⟨rf7, hrf7, erf7⟩ := dk_rowAt (z := z) (dkN_in (n := 8) dp0 rfl)
        refine dk_rld (r := z + rf7) hx hb hK (dk_at1 hW) (dkN_in (n := 8) dp0 rfl) erf7 dX5_row_48 ?_
        refine lv_iload hx hb dX5_row_49 (lv_at hl 4 rfl) ?_
        refine lv_iconst (v := 0) hx hb dX5_row_51 (by decide) ?_
        refine dk_ist (k := rf7) hx hb hK hW (dkC_R g z hrf7) (by omega) hS (dkN_in (n := 40) d6 rfl) dX5_row_52 (fun I8 H8 L8 eI8 hW hS => ?_)
        have hO := dkO_setR hO hrf7 eI8
        have hF := dkF_set hF eI8 (dkIn_R hrf7 (dk_clt _) rfl)
        obtain ⟨v9, ev9⟩ : ∃ y : Int32, y = x37_4 + 1 := ⟨_, rfl⟩
        have dv9 : dkN [(1, 40)] v9 := by rw [ev9]; exact dkN_add d6 (dkN_lit (x := 1) (1) rfl) rfl
        refine lv_iinc (v := v9) (lv' := [(4, .int v9), (0, .ref (z + 0)), (1, .int p0), (2, .int p1), (3, .int p2)]) hx hb dX5_row_53 hl (k := 4) rfl (by rw [ev9]; rfl) (by decide) rfl (fun ls hl => ?_)
        refine lv_goto (tgt := 37) hx hb dX5_row_56 (by decide) ?_
        exact ih37 I8 _ _ ls v9 (dk_near hn37 (by rw [ev9]; exact dk_inc d6 rfl) (dkN_lt d6 rfl)) hW hS hF hO (dkN_sub dv9 rfl) (lv_sub hl [1, 2, 3, 4, 0] rfl)
  refine lv_iload_n hx hb dX5_row_0 rfl (lv_at hl 1 rfl) ?_
  refine dk_Si (As := [.int p0]) (rest := []) ⟨hx, hb, hml, hown, hts⟩ (c_X5_isRow_2 l g z I0 p0 dp0 hO) (va_cwS 1 hts gX5_row_X5_isRow rfl rfl rfl (by decide +kernel) ⟨Nat.le_of_ble_eq_true rfl, Nat.le_of_ble_eq_true rfl⟩) hK hT hW hS rfl hl.1 rfl (Nat.le_of_ble_eq_true rfl) dX5_row_1 ⟨Nat.zero_le _, Nat.zero_le _⟩ (fun v10 I10 H10 L10 hp10 hW hS => ?_)
  obtain ⟨hF10, hO, hc10⟩ := hp10
  have hF := dkF_call hF hF10 rfl
  obtain ⟨dv10, -⟩ := hc10
  refine lv_if_eq (tgt := 21) hx hb dX5_row_4 (by decide) (fun c11 => ?_) (fun c11 => ?_)
  ·
    exact (dkN_nil (show dkN [] v10 from dkN_eq1 dv10 (dkN_lit (x := 0) (0) rfl) (congrArg Int32.toInt c11) rfl)).elim
  ·
    refine lv_iload_n hx hb dX5_row_7 rfl (lv_at hl 2 rfl) ?_
    refine lv_iconst (v := 2) hx hb dX5_row_8 (by decide) ?_
    refine dk_Si (As := [.int p1, .int 2]) (rest := []) ⟨hx, hb, hml, hown, hts⟩ (c_X5_isUpTo_11 l g z I10 p1 2 dp1 (dkN_lit (x := 2) (2) rfl) hO) (va_cwS 2 hts gX5_row_X5_isUpTo rfl rfl rfl (by decide +kernel) ⟨Nat.le_of_ble_eq_true rfl, Nat.le_of_ble_eq_true rfl⟩) hK hT hW hS rfl hl.1 rfl (Nat.le_of_ble_eq_true rfl) dX5_row_9 ⟨Nat.zero_le _, Nat.zero_le _⟩ (fun v12 I12 H12 L12 hp12 hW hS => ?_)
    obtain ⟨hF12, hO, hc12⟩ := hp12
    have hF := dkF_call hF hF12 rfl
    obtain ⟨dv12, -⟩ := hc12
    refine lv_if_eq (tgt := 21) hx hb dX5_row_12 (by decide) (fun c13 => ?_) (fun c13 => ?_)
    ·
      exact (dkN_nil (show dkN [] v12 from dkN_eq1 dv12 (dkN_lit (x := 0) (0) rfl) (congrArg Int32.toInt c13) rfl)).elim
    ·
      refine lv_iload_n hx hb dX5_row_15 rfl (lv_at hl 3 rfl) ?_
      refine lv_bipush (v := 40) hx hb dX5_row_16 (by decide) ?_
      refine lv_icmp_le (tgt := 24) hx hb dX5_row_18 (by decide) (fun c14 => ?_) (fun c14 => ?_)
      ·
        refine lv_iload_n hx hb dX5_row_24 rfl (lv_at hl 3 rfl) ?_
        refine lv_if_ge (tgt := 34) hx hb dX5_row_25 (by decide) (fun c15 => ?_) (fun c15 => ?_)
        ·
          refine lv_iconst (v := 0) hx hb dX5_row_34 (by decide) ?_
          refine lv_istore (lv' := [(4, .int 0), (0, .ref (z + 0)), (1, .int p0), (2, .int p1), (3, .int p2)]) hx hb dX5_row_35 hl (by decide) rfl (fun ls hl => ?_)
          exact C37 _ I12 _ _ ls 0 (Nat.lt_succ_self _) hW hS hF hO (dkN_sub (dkN_lit (x := 0) (0) rfl) rfl) (lv_sub hl [1, 2, 3, 4, 0] rfl)
        ·
          exact (dkN_nil (show dkN [] 0 from dkN_le2 1 dp2 (dkN_lit (x := 0) (0) rfl) (dkc_nle c15) rfl)).elim
      ·
        exact (dkN_nil (show dkN [] p2 from dkN_le2 1 (dkN_lit (x := 40) (40) rfl) dp2 (dkc_nle c14) rfl)).elim
set_option maxHeartbeats 4000000 in
set_option maxRecDepth 100000 in
theorem c_X6_row_4 (l : Launch) (g : dkG) (z : Nat) (I0 : dkI) (p0 : Int32) (p1 : Int32) (p2 : Int32) (dp0 : dkN [(0, 7)] p0) (dp1 : dkN [(0, 2)] p1) (dp2 : dkN [(0, 40)] p2)  (hO : dkOk I0) : Met l yX6_row wsX6_row (dkR 2) (dkPc g z [.ref (z + 340), .int p0, .int p1, .int p2] I0) (dkQi g z (fun r I1 => dkF [(340, 340, 4, 4), (341, 341, 0, 7), (342, 342, 0, 7), (343, 343, 0, 319)] I0 I1 ∧ dkOk I1 ∧ r = p2 ∧ ((dkN [(0, 40)] r ∧ dkN [(0, 0)] (I1 340 4) ∧ True)))) 0 0 (dkA z) := by
  refine Met.ofW (cc := cX6_row) (maxL := 5) (ret := (some .int)) (by decide) rfl ?_
  intro p e s m args below meth c s₁ B hml hv
  obtain ⟨ha, hW, hK, hT⟩ := hv
  have hx := B.exec
  have hb := B.bytes
  have hr := B.returns
  have hts := atoms_spec (ws := wsX6_row) B.pre
  have hown : s.vm.findClass RX6 = some m.cls := findClass_of_methodNamed B.named
  have hlocks := B.notSynchronized
  have hS : va_S (dkA z) s.heap s.heap [] := va_S.rf
  have hF : dkF [(340, 340, 4, 4), (341, 341, 0, 7), (342, 342, 0, 7), (343, 343, 0, 319)] I0 I0 := dkF_rf _ _
  have hl := lv_entry ([.ref (z + 340), .int p0, .int p1, .int p2]) (n := 5) (Nat.le_of_ble_eq_true rfl)
  have hgo : entryFrame m args 5 = entryFrame m ([.ref (z + 340), .int p0, .int p1, .int p2] : List Value).toArray 5 := by rw [ha]
  rw [hgo, lg_entry_eq]
  generalize (lg_sl ([.ref (z + 340), .int p0, .int p1, .int p2]) ++ List.replicate (5 - (lg_sl ([.ref (z + 340), .int p0, .int p1, .int p2])).length) Slot.unset).toArray = ls at hl ⊢
  have hl : lv_has ls 5 [(0, .ref (z + 340)), (1, .int p0), (2, .int p1), (3, .int p2)] := hl
  have C52 : ∀ (n : Nat), ∀ (I : dkI) (H : Heap) (locs : List Loc) (ls : Array Slot) (x52_4 : Int32), (40 - x52_4.toInt).toNat < n → dkW g z I H → va_S (dkA z) s.heap H locs → dkF [(340, 340, 4, 4), (341, 341, 0, 7), (342, 342, 0, 7), (343, 343, 0, 319)] I0 I → dkOk I → dkN [(0, 40)] x52_4 → lv_has ls 5 [(0, .ref (z + 340)), (1, .int p0), (2, .int p1), (3, .int p2), (4, .int x52_4)] → W p l e (headSpec wsX6_row (dkR 2)).room s m args below meth c H locs 0 0 (MQ below (dkQi g z (fun r I1 => dkF [(340, 340, 4, 4), (341, 341, 0, 7), (342, 342, 0, 7), (343, 343, 0, 319)] I0 I1 ∧ dkOk I1 ∧ r = p2 ∧ ((dkN [(0, 40)] r ∧ dkN [(0, 0)] (I1 340 4) ∧ True)))) args s 0 0 (dkA z)) (F0 m 52 ls []) := by
    intro n
    induction n with
    | zero => intro I H locs ls x52_4 hn; exact absurd hn (Nat.not_lt_zero _)
    | succ n ih52 =>
      intro I52_ H locs ls x52_4 hn52 hW hS hF_52 hO k52_0 hl
      have hF := hF_52
      refine lv_iload hx hb dX6_row_52 (lv_at hl 4 rfl) ?_
      refine lv_bipush (v := 40) hx hb dX6_row_54 (by decide) ?_
      refine lv_icmp_ge (tgt := 78) hx hb dX6_row_56 (by decide) (fun c1 => ?_) (fun c1 => ?_)
      ·
        have d2 : dkN [(40, 40)] x52_4 := dkN_le2 0 (dkN_lit (x := 40) (40) rfl) k52_0 (dkc_le c1) rfl
        refine lv_aload_n hx hb dX6_row_78 rfl (lv_at hl 0 rfl) ?_
        refine lv_iload_n hx hb dX6_row_79 rfl (lv_at hl 3 rfl) ?_
        refine dk_Vi (As := [.int p2]) (rest := []) ⟨hx, hb, hml, hown, hts⟩ (c_X6_well_0 l g z I52_ p2 dp2 hO) (cwV 1 hts gX6_row_X6_well rfl rfl rfl (by decide +kernel) ⟨Nat.le_of_ble_eq_true rfl, Nat.le_of_ble_eq_true rfl⟩) (dk_at340 hW) rfl hK hT hW hS rfl hl.1 rfl (Nat.le_of_ble_eq_true rfl) dX6_row_80 ⟨Nat.zero_le _, Nat.zero_le _⟩ (fun v3 I3 H3 L3 hp3 hW hS => ?_)
        obtain ⟨hF3, hO, ev3, hc3⟩ := hp3
        have hF := dkF_call hF hF3 rfl
        obtain ⟨dv3, f3_340_4, -⟩ := hc3
        rw [ev3]
        exact W.iret (v := p2) hx hb hr (fun t ht hW9 => ⟨⟨p2, I3, rfl, ⟨hF, hO, rfl, ⟨dkN_sub dp2 rfl, (show dkN [(0, 0)] (I3 340 4) from dkN_sub f3_340_4 rfl), trivial⟩⟩, dkW_eq ht hW⟩, hS.F ht⟩) hS.2.2 dX6_row_83
      ·
        have d4 : dkN [(0, 39)] x52_4 := dkN_le1 1 k52_0 (dkN_lit (x := 40) (40) rfl) (dkc_nle c1) rfl
        refine lv_aload_n hx hb dX6_row_59 rfl (lv_at hl 0 rfl) ?_
        refine dk_get (k := 340) hx hb hts iX6_row_6 hown hK (dk_at340 hW) rfl 2 (by decide) (hts (.fieldLink RX6 16 "DogKingsModel" "items" "[I") (List.mem_of_getElem? (i := 4) rfl)) rfl dX6_row_60 ?_
        refine lv_bipush (v := 40) hx hb dX6_row_63 (by decide) ?_
        refine lv_iload_n hx hb dX6_row_65 rfl (lv_at hl 1 rfl) ?_
        refine lv_imul hx hb dX6_row_66 ?_
        refine lv_topi (fun v5 ev5 => ?_)
        have dv5 : dkN [(0, 280)] v5 := by rw [ev5]; exact dkN_mulL 40 (by decide) (dkN_lit (x := 40) (40) rfl) dp0 rfl
        refine lv_iload hx hb dX6_row_67 (lv_at hl 4 rfl) ?_
        refine lv_iadd hx hb dX6_row_69 ?_
        refine lv_topi (fun v6 ev6 => ?_)
        have dv6 : dkN [(0, 319)] v6 := by rw [ev6]; exact dkN_add dv5 d4 rfl
        refine lv_iconst (v := 0) hx hb dX6_row_70 (by decide) ?_
        refine dk_ist (k := 343) hx hb hK hW (fun _ => rfl) (by decide) hS (dkN_in (n := 320) dv6 rfl) dX6_row_71 (fun I7 H7 L7 eI7 hW hS => ?_)
        have hO := dkO_set hO eI7 (dkN_sub (dkN_lit (x := 0) (0) rfl) rfl)
        have hF := dkF_set hF eI7 (dkIn_v dv6 rfl)
        obtain ⟨v8, ev8⟩ : ∃ y : Int32, y = x52_4 + 1 := ⟨_, rfl⟩
        have dv8 : dkN [(1, 40)] v8 := by rw [ev8]; exact dkN_add d4 (dkN_lit (x := 1) (1) rfl) rfl
        refine lv_iinc (v := v8) (lv' := [(4, .int v8), (0, .ref (z + 340)), (1, .int p0), (2, .int p1), (3, .int p2)]) hx hb dX6_row_72 hl (k := 4) rfl (by rw [ev8]; rfl) (by decide) rfl (fun ls hl => ?_)
        refine lv_goto (tgt := 52) hx hb dX6_row_75 (by decide) ?_
        exact ih52 I7 _ _ ls v8 (dk_near hn52 (by rw [ev8]; exact dk_inc d4 rfl) (dkN_lt d4 rfl)) hW hS hF hO (dkN_sub dv8 rfl) (lv_sub hl [1, 2, 3, 4, 0] rfl)
  refine lv_iload_n hx hb dX6_row_0 rfl (lv_at hl 1 rfl) ?_
  refine dk_Si (As := [.int p0]) (rest := []) ⟨hx, hb, hml, hown, hts⟩ (c_X6_isRow_2 l g z I0 p0 dp0 hO) (va_cwS 1 hts gX6_row_X6_isRow rfl rfl rfl (by decide +kernel) ⟨Nat.le_of_ble_eq_true rfl, Nat.le_of_ble_eq_true rfl⟩) hK hT hW hS rfl hl.1 rfl (Nat.le_of_ble_eq_true rfl) dX6_row_1 ⟨Nat.zero_le _, Nat.zero_le _⟩ (fun v9 I9 H9 L9 hp9 hW hS => ?_)
  obtain ⟨hF9, hO, hc9⟩ := hp9
  have hF := dkF_call hF hF9 rfl
  obtain ⟨dv9, -⟩ := hc9
  refine lv_if_eq (tgt := 22) hx hb dX6_row_4 (by decide) (fun c10 => ?_) (fun c10 => ?_)
  ·
    exact (dkN_nil (show dkN [] v9 from dkN_eq1 dv9 (dkN_lit (x := 0) (0) rfl) (congrArg Int32.toInt c10) rfl)).elim
  ·
    refine lv_iload_n hx hb dX6_row_7 rfl (lv_at hl 2 rfl) ?_
    refine lv_iconst (v := 0) hx hb dX6_row_8 (by decide) ?_
    refine lv_iconst (v := 2) hx hb dX6_row_9 (by decide) ?_
    refine dk_Si (As := [.int p1, .int 0, .int 2]) (rest := []) ⟨hx, hb, hml, hown, hts⟩ (c_X6_in_25 l g z I9 p1 0 2 dp1 (dkN_lit (x := 0) (0) rfl) (dkN_lit (x := 2) (2) rfl) hO) (va_cwS 3 hts gX6_row_X6_in rfl rfl rfl (by decide +kernel) ⟨Nat.le_of_ble_eq_true rfl, Nat.le_of_ble_eq_true rfl⟩) hK hT hW hS rfl hl.1 rfl (Nat.le_of_ble_eq_true rfl) dX6_row_10 ⟨Nat.zero_le _, Nat.zero_le _⟩ (fun v11 I11 H11 L11 hp11 hW hS => ?_)
    obtain ⟨hF11, hO, hc11⟩ := hp11
    have hF := dkF_call hF hF11 rfl
    obtain ⟨dv11, -⟩ := hc11
    refine lv_if_eq (tgt := 22) hx hb dX6_row_13 (by decide) (fun c12 => ?_) (fun c12 => ?_)
    ·
      exact (dkN_nil (show dkN [] v11 from dkN_eq1 dv11 (dkN_lit (x := 0) (0) rfl) (congrArg Int32.toInt c12) rfl)).elim
    ·
      refine lv_iload_n hx hb dX6_row_16 rfl (lv_at hl 3 rfl) ?_
      refine lv_bipush (v := 40) hx hb dX6_row_17 (by decide) ?_
      refine lv_icmp_le (tgt := 25) hx hb dX6_row_19 (by decide) (fun c13 => ?_) (fun c13 => ?_)
      ·
        refine lv_iload_n hx hb dX6_row_25 rfl (lv_at hl 3 rfl) ?_
        refine lv_if_ge (tgt := 35) hx hb dX6_row_26 (by decide) (fun c14 => ?_) (fun c14 => ?_)
        ·
          refine lv_aload_n hx hb dX6_row_35 rfl (lv_at hl 0 rfl) ?_
          refine dk_get (k := 340) hx hb hts iX6_row_6 hown hK (dk_at340 hW) rfl 0 (by decide) (hts (.fieldLink RX6 7 "DogKingsModel" "lane" "[I") (List.mem_of_getElem? (i := 2) rfl)) rfl dX6_row_36 ?_
          refine lv_iload_n hx hb dX6_row_39 rfl (lv_at hl 1 rfl) ?_
          refine lv_iload_n hx hb dX6_row_40 rfl (lv_at hl 2 rfl) ?_
          refine dk_ist (k := 341) hx hb hK hW (fun _ => rfl) (by decide) hS (dkN_in (n := 8) dp0 rfl) dX6_row_41 (fun I15 H15 L15 eI15 hW hS => ?_)
          have hO := dkO_set hO eI15 (dkN_sub dp1 rfl)
          have hF := dkF_set hF eI15 (dkIn_v dp0 rfl)
          refine lv_aload_n hx hb dX6_row_42 rfl (lv_at hl 0 rfl) ?_
          refine dk_get (k := 340) hx hb hts iX6_row_6 hown hK (dk_at340 hW) rfl 1 (by decide) (hts (.fieldLink RX6 13 "DogKingsModel" "many" "[I") (List.mem_of_getElem? (i := 3) rfl)) rfl dX6_row_43 ?_
          refine lv_iload_n hx hb dX6_row_46 rfl (lv_at hl 1 rfl) ?_
          refine lv_iload_n hx hb dX6_row_47 rfl (lv_at hl 3 rfl) ?_
          refine dk_ist (k := 342) hx hb hK hW (fun _ => rfl) (by decide) hS (dkN_in (n := 8) dp0 rfl) dX6_row_48 (fun I16 H16 L16 eI16 hW hS => ?_)
          have hO := dkO_set hO eI16 (dkN_sub dp2 rfl)
          have hF := dkF_set hF eI16 (dkIn_v dp0 rfl)
          refine lv_iconst (v := 0) hx hb dX6_row_49 (by decide) ?_
          refine lv_istore (lv' := [(4, .int 0), (0, .ref (z + 340)), (1, .int p0), (2, .int p1), (3, .int p2)]) hx hb dX6_row_50 hl (by decide) rfl (fun ls hl => ?_)
          exact C52 _ I16 _ _ ls 0 (Nat.lt_succ_self _) hW hS hF hO (dkN_sub (dkN_lit (x := 0) (0) rfl) rfl) (lv_sub hl [1, 2, 3, 4, 0] rfl)
        ·
          exact (dkN_nil (show dkN [] 0 from dkN_le2 1 dp2 (dkN_lit (x := 0) (0) rfl) (dkc_nle c14) rfl)).elim
      ·
        exact (dkN_nil (show dkN [] p2 from dkN_le2 1 (dkN_lit (x := 40) (40) rfl) dp2 (dkc_nle c13) rfl)).elim
set_option maxHeartbeats 4000000 in
set_option maxRecDepth 100000 in
theorem c_X5_row_5 (l : Launch) (g : dkG) (z : Nat) (I0 : dkI) (p0 : Int32) (p1 : Int32) (p2 : Int32) (dp0 : dkN [(0, 7)] p0) (dp1 : dkN [(0, 2)] p1) (dp2 : dkN [(41, 2147483647)] p2)  (hO : dkOk I0) : Met l yX5_row wsX5_row (dkR 2) (dkPc g z [.ref (z + 0), .int p0, .int p1, .int p2] I0) (dkQi g z (fun r I1 => dkF [] I0 I1 ∧ dkOk I1 ∧ ((dkN [(-1000001, -1000001)] r ∧ True)))) 0 0 (dkA z) := by
  refine Met.ofW (cc := cX5_row) (maxL := 5) (ret := (some .int)) (by decide) rfl ?_
  intro p e s m args below meth c s₁ B hml hv
  obtain ⟨ha, hW, hK, hT⟩ := hv
  have hx := B.exec
  have hb := B.bytes
  have hr := B.returns
  have hts := atoms_spec (ws := wsX5_row) B.pre
  have hown : s.vm.findClass RX5 = some m.cls := findClass_of_methodNamed B.named
  have hlocks := B.notSynchronized
  have hS : va_S (dkA z) s.heap s.heap [] := va_S.rf
  have hF : dkF [] I0 I0 := dkF_rf _ _
  have hl := lv_entry ([.ref (z + 0), .int p0, .int p1, .int p2]) (n := 5) (Nat.le_of_ble_eq_true rfl)
  have hgo : entryFrame m args 5 = entryFrame m ([.ref (z + 0), .int p0, .int p1, .int p2] : List Value).toArray 5 := by rw [ha]
  rw [hgo, lg_entry_eq]
  generalize (lg_sl ([.ref (z + 0), .int p0, .int p1, .int p2]) ++ List.replicate (5 - (lg_sl ([.ref (z + 0), .int p0, .int p1, .int p2])).length) Slot.unset).toArray = ls at hl ⊢
  have hl : lv_has ls 5 [(0, .ref (z + 0)), (1, .int p0), (2, .int p1), (3, .int p2)] := hl
  refine lv_iload_n hx hb dX5_row_0 rfl (lv_at hl 1 rfl) ?_
  refine dk_Si (As := [.int p0]) (rest := []) ⟨hx, hb, hml, hown, hts⟩ (c_X5_isRow_2 l g z I0 p0 dp0 hO) (va_cwS 1 hts gX5_row_X5_isRow rfl rfl rfl (by decide +kernel) ⟨Nat.le_of_ble_eq_true rfl, Nat.le_of_ble_eq_true rfl⟩) hK hT hW hS rfl hl.1 rfl (Nat.le_of_ble_eq_true rfl) dX5_row_1 ⟨Nat.zero_le _, Nat.zero_le _⟩ (fun v1 I1 H1 L1 hp1 hW hS => ?_)
  obtain ⟨hF1, hO, hc1⟩ := hp1
  have hF := dkF_call hF hF1 rfl
  obtain ⟨dv1, -⟩ := hc1
  refine lv_if_eq (tgt := 21) hx hb dX5_row_4 (by decide) (fun c2 => ?_) (fun c2 => ?_)
  ·
    exact (dkN_nil (show dkN [] v1 from dkN_eq1 dv1 (dkN_lit (x := 0) (0) rfl) (congrArg Int32.toInt c2) rfl)).elim
  ·
    refine lv_iload_n hx hb dX5_row_7 rfl (lv_at hl 2 rfl) ?_
    refine lv_iconst (v := 2) hx hb dX5_row_8 (by decide) ?_
    refine dk_Si (As := [.int p1, .int 2]) (rest := []) ⟨hx, hb, hml, hown, hts⟩ (c_X5_isUpTo_11 l g z I1 p1 2 dp1 (dkN_lit (x := 2) (2) rfl) hO) (va_cwS 2 hts gX5_row_X5_isUpTo rfl rfl rfl (by decide +kernel) ⟨Nat.le_of_ble_eq_true rfl, Nat.le_of_ble_eq_true rfl⟩) hK hT hW hS rfl hl.1 rfl (Nat.le_of_ble_eq_true rfl) dX5_row_9 ⟨Nat.zero_le _, Nat.zero_le _⟩ (fun v3 I3 H3 L3 hp3 hW hS => ?_)
    obtain ⟨hF3, hO, hc3⟩ := hp3
    have hF := dkF_call hF hF3 rfl
    obtain ⟨dv3, -⟩ := hc3
    refine lv_if_eq (tgt := 21) hx hb dX5_row_12 (by decide) (fun c4 => ?_) (fun c4 => ?_)
    ·
      exact (dkN_nil (show dkN [] v3 from dkN_eq1 dv3 (dkN_lit (x := 0) (0) rfl) (congrArg Int32.toInt c4) rfl)).elim
    ·
      refine lv_iload_n hx hb dX5_row_15 rfl (lv_at hl 3 rfl) ?_
      refine lv_bipush (v := 40) hx hb dX5_row_16 (by decide) ?_
      refine lv_icmp_le (tgt := 24) hx hb dX5_row_18 (by decide) (fun c5 => ?_) (fun c5 => ?_)
      ·
        exact (dkN_nil (show dkN [] p2 from dkN_le1 0 dp2 (dkN_lit (x := 40) (40) rfl) (dkc_le c5) rfl)).elim
      ·
        refine lv_ldc (v := (-1000001)) hx hb hown (hts (.constant RX5 70 (-1000001)) (List.mem_of_getElem? (i := 1) rfl)) dX5_row_21 ?_
        exact W.iret (v := (-1000001)) hx hb hr (fun t ht hW9 => ⟨⟨(-1000001), I3, rfl, ⟨hF, hO, ⟨dkN_sub (dkN_lit (x := (-1000001)) (-1000001) rfl) rfl, trivial⟩⟩, dkW_eq ht hW⟩, hS.F ht⟩) hS.2.2 dX5_row_23
set_option maxHeartbeats 4000000 in
set_option maxRecDepth 100000 in
theorem c_X6_row_5 (l : Launch) (g : dkG) (z : Nat) (I0 : dkI) (p0 : Int32) (p1 : Int32) (p2 : Int32) (dp0 : dkN [(0, 7)] p0) (dp1 : dkN [(0, 2)] p1) (dp2 : dkN [(41, 2147483647)] p2)  (hO : dkOk I0) : Met l yX6_row wsX6_row (dkR 2) (dkPc g z [.ref (z + 340), .int p0, .int p1, .int p2] I0) (dkQi g z (fun r I1 => dkF [] I0 I1 ∧ dkOk I1 ∧ ((dkN [(-1000001, -1000001)] r ∧ True)))) 0 0 (dkA z) := by
  refine Met.ofW (cc := cX6_row) (maxL := 5) (ret := (some .int)) (by decide) rfl ?_
  intro p e s m args below meth c s₁ B hml hv
  obtain ⟨ha, hW, hK, hT⟩ := hv
  have hx := B.exec
  have hb := B.bytes
  have hr := B.returns
  have hts := atoms_spec (ws := wsX6_row) B.pre
  have hown : s.vm.findClass RX6 = some m.cls := findClass_of_methodNamed B.named
  have hlocks := B.notSynchronized
  have hS : va_S (dkA z) s.heap s.heap [] := va_S.rf
  have hF : dkF [] I0 I0 := dkF_rf _ _
  have hl := lv_entry ([.ref (z + 340), .int p0, .int p1, .int p2]) (n := 5) (Nat.le_of_ble_eq_true rfl)
  have hgo : entryFrame m args 5 = entryFrame m ([.ref (z + 340), .int p0, .int p1, .int p2] : List Value).toArray 5 := by rw [ha]
  rw [hgo, lg_entry_eq]
  generalize (lg_sl ([.ref (z + 340), .int p0, .int p1, .int p2]) ++ List.replicate (5 - (lg_sl ([.ref (z + 340), .int p0, .int p1, .int p2])).length) Slot.unset).toArray = ls at hl ⊢
  have hl : lv_has ls 5 [(0, .ref (z + 340)), (1, .int p0), (2, .int p1), (3, .int p2)] := hl
  refine lv_iload_n hx hb dX6_row_0 rfl (lv_at hl 1 rfl) ?_
  refine dk_Si (As := [.int p0]) (rest := []) ⟨hx, hb, hml, hown, hts⟩ (c_X6_isRow_2 l g z I0 p0 dp0 hO) (va_cwS 1 hts gX6_row_X6_isRow rfl rfl rfl (by decide +kernel) ⟨Nat.le_of_ble_eq_true rfl, Nat.le_of_ble_eq_true rfl⟩) hK hT hW hS rfl hl.1 rfl (Nat.le_of_ble_eq_true rfl) dX6_row_1 ⟨Nat.zero_le _, Nat.zero_le _⟩ (fun v1 I1 H1 L1 hp1 hW hS => ?_)
  obtain ⟨hF1, hO, hc1⟩ := hp1
  have hF := dkF_call hF hF1 rfl
  obtain ⟨dv1, -⟩ := hc1
  refine lv_if_eq (tgt := 22) hx hb dX6_row_4 (by decide) (fun c2 => ?_) (fun c2 => ?_)
  ·
    exact (dkN_nil (show dkN [] v1 from dkN_eq1 dv1 (dkN_lit (x := 0) (0) rfl) (congrArg Int32.toInt c2) rfl)).elim
  ·
    refine lv_iload_n hx hb dX6_row_7 rfl (lv_at hl 2 rfl) ?_
    refine lv_iconst (v := 0) hx hb dX6_row_8 (by decide) ?_
    refine lv_iconst (v := 2) hx hb dX6_row_9 (by decide) ?_
    refine dk_Si (As := [.int p1, .int 0, .int 2]) (rest := []) ⟨hx, hb, hml, hown, hts⟩ (c_X6_in_25 l g z I1 p1 0 2 dp1 (dkN_lit (x := 0) (0) rfl) (dkN_lit (x := 2) (2) rfl) hO) (va_cwS 3 hts gX6_row_X6_in rfl rfl rfl (by decide +kernel) ⟨Nat.le_of_ble_eq_true rfl, Nat.le_of_ble_eq_true rfl⟩) hK hT hW hS rfl hl.1 rfl (Nat.le_of_ble_eq_true rfl) dX6_row_10 ⟨Nat.zero_le _, Nat.zero_le _⟩ (fun v3 I3 H3 L3 hp3 hW hS => ?_)
    obtain ⟨hF3, hO, hc3⟩ := hp3
    have hF := dkF_call hF hF3 rfl
    obtain ⟨dv3, -⟩ := hc3
    refine lv_if_eq (tgt := 22) hx hb dX6_row_13 (by decide) (fun c4 => ?_) (fun c4 => ?_)
    ·
      exact (dkN_nil (show dkN [] v3 from dkN_eq1 dv3 (dkN_lit (x := 0) (0) rfl) (congrArg Int32.toInt c4) rfl)).elim
    ·
      refine lv_iload_n hx hb dX6_row_16 rfl (lv_at hl 3 rfl) ?_
      refine lv_bipush (v := 40) hx hb dX6_row_17 (by decide) ?_
      refine lv_icmp_le (tgt := 25) hx hb dX6_row_19 (by decide) (fun c5 => ?_) (fun c5 => ?_)
      ·
        exact (dkN_nil (show dkN [] p2 from dkN_le1 0 dp2 (dkN_lit (x := 40) (40) rfl) (dkc_le c5) rfl)).elim
      ·
        refine lv_ldc (v := (-1000001)) hx hb hown (hts (.constant RX6 64 (-1000001)) (List.mem_of_getElem? (i := 1) rfl)) dX6_row_22 ?_
        exact W.iret (v := (-1000001)) hx hb hr (fun t ht hW9 => ⟨⟨(-1000001), I3, rfl, ⟨hF, hO, ⟨dkN_sub (dkN_lit (x := (-1000001)) (-1000001) rfl) rfl, trivial⟩⟩, dkW_eq ht hW⟩, hS.F ht⟩) hS.2.2 dX6_row_24
