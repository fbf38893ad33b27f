set_option maxHeartbeats 4000000 in
set_option maxRecDepth 100000 in
theorem c_X5_isUpTo_0 (l : Launch) (g : dkG) (z : Nat) (I0 : dkI) (p0 p1 : Int32) (dp0 : dkN [(-2147483648, -1), (8, 2147483647)] p0) (dp1 : dkN [(7, 7)] p1) : Met l yX5_isUpTo wsX5_isUpTo (dkR 0) (dkPc g z [.int p0, .int p1] I0) (dkQi g z (fun r I1 => dkN [(0, 0)] r ∧ dkF [] I0 I1 ∧ True)) 0 0 (dkA z) := by
  refine Met.ofW (cc := cX5_isUpTo) (maxL := 2) (ret := (some .boolean)) (by decide) rfl ?_
  intro p e s m args below meth c s₁ B hml hv
  obtain ⟨ha, hW, hK⟩ := hv
  have hx := B.exec
  have hb := B.bytes
  have hr := B.returns
  have hts := atoms_spec (ws := wsX5_isUpTo) B.pre
  have hown : s.vm.findClass RX5 = some m.cls := findClass_of_methodNamed B.named
  have hlocks := B.notSynchronized
  have hS : va_S (dkA z) s.heap s.heap [] := va_S.rf
  have hF : dkF [] I0 I0 := dkF_rf _ _
  have hl := lv_entry ([.int p0, .int p1]) (n := 2) (Nat.le_of_ble_eq_true rfl)
  have hgo : entryFrame m args 2 = entryFrame m ([.int p0, .int p1] : List Value).toArray 2 := by rw [ha]
  rw [hgo, lg_entry_eq]
  generalize (lg_sl ([.int p0, .int p1]) ++ List.replicate (2 - (lg_sl ([.int p0, .int p1])).length) Slot.unset).toArray = ls at hl ⊢
  have hl : lv_has ls 2 [(0, .int p0), (1, .int p1)] := hl
  refine lv_iload_n hx hb dX5_isUpTo_0 rfl (lv_at hl 0 rfl) ?_
  refine lv_if_lt (tgt := 13) hx hb dX5_isUpTo_1 (by decide) (fun c1 => ?_) (fun c1 => ?_)
  ·
    have d2 : dkN [(-2147483648, -1)] p0 := dkN_le1 1 dp0 (dkN_lit (x := 0) (0) rfl) (dkc_lt c1) rfl
    refine lv_iconst (v := 0) hx hb dX5_isUpTo_13 (by decide) ?_
    exact W.zret (v := 0) (ty := .boolean) hx hb hr rfl (fun t ht hW9 => ⟨⟨0, I0, rfl, ⟨dkN_sub (dkN_lit (x := 0) (0) rfl) rfl, hF, trivial⟩, dkW_eq ht hW⟩, hS.F ht⟩) hS.2.2 dX5_isUpTo_14
  ·
    have d3 : dkN [(8, 2147483647)] p0 := dkN_le2 0 (dkN_lit (x := 0) (0) rfl) dp0 (dkc_nlt c1) rfl
    refine lv_iload_n hx hb dX5_isUpTo_4 rfl (lv_at hl 0 rfl) ?_
    refine lv_iload_n hx hb dX5_isUpTo_5 rfl (lv_at hl 1 rfl) ?_
    refine lv_icmp_gt (tgt := 13) hx hb dX5_isUpTo_6 (by decide) (fun c4 => ?_) (fun c4 => ?_)
    ·
      refine lv_iconst (v := 0) hx hb dX5_isUpTo_13 (by decide) ?_
      exact W.zret (v := 0) (ty := .boolean) hx hb hr rfl (fun t ht hW9 => ⟨⟨0, I0, rfl, ⟨dkN_sub (dkN_lit (x := 0) (0) rfl) rfl, hF, trivial⟩, dkW_eq ht hW⟩, hS.F ht⟩) hS.2.2 dX5_isUpTo_14
    ·
      exact (dkN_nil (show dkN [] p1 from dkN_le2 0 d3 dp1 (dkc_nlt c4) rfl)).elim
set_option maxHeartbeats 4000000 in
set_option maxRecDepth 100000 in
theorem c_X5_isRow_0 (l : Launch) (g : dkG) (z : Nat) (I0 : dkI) (p0 : Int32) (dp0 : dkN [(-2147483648, -1), (8, 2147483647)] p0) : Met l yX5_isRow wsX5_isRow (dkR 1) (dkPc g z [.int p0] I0) (dkQi g z (fun r I1 => dkN [(0, 0)] r ∧ dkF [] I0 I1 ∧ True)) 0 0 (dkA z) := by
  refine Met.ofW (cc := cX5_isRow) (maxL := 1) (ret := (some .boolean)) (by decide) rfl ?_
  intro p e s m args below meth c s₁ B hml hv
  obtain ⟨ha, hW, hK⟩ := hv
  have hx := B.exec
  have hb := B.bytes
  have hr := B.returns
  have hts := atoms_spec (ws := wsX5_isRow) B.pre
  have hown : s.vm.findClass RX5 = some m.cls := findClass_of_methodNamed B.named
  have hlocks := B.notSynchronized
  have hS : va_S (dkA z) s.heap s.heap [] := va_S.rf
  have hF : dkF [] I0 I0 := dkF_rf _ _
  have hl := lv_entry ([.int p0]) (n := 1) (Nat.le_of_ble_eq_true rfl)
  have hgo : entryFrame m args 1 = entryFrame m ([.int p0] : List Value).toArray 1 := by rw [ha]
  rw [hgo, lg_entry_eq]
  generalize (lg_sl ([.int p0]) ++ List.replicate (1 - (lg_sl ([.int p0])).length) Slot.unset).toArray = ls at hl ⊢
  have hl : lv_has ls 1 [(0, .int p0)] := hl
  refine lv_iload_n hx hb dX5_isRow_0 rfl (lv_at hl 0 rfl) ?_
  refine lv_bipush (v := 7) hx hb dX5_isRow_1 (by decide) ?_
  refine dk_Si (As := [.int p0, .int 7]) (rest := []) ⟨hx, hb, hml, hown, hts⟩ (c_X5_isUpTo_0 l g z I0 p0 7 dp0 (dkN_lit (x := 7) (7) rfl)) (va_cwS 2 hts gX5_isRow_X5_isUpTo rfl rfl rfl (by decide +kernel) ⟨Nat.le_of_ble_eq_true rfl, Nat.le_of_ble_eq_true rfl⟩) hK hW hS rfl hl.1 rfl (Nat.le_of_ble_eq_true rfl) dX5_isRow_3 ⟨Nat.zero_le _, Nat.zero_le _⟩ (fun v1 I1 H1 L1 hp1 hW hS => ?_)
  obtain ⟨dv1, hF1, -⟩ := hp1
  have hF := dkF_call hF hF1 rfl
  exact W.zret (v := v1) (ty := .boolean) hx hb hr (dkN_zr dv1 rfl) (fun t ht hW9 => ⟨⟨v1, I1, rfl, ⟨dkN_sub dv1 rfl, hF, trivial⟩, dkW_eq ht hW⟩, hS.F ht⟩) hS.2.2 dX5_isRow_6
set_option maxHeartbeats 4000000 in
set_option maxRecDepth 100000 in
theorem c_X5_row_0 (l : Launch) (g : dkG) (z : Nat) (I0 : dkI) (p0 p1 p2 : Int32) (dp0 : dkN [(-2147483648, -1), (8, 2147483647)] p0) : Met l yX5_row wsX5_row (dkR 2) (dkPc g z [.ref (z + 0), .int p0, .int p1, .int p2] I0) (dkQi g z (fun r I1 => dkN [(-1000001, -1000001)] r ∧ dkF [] I0 I1 ∧ True)) 0 0 (dkA z) := by
  refine Met.ofW (cc := cX5_row) (maxL := 5) (ret := (some .int)) (by decide) rfl ?_
  intro p e s m args below meth c s₁ B hml hv
  obtain ⟨ha, hW, hK⟩ := hv
  have hx := B.exec
  have hb := B.bytes
  have hr := B.returns
  have hts := atoms_spec (ws := wsX5_row) B.pre
  have hown : s.vm.findClass RX5 = some m.cls := findClass_of_methodNamed B.named
  have hlocks := B.notSynchronized
  have hS : va_S (dkA z) s.heap s.heap [] := va_S.rf
  have hF : dkF [] I0 I0 := dkF_rf _ _
  have hl := lv_entry ([.ref (z + 0), .int p0, .int p1, .int p2]) (n := 5) (Nat.le_of_ble_eq_true rfl)
  have hgo : entryFrame m args 5 = entryFrame m ([.ref (z + 0), .int p0, .int p1, .int p2] : List Value).toArray 5 := by rw [ha]
  rw [hgo, lg_entry_eq]
  generalize (lg_sl ([.ref (z + 0), .int p0, .int p1, .int p2]) ++ List.replicate (5 - (lg_sl ([.ref (z + 0), .int p0, .int p1, .int p2])).length) Slot.unset).toArray = ls at hl ⊢
  have hl : lv_has ls 5 [(0, .ref (z + 0)), (1, .int p0), (2, .int p1), (3, .int p2)] := hl
  refine lv_iload_n hx hb dX5_row_0 rfl (lv_at hl 1 rfl) ?_
  refine dk_Si (As := [.int p0]) (rest := []) ⟨hx, hb, hml, hown, hts⟩ (c_X5_isRow_0 l g z I0 p0 dp0) (va_cwS 1 hts gX5_row_X5_isRow rfl rfl rfl (by decide +kernel) ⟨Nat.le_of_ble_eq_true rfl, Nat.le_of_ble_eq_true rfl⟩) hK hW hS rfl hl.1 rfl (Nat.le_of_ble_eq_true rfl) dX5_row_1 ⟨Nat.zero_le _, Nat.zero_le _⟩ (fun v1 I1 H1 L1 hp1 hW hS => ?_)
  obtain ⟨dv1, hF1, -⟩ := hp1
  have hF := dkF_call hF hF1 rfl
  refine lv_if_eq (tgt := 21) hx hb dX5_row_4 (by decide) (fun c2 => ?_) (fun c2 => ?_)
  ·
    refine lv_ldc (v := (-1000001)) hx hb hown (hts (.constant RX5 70 (-1000001)) (List.mem_of_getElem? (i := 1) rfl)) dX5_row_21 ?_
    exact W.iret (v := (-1000001)) hx hb hr (fun t ht hW9 => ⟨⟨(-1000001), I1, rfl, ⟨dkN_sub (dkN_lit (x := -1000001) (-1000001) rfl) rfl, hF, trivial⟩, dkW_eq ht hW⟩, hS.F ht⟩) hS.2.2 dX5_row_23
  ·
    exact (dkN_nil (show dkN [] v1 from dkN_ne1 (0) dv1 (dkN_lit (x := 0) (0) rfl) (dk_ne c2) rfl)).elim
set_option maxHeartbeats 4000000 in
set_option maxRecDepth 100000 in
theorem c_X6_in_0 (l : Launch) (g : dkG) (z : Nat) (I0 : dkI) (p0 p1 p2 : Int32) (dp0 : dkN [(-2147483648, -1), (8, 2147483647)] p0) (dp1 : dkN [(0, 0)] p1) (dp2 : dkN [(7, 7)] p2) : Met l yX6_in wsX6_in (dkR 0) (dkPc g z [.int p0, .int p1, .int p2] I0) (dkQi g z (fun r I1 => dkN [(0, 0)] r ∧ dkF [] I0 I1 ∧ True)) 0 0 (dkA z) := by
  refine Met.ofW (cc := cX6_in) (maxL := 3) (ret := (some .boolean)) (by decide) rfl ?_
  intro p e s m args below meth c s₁ B hml hv
  obtain ⟨ha, hW, hK⟩ := hv
  have hx := B.exec
  have hb := B.bytes
  have hr := B.returns
  have hts := atoms_spec (ws := wsX6_in) B.pre
  have hown : s.vm.findClass RX6 = some m.cls := findClass_of_methodNamed B.named
  have hlocks := B.notSynchronized
  have hS : va_S (dkA z) s.heap s.heap [] := va_S.rf
  have hF : dkF [] I0 I0 := dkF_rf _ _
  have hl := lv_entry ([.int p0, .int p1, .int p2]) (n := 3) (Nat.le_of_ble_eq_true rfl)
  have hgo : entryFrame m args 3 = entryFrame m ([.int p0, .int p1, .int p2] : List Value).toArray 3 := by rw [ha]
  rw [hgo, lg_entry_eq]
  generalize (lg_sl ([.int p0, .int p1, .int p2]) ++ List.replicate (3 - (lg_sl ([.int p0, .int p1, .int p2])).length) Slot.unset).toArray = ls at hl ⊢
  have hl : lv_has ls 3 [(0, .int p0), (1, .int p1), (2, .int p2)] := hl
  refine lv_iload_n hx hb dX6_in_0 rfl (lv_at hl 0 rfl) ?_
  refine lv_iload_n hx hb dX6_in_1 rfl (lv_at hl 1 rfl) ?_
  refine lv_icmp_lt (tgt := 14) hx hb dX6_in_2 (by decide) (fun c1 => ?_) (fun c1 => ?_)
  ·
    have d2 : dkN [(-2147483648, -1)] p0 := dkN_le1 1 dp0 dp1 (dkc_lt c1) rfl
    refine lv_iconst (v := 0) hx hb dX6_in_14 (by decide) ?_
    exact W.zret (v := 0) (ty := .boolean) hx hb hr rfl (fun t ht hW9 => ⟨⟨0, I0, rfl, ⟨dkN_sub (dkN_lit (x := 0) (0) rfl) rfl, hF, trivial⟩, dkW_eq ht hW⟩, hS.F ht⟩) hS.2.2 dX6_in_15
  ·
    have d3 : dkN [(8, 2147483647)] p0 := dkN_le2 0 dp1 dp0 (dkc_nlt c1) rfl
    refine lv_iload_n hx hb dX6_in_5 rfl (lv_at hl 0 rfl) ?_
    refine lv_iload_n hx hb dX6_in_6 rfl (lv_at hl 2 rfl) ?_
    refine lv_icmp_gt (tgt := 14) hx hb dX6_in_7 (by decide) (fun c4 => ?_) (fun c4 => ?_)
    ·
      refine lv_iconst (v := 0) hx hb dX6_in_14 (by decide) ?_
      exact W.zret (v := 0) (ty := .boolean) hx hb hr rfl (fun t ht hW9 => ⟨⟨0, I0, rfl, ⟨dkN_sub (dkN_lit (x := 0) (0) rfl) rfl, hF, trivial⟩, dkW_eq ht hW⟩, hS.F ht⟩) hS.2.2 dX6_in_15
    ·
      exact (dkN_nil (show dkN [] p2 from dkN_le2 0 d3 dp2 (dkc_nlt c4) rfl)).elim
set_option maxHeartbeats 4000000 in
set_option maxRecDepth 100000 in
theorem c_X6_isRow_0 (l : Launch) (g : dkG) (z : Nat) (I0 : dkI) (p0 : Int32) (dp0 : dkN [(-2147483648, -1), (8, 2147483647)] p0) : Met l yX6_isRow wsX6_isRow (dkR 1) (dkPc g z [.int p0] I0) (dkQi g z (fun r I1 => dkN [(0, 0)] r ∧ dkF [] I0 I1 ∧ True)) 0 0 (dkA z) := by
  refine Met.ofW (cc := cX6_isRow) (maxL := 1) (ret := (some .boolean)) (by decide) rfl ?_
  intro p e s m args below meth c s₁ B hml hv
  obtain ⟨ha, hW, hK⟩ := hv
  have hx := B.exec
  have hb := B.bytes
  have hr := B.returns
  have hts := atoms_spec (ws := wsX6_isRow) B.pre
  have hown : s.vm.findClass RX6 = some m.cls := findClass_of_methodNamed B.named
  have hlocks := B.notSynchronized
  have hS : va_S (dkA z) s.heap s.heap [] := va_S.rf
  have hF : dkF [] I0 I0 := dkF_rf _ _
  have hl := lv_entry ([.int p0]) (n := 1) (Nat.le_of_ble_eq_true rfl)
  have hgo : entryFrame m args 1 = entryFrame m ([.int p0] : List Value).toArray 1 := by rw [ha]
  rw [hgo, lg_entry_eq]
  generalize (lg_sl ([.int p0]) ++ List.replicate (1 - (lg_sl ([.int p0])).length) Slot.unset).toArray = ls at hl ⊢
  have hl : lv_has ls 1 [(0, .int p0)] := hl
  refine lv_iload_n hx hb dX6_isRow_0 rfl (lv_at hl 0 rfl) ?_
  refine lv_iconst (v := 0) hx hb dX6_isRow_1 (by decide) ?_
  refine lv_bipush (v := 7) hx hb dX6_isRow_2 (by decide) ?_
  refine dk_Si (As := [.int p0, .int 0, .int 7]) (rest := []) ⟨hx, hb, hml, hown, hts⟩ (c_X6_in_0 l g z I0 p0 0 7 dp0 (dkN_lit (x := 0) (0) rfl) (dkN_lit (x := 7) (7) rfl)) (va_cwS 3 hts gX6_isRow_X6_in rfl rfl rfl (by decide +kernel) ⟨Nat.le_of_ble_eq_true rfl, Nat.le_of_ble_eq_true rfl⟩) hK hW hS rfl hl.1 rfl (Nat.le_of_ble_eq_true rfl) dX6_isRow_4 ⟨Nat.zero_le _, Nat.zero_le _⟩ (fun v1 I1 H1 L1 hp1 hW hS => ?_)
  obtain ⟨dv1, hF1, -⟩ := hp1
  have hF := dkF_call hF hF1 rfl
  exact W.zret (v := v1) (ty := .boolean) hx hb hr (dkN_zr dv1 rfl) (fun t ht hW9 => ⟨⟨v1, I1, rfl, ⟨dkN_sub dv1 rfl, hF, trivial⟩, dkW_eq ht hW⟩, hS.F ht⟩) hS.2.2 dX6_isRow_7
set_option maxHeartbeats 4000000 in
set_option maxRecDepth 100000 in
theorem c_X6_row_0 (l : Launch) (g : dkG) (z : Nat) (I0 : dkI) (p0 p1 p2 : Int32) (dp0 : dkN [(-2147483648, -1), (8, 2147483647)] p0) : Met l yX6_row wsX6_row (dkR 2) (dkPc g z [.ref (z + 340), .int p0, .int p1, .int p2] I0) (dkQi g z (fun r I1 => dkN [(-1000001, -1000001)] r ∧ dkF [] I0 I1 ∧ True)) 0 0 (dkA z) := by
  refine Met.ofW (cc := cX6_row) (maxL := 5) (ret := (some .int)) (by decide) rfl ?_
  intro p e s m args below meth c s₁ B hml hv
  obtain ⟨ha, hW, hK⟩ := hv
  have hx := B.exec
  have hb := B.bytes
  have hr := B.returns
  have hts := atoms_spec (ws := wsX6_row) B.pre
  have hown : s.vm.findClass RX6 = some m.cls := findClass_of_methodNamed B.named
  have hlocks := B.notSynchronized
  have hS : va_S (dkA z) s.heap s.heap [] := va_S.rf
  have hF : dkF [] I0 I0 := dkF_rf _ _
  have hl := lv_entry ([.ref (z + 340), .int p0, .int p1, .int p2]) (n := 5) (Nat.le_of_ble_eq_true rfl)
  have hgo : entryFrame m args 5 = entryFrame m ([.ref (z + 340), .int p0, .int p1, .int p2] : List Value).toArray 5 := by rw [ha]
  rw [hgo, lg_entry_eq]
  generalize (lg_sl ([.ref (z + 340), .int p0, .int p1, .int p2]) ++ List.replicate (5 - (lg_sl ([.ref (z + 340), .int p0, .int p1, .int p2])).length) Slot.unset).toArray = ls at hl ⊢
  have hl : lv_has ls 5 [(0, .ref (z + 340)), (1, .int p0), (2, .int p1), (3, .int p2)] := hl
  refine lv_iload_n hx hb dX6_row_0 rfl (lv_at hl 1 rfl) ?_
  refine dk_Si (As := [.int p0]) (rest := []) ⟨hx, hb, hml, hown, hts⟩ (c_X6_isRow_0 l g z I0 p0 dp0) (va_cwS 1 hts gX6_row_X6_isRow rfl rfl rfl (by decide +kernel) ⟨Nat.le_of_ble_eq_true rfl, Nat.le_of_ble_eq_true rfl⟩) hK hW hS rfl hl.1 rfl (Nat.le_of_ble_eq_true rfl) dX6_row_1 ⟨Nat.zero_le _, Nat.zero_le _⟩ (fun v1 I1 H1 L1 hp1 hW hS => ?_)
  obtain ⟨dv1, hF1, -⟩ := hp1
  have hF := dkF_call hF hF1 rfl
  refine lv_if_eq (tgt := 22) hx hb dX6_row_4 (by decide) (fun c2 => ?_) (fun c2 => ?_)
  ·
    refine lv_ldc (v := (-1000001)) hx hb hown (hts (.constant RX6 64 (-1000001)) (List.mem_of_getElem? (i := 1) rfl)) dX6_row_22 ?_
    exact W.iret (v := (-1000001)) hx hb hr (fun t ht hW9 => ⟨⟨(-1000001), I1, rfl, ⟨dkN_sub (dkN_lit (x := -1000001) (-1000001) rfl) rfl, hF, trivial⟩, dkW_eq ht hW⟩, hS.F ht⟩) hS.2.2 dX6_row_24
  ·
    exact (dkN_nil (show dkN [] v1 from dkN_ne1 (0) dv1 (dkN_lit (x := 0) (0) rfl) (dk_ne c2) rfl)).elim
set_option maxHeartbeats 4000000 in
set_option maxRecDepth 100000 in
theorem c_X5_isUpTo_1 (l : Launch) (g : dkG) (z : Nat) (I0 : dkI) (p0 p1 : Int32) (dp0 : dkN [(0, 7)] p0) (dp1 : dkN [(7, 7)] p1) : Met l yX5_isUpTo wsX5_isUpTo (dkR 0) (dkPc g z [.int p0, .int p1] I0) (dkQi g z (fun r I1 => dkN [(1, 1)] r ∧ dkF [] I0 I1 ∧ True)) 0 0 (dkA z) := by
  refine Met.ofW (cc := cX5_isUpTo) (maxL := 2) (ret := (some .boolean)) (by decide) rfl ?_
  intro p e s m args below meth c s₁ B hml hv
  obtain ⟨ha, hW, hK⟩ := hv
  have hx := B.exec
  have hb := B.bytes
  have hr := B.returns
  have hts := atoms_spec (ws := wsX5_isUpTo) B.pre
  have hown : s.vm.findClass RX5 = some m.cls := findClass_of_methodNamed B.named
  have hlocks := B.notSynchronized
  have hS : va_S (dkA z) s.heap s.heap [] := va_S.rf
  have hF : dkF [] I0 I0 := dkF_rf _ _
  have hl := lv_entry ([.int p0, .int p1]) (n := 2) (Nat.le_of_ble_eq_true rfl)
  have hgo : entryFrame m args 2 = entryFrame m ([.int p0, .int p1] : List Value).toArray 2 := by rw [ha]
  rw [hgo, lg_entry_eq]
  generalize (lg_sl ([.int p0, .int p1]) ++ List.replicate (2 - (lg_sl ([.int p0, .int p1])).length) Slot.unset).toArray = ls at hl ⊢
  have hl : lv_has ls 2 [(0, .int p0), (1, .int p1)] := hl
  refine lv_iload_n hx hb dX5_isUpTo_0 rfl (lv_at hl 0 rfl) ?_
  refine lv_if_lt (tgt := 13) hx hb dX5_isUpTo_1 (by decide) (fun c1 => ?_) (fun c1 => ?_)
  ·
    exact (dkN_nil (show dkN [] p0 from dkN_le1 1 dp0 (dkN_lit (x := 0) (0) rfl) (dkc_lt c1) rfl)).elim
  ·
    refine lv_iload_n hx hb dX5_isUpTo_4 rfl (lv_at hl 0 rfl) ?_
    refine lv_iload_n hx hb dX5_isUpTo_5 rfl (lv_at hl 1 rfl) ?_
    refine lv_icmp_gt (tgt := 13) hx hb dX5_isUpTo_6 (by decide) (fun c2 => ?_) (fun c2 => ?_)
    ·
      exact (dkN_nil (show dkN [] p1 from dkN_le1 1 dp1 dp0 (dkc_lt c2) rfl)).elim
    ·
      refine lv_iconst (v := 1) hx hb dX5_isUpTo_9 (by decide) ?_
      refine lv_goto (tgt := 14) hx hb dX5_isUpTo_10 (by decide) ?_
      exact W.zret (v := 1) (ty := .boolean) hx hb hr rfl (fun t ht hW9 => ⟨⟨1, I0, rfl, ⟨dkN_sub (dkN_lit (x := 1) (1) rfl) rfl, hF, trivial⟩, dkW_eq ht hW⟩, hS.F ht⟩) hS.2.2 dX5_isUpTo_14
set_option maxHeartbeats 4000000 in
set_option maxRecDepth 100000 in
theorem c_X5_isRow_1 (l : Launch) (g : dkG) (z : Nat) (I0 : dkI) (p0 : Int32) (dp0 : dkN [(0, 7)] p0) : Met l yX5_isRow wsX5_isRow (dkR 1) (dkPc g z [.int p0] I0) (dkQi g z (fun r I1 => dkN [(1, 1)] r ∧ dkF [] I0 I1 ∧ True)) 0 0 (dkA z) := by
  refine Met.ofW (cc := cX5_isRow) (maxL := 1) (ret := (some .boolean)) (by decide) rfl ?_
  intro p e s m args below meth c s₁ B hml hv
  obtain ⟨ha, hW, hK⟩ := hv
  have hx := B.exec
  have hb := B.bytes
  have hr := B.returns
  have hts := atoms_spec (ws := wsX5_isRow) B.pre
  have hown : s.vm.findClass RX5 = some m.cls := findClass_of_methodNamed B.named
  have hlocks := B.notSynchronized
  have hS : va_S (dkA z) s.heap s.heap [] := va_S.rf
  have hF : dkF [] I0 I0 := dkF_rf _ _
  have hl := lv_entry ([.int p0]) (n := 1) (Nat.le_of_ble_eq_true rfl)
  have hgo : entryFrame m args 1 = entryFrame m ([.int p0] : List Value).toArray 1 := by rw [ha]
  rw [hgo, lg_entry_eq]
  generalize (lg_sl ([.int p0]) ++ List.replicate (1 - (lg_sl ([.int p0])).length) Slot.unset).toArray = ls at hl ⊢
  have hl : lv_has ls 1 [(0, .int p0)] := hl
  refine lv_iload_n hx hb dX5_isRow_0 rfl (lv_at hl 0 rfl) ?_
  refine lv_bipush (v := 7) hx hb dX5_isRow_1 (by decide) ?_
  refine dk_Si (As := [.int p0, .int 7]) (rest := []) ⟨hx, hb, hml, hown, hts⟩ (c_X5_isUpTo_1 l g z I0 p0 7 dp0 (dkN_lit (x := 7) (7) rfl)) (va_cwS 2 hts gX5_isRow_X5_isUpTo rfl rfl rfl (by decide +kernel) ⟨Nat.le_of_ble_eq_true rfl, Nat.le_of_ble_eq_true rfl⟩) hK hW hS rfl hl.1 rfl (Nat.le_of_ble_eq_true rfl) dX5_isRow_3 ⟨Nat.zero_le _, Nat.zero_le _⟩ (fun v1 I1 H1 L1 hp1 hW hS => ?_)
  obtain ⟨dv1, hF1, -⟩ := hp1
  have hF := dkF_call hF hF1 rfl
  exact W.zret (v := v1) (ty := .boolean) hx hb hr (dkN_zr dv1 rfl) (fun t ht hW9 => ⟨⟨v1, I1, rfl, ⟨dkN_sub dv1 rfl, hF, trivial⟩, dkW_eq ht hW⟩, hS.F ht⟩) hS.2.2 dX5_isRow_6
set_option maxHeartbeats 4000000 in
set_option maxRecDepth 100000 in
theorem c_X5_isUpTo_2 (l : Launch) (g : dkG) (z : Nat) (I0 : dkI) (p0 p1 : Int32) (dp0 : dkN [(-2147483648, -1), (3, 2147483647)] p0) (dp1 : dkN [(2, 2)] p1) : Met l yX5_isUpTo wsX5_isUpTo (dkR 0) (dkPc g z [.int p0, .int p1] I0) (dkQi g z (fun r I1 => dkN [(0, 0)] r ∧ dkF [] I0 I1 ∧ True)) 0 0 (dkA z) := by
  refine Met.ofW (cc := cX5_isUpTo) (maxL := 2) (ret := (some .boolean)) (by decide) rfl ?_
  intro p e s m args below meth c s₁ B hml hv
  obtain ⟨ha, hW, hK⟩ := hv
  have hx := B.exec
  have hb := B.bytes
  have hr := B.returns
  have hts := atoms_spec (ws := wsX5_isUpTo) B.pre
  have hown : s.vm.findClass RX5 = some m.cls := findClass_of_methodNamed B.named
  have hlocks := B.notSynchronized
  have hS : va_S (dkA z) s.heap s.heap [] := va_S.rf
  have hF : dkF [] I0 I0 := dkF_rf _ _
  have hl := lv_entry ([.int p0, .int p1]) (n := 2) (Nat.le_of_ble_eq_true rfl)
  have hgo : entryFrame m args 2 = entryFrame m ([.int p0, .int p1] : List Value).toArray 2 := by rw [ha]
  rw [hgo, lg_entry_eq]
  generalize (lg_sl ([.int p0, .int p1]) ++ List.replicate (2 - (lg_sl ([.int p0, .int p1])).length) Slot.unset).toArray = ls at hl ⊢
  have hl : lv_has ls 2 [(0, .int p0), (1, .int p1)] := hl
  refine lv_iload_n hx hb dX5_isUpTo_0 rfl (lv_at hl 0 rfl) ?_
  refine lv_if_lt (tgt := 13) hx hb dX5_isUpTo_1 (by decide) (fun c1 => ?_) (fun c1 => ?_)
  ·
    have d2 : dkN [(-2147483648, -1)] p0 := dkN_le1 1 dp0 (dkN_lit (x := 0) (0) rfl) (dkc_lt c1) rfl
    refine lv_iconst (v := 0) hx hb dX5_isUpTo_13 (by decide) ?_
    exact W.zret (v := 0) (ty := .boolean) hx hb hr rfl (fun t ht hW9 => ⟨⟨0, I0, rfl, ⟨dkN_sub (dkN_lit (x := 0) (0) rfl) rfl, hF, trivial⟩, dkW_eq ht hW⟩, hS.F ht⟩) hS.2.2 dX5_isUpTo_14
  ·
    have d3 : dkN [(3, 2147483647)] p0 := dkN_le2 0 (dkN_lit (x := 0) (0) rfl) dp0 (dkc_nlt c1) rfl
    refine lv_iload_n hx hb dX5_isUpTo_4 rfl (lv_at hl 0 rfl) ?_
    refine lv_iload_n hx hb dX5_isUpTo_5 rfl (lv_at hl 1 rfl) ?_
    refine lv_icmp_gt (tgt := 13) hx hb dX5_isUpTo_6 (by decide) (fun c4 => ?_) (fun c4 => ?_)
    ·
      refine lv_iconst (v := 0) hx hb dX5_isUpTo_13 (by decide) ?_
      exact W.zret (v := 0) (ty := .boolean) hx hb hr rfl (fun t ht hW9 => ⟨⟨0, I0, rfl, ⟨dkN_sub (dkN_lit (x := 0) (0) rfl) rfl, hF, trivial⟩, dkW_eq ht hW⟩, hS.F ht⟩) hS.2.2 dX5_isUpTo_14
    ·
      exact (dkN_nil (show dkN [] p1 from dkN_le2 0 d3 dp1 (dkc_nlt c4) rfl)).elim
set_option maxHeartbeats 4000000 in
set_option maxRecDepth 100000 in
theorem c_X5_row_1 (l : Launch) (g : dkG) (z : Nat) (I0 : dkI) (p0 p1 p2 : Int32) (dp0 : dkN [(0, 7)] p0) (dp1 : dkN [(-2147483648, -1), (3, 2147483647)] p1) : Met l yX5_row wsX5_row (dkR 2) (dkPc g z [.ref (z + 0), .int p0, .int p1, .int p2] I0) (dkQi g z (fun r I1 => dkN [(-1000001, -1000001)] r ∧ dkF [] I0 I1 ∧ True)) 0 0 (dkA z) := by
  refine Met.ofW (cc := cX5_row) (maxL := 5) (ret := (some .int)) (by decide) rfl ?_
  intro p e s m args below meth c s₁ B hml hv
  obtain ⟨ha, hW, hK⟩ := hv
  have hx := B.exec
  have hb := B.bytes
  have hr := B.returns
  have hts := atoms_spec (ws := wsX5_row) B.pre
  have hown : s.vm.findClass RX5 = some m.cls := findClass_of_methodNamed B.named
  have hlocks := B.notSynchronized
  have hS : va_S (dkA z) s.heap s.heap [] := va_S.rf
  have hF : dkF [] I0 I0 := dkF_rf _ _
  have hl := lv_entry ([.ref (z + 0), .int p0, .int p1, .int p2]) (n := 5) (Nat.le_of_ble_eq_true rfl)
  have hgo : entryFrame m args 5 = entryFrame m ([.ref (z + 0), .int p0, .int p1, .int p2] : List Value).toArray 5 := by rw [ha]
  rw [hgo, lg_entry_eq]
  generalize (lg_sl ([.ref (z + 0), .int p0, .int p1, .int p2]) ++ List.replicate (5 - (lg_sl ([.ref (z + 0), .int p0, .int p1, .int p2])).length) Slot.unset).toArray = ls at hl ⊢
  have hl : lv_has ls 5 [(0, .ref (z + 0)), (1, .int p0), (2, .int p1), (3, .int p2)] := hl
  refine lv_iload_n hx hb dX5_row_0 rfl (lv_at hl 1 rfl) ?_
  refine dk_Si (As := [.int p0]) (rest := []) ⟨hx, hb, hml, hown, hts⟩ (c_X5_isRow_1 l g z I0 p0 dp0) (va_cwS 1 hts gX5_row_X5_isRow rfl rfl rfl (by decide +kernel) ⟨Nat.le_of_ble_eq_true rfl, Nat.le_of_ble_eq_true rfl⟩) hK hW hS rfl hl.1 rfl (Nat.le_of_ble_eq_true rfl) dX5_row_1 ⟨Nat.zero_le _, Nat.zero_le _⟩ (fun v1 I1 H1 L1 hp1 hW hS => ?_)
  obtain ⟨dv1, hF1, -⟩ := hp1
  have hF := dkF_call hF hF1 rfl
  refine lv_if_eq (tgt := 21) hx hb dX5_row_4 (by decide) (fun c2 => ?_) (fun c2 => ?_)
  ·
    exact (dkN_nil (show dkN [] v1 from dkN_eq1 dv1 (dkN_lit (x := 0) (0) rfl) (congrArg Int32.toInt c2) rfl)).elim
  ·
    refine lv_iload_n hx hb dX5_row_7 rfl (lv_at hl 2 rfl) ?_
    refine lv_iconst (v := 2) hx hb dX5_row_8 (by decide) ?_
    refine dk_Si (As := [.int p1, .int 2]) (rest := []) ⟨hx, hb, hml, hown, hts⟩ (c_X5_isUpTo_2 l g z I1 p1 2 dp1 (dkN_lit (x := 2) (2) rfl)) (va_cwS 2 hts gX5_row_X5_isUpTo rfl rfl rfl (by decide +kernel) ⟨Nat.le_of_ble_eq_true rfl, Nat.le_of_ble_eq_true rfl⟩) hK hW hS rfl hl.1 rfl (Nat.le_of_ble_eq_true rfl) dX5_row_9 ⟨Nat.zero_le _, Nat.zero_le _⟩ (fun v3 I3 H3 L3 hp3 hW hS => ?_)
    obtain ⟨dv3, hF3, -⟩ := hp3
    have hF := dkF_call hF hF3 rfl
    refine lv_if_eq (tgt := 21) hx hb dX5_row_12 (by decide) (fun c4 => ?_) (fun c4 => ?_)
    ·
      refine lv_ldc (v := (-1000001)) hx hb hown (hts (.constant RX5 70 (-1000001)) (List.mem_of_getElem? (i := 1) rfl)) dX5_row_21 ?_
      exact W.iret (v := (-1000001)) hx hb hr (fun t ht hW9 => ⟨⟨(-1000001), I3, rfl, ⟨dkN_sub (dkN_lit (x := -1000001) (-1000001) rfl) rfl, hF, trivial⟩, dkW_eq ht hW⟩, hS.F ht⟩) hS.2.2 dX5_row_23
    ·
      exact (dkN_nil (show dkN [] v3 from dkN_ne1 (0) dv3 (dkN_lit (x := 0) (0) rfl) (dk_ne c4) rfl)).elim
set_option maxHeartbeats 4000000 in
set_option maxRecDepth 100000 in
theorem c_X6_in_1 (l : Launch) (g : dkG) (z : Nat) (I0 : dkI) (p0 p1 p2 : Int32) (dp0 : dkN [(0, 7)] p0) (dp1 : dkN [(0, 0)] p1) (dp2 : dkN [(7, 7)] p2) : Met l yX6_in wsX6_in (dkR 0) (dkPc g z [.int p0, .int p1, .int p2] I0) (dkQi g z (fun r I1 => dkN [(1, 1)] r ∧ dkF [] I0 I1 ∧ True)) 0 0 (dkA z) := by
  refine Met.ofW (cc := cX6_in) (maxL := 3) (ret := (some .boolean)) (by decide) rfl ?_
  intro p e s m args below meth c s₁ B hml hv
  obtain ⟨ha, hW, hK⟩ := hv
  have hx := B.exec
  have hb := B.bytes
  have hr := B.returns
  have hts := atoms_spec (ws := wsX6_in) B.pre
  have hown : s.vm.findClass RX6 = some m.cls := findClass_of_methodNamed B.named
  have hlocks := B.notSynchronized
  have hS : va_S (dkA z) s.heap s.heap [] := va_S.rf
  have hF : dkF [] I0 I0 := dkF_rf _ _
  have hl := lv_entry ([.int p0, .int p1, .int p2]) (n := 3) (Nat.le_of_ble_eq_true rfl)
  have hgo : entryFrame m args 3 = entryFrame m ([.int p0, .int p1, .int p2] : List Value).toArray 3 := by rw [ha]
  rw [hgo, lg_entry_eq]
  generalize (lg_sl ([.int p0, .int p1, .int p2]) ++ List.replicate (3 - (lg_sl ([.int p0, .int p1, .int p2])).length) Slot.unset).toArray = ls at hl ⊢
  have hl : lv_has ls 3 [(0, .int p0), (1, .int p1), (2, .int p2)] := hl
  refine lv_iload_n hx hb dX6_in_0 rfl (lv_at hl 0 rfl) ?_
  refine lv_iload_n hx hb dX6_in_1 rfl (lv_at hl 1 rfl) ?_
  refine lv_icmp_lt (tgt := 14) hx hb dX6_in_2 (by decide) (fun c1 => ?_) (fun c1 => ?_)
  ·
    exact (dkN_nil (show dkN [] p0 from dkN_le1 1 dp0 dp1 (dkc_lt c1) rfl)).elim
  ·
    refine lv_iload_n hx hb dX6_in_5 rfl (lv_at hl 0 rfl) ?_
    refine lv_iload_n hx hb dX6_in_6 rfl (lv_at hl 2 rfl) ?_
    refine lv_icmp_gt (tgt := 14) hx hb dX6_in_7 (by decide) (fun c2 => ?_) (fun c2 => ?_)
    ·
      exact (dkN_nil (show dkN [] p2 from dkN_le1 1 dp2 dp0 (dkc_lt c2) rfl)).elim
    ·
      refine lv_iconst (v := 1) hx hb dX6_in_10 (by decide) ?_
      refine lv_goto (tgt := 15) hx hb dX6_in_11 (by decide) ?_
      exact W.zret (v := 1) (ty := .boolean) hx hb hr rfl (fun t ht hW9 => ⟨⟨1, I0, rfl, ⟨dkN_sub (dkN_lit (x := 1) (1) rfl) rfl, hF, trivial⟩, dkW_eq ht hW⟩, hS.F ht⟩) hS.2.2 dX6_in_15
set_option maxHeartbeats 4000000 in
set_option maxRecDepth 100000 in
theorem c_X6_isRow_1 (l : Launch) (g : dkG) (z : Nat) (I0 : dkI) (p0 : Int32) (dp0 : dkN [(0, 7)] p0) : Met l yX6_isRow wsX6_isRow (dkR 1) (dkPc g z [.int p0] I0) (dkQi g z (fun r I1 => dkN [(1, 1)] r ∧ dkF [] I0 I1 ∧ True)) 0 0 (dkA z) := by
  refine Met.ofW (cc := cX6_isRow) (maxL := 1) (ret := (some .boolean)) (by decide) rfl ?_
  intro p e s m args below meth c s₁ B hml hv
  obtain ⟨ha, hW, hK⟩ := hv
  have hx := B.exec
  have hb := B.bytes
  have hr := B.returns
  have hts := atoms_spec (ws := wsX6_isRow) B.pre
  have hown : s.vm.findClass RX6 = some m.cls := findClass_of_methodNamed B.named
  have hlocks := B.notSynchronized
  have hS : va_S (dkA z) s.heap s.heap [] := va_S.rf
  have hF : dkF [] I0 I0 := dkF_rf _ _
  have hl := lv_entry ([.int p0]) (n := 1) (Nat.le_of_ble_eq_true rfl)
  have hgo : entryFrame m args 1 = entryFrame m ([.int p0] : List Value).toArray 1 := by rw [ha]
  rw [hgo, lg_entry_eq]
  generalize (lg_sl ([.int p0]) ++ List.replicate (1 - (lg_sl ([.int p0])).length) Slot.unset).toArray = ls at hl ⊢
  have hl : lv_has ls 1 [(0, .int p0)] := hl
  refine lv_iload_n hx hb dX6_isRow_0 rfl (lv_at hl 0 rfl) ?_
  refine lv_iconst (v := 0) hx hb dX6_isRow_1 (by decide) ?_
  refine lv_bipush (v := 7) hx hb dX6_isRow_2 (by decide) ?_
  refine dk_Si (As := [.int p0, .int 0, .int 7]) (rest := []) ⟨hx, hb, hml, hown, hts⟩ (c_X6_in_1 l g z I0 p0 0 7 dp0 (dkN_lit (x := 0) (0) rfl) (dkN_lit (x := 7) (7) rfl)) (va_cwS 3 hts gX6_isRow_X6_in rfl rfl rfl (by decide +kernel) ⟨Nat.le_of_ble_eq_true rfl, Nat.le_of_ble_eq_true rfl⟩) hK hW hS rfl hl.1 rfl (Nat.le_of_ble_eq_true rfl) dX6_isRow_4 ⟨Nat.zero_le _, Nat.zero_le _⟩ (fun v1 I1 H1 L1 hp1 hW hS => ?_)
  obtain ⟨dv1, hF1, -⟩ := hp1
  have hF := dkF_call hF hF1 rfl
  exact W.zret (v := v1) (ty := .boolean) hx hb hr (dkN_zr dv1 rfl) (fun t ht hW9 => ⟨⟨v1, I1, rfl, ⟨dkN_sub dv1 rfl, hF, trivial⟩, dkW_eq ht hW⟩, hS.F ht⟩) hS.2.2 dX6_isRow_7
set_option maxHeartbeats 4000000 in
set_option maxRecDepth 100000 in
theorem c_X6_in_2 (l : Launch) (g : dkG) (z : Nat) (I0 : dkI) (p0 p1 p2 : Int32) (dp0 : dkN [(-2147483648, -1), (3, 2147483647)] p0) (dp1 : dkN [(0, 0)] p1) (dp2 : dkN [(2, 2)] p2) : Met l yX6_in wsX6_in (dkR 0) (dkPc g z [.int p0, .int p1, .int p2] I0) (dkQi g z (fun r I1 => dkN [(0, 0)] r ∧ dkF [] I0 I1 ∧ True)) 0 0 (dkA z) := by
  refine Met.ofW (cc := cX6_in) (maxL := 3) (ret := (some .boolean)) (by decide) rfl ?_
  intro p e s m args below meth c s₁ B hml hv
  obtain ⟨ha, hW, hK⟩ := hv
  have hx := B.exec
  have hb := B.bytes
  have hr := B.returns
  have hts := atoms_spec (ws := wsX6_in) B.pre
  have hown : s.vm.findClass RX6 = some m.cls := findClass_of_methodNamed B.named
  have hlocks := B.notSynchronized
  have hS : va_S (dkA z) s.heap s.heap [] := va_S.rf
  have hF : dkF [] I0 I0 := dkF_rf _ _
  have hl := lv_entry ([.int p0, .int p1, .int p2]) (n := 3) (Nat.le_of_ble_eq_true rfl)
  have hgo : entryFrame m args 3 = entryFrame m ([.int p0, .int p1, .int p2] : List Value).toArray 3 := by rw [ha]
  rw [hgo, lg_entry_eq]
  generalize (lg_sl ([.int p0, .int p1, .int p2]) ++ List.replicate (3 - (lg_sl ([.int p0, .int p1, .int p2])).length) Slot.unset).toArray = ls at hl ⊢
  have hl : lv_has ls 3 [(0, .int p0), (1, .int p1), (2, .int p2)] := hl
  refine lv_iload_n hx hb dX6_in_0 rfl (lv_at hl 0 rfl) ?_
  refine lv_iload_n hx hb dX6_in_1 rfl (lv_at hl 1 rfl) ?_
  refine lv_icmp_lt (tgt := 14) hx hb dX6_in_2 (by decide) (fun c1 => ?_) (fun c1 => ?_)
  ·
    have d2 : dkN [(-2147483648, -1)] p0 := dkN_le1 1 dp0 dp1 (dkc_lt c1) rfl
    refine lv_iconst (v := 0) hx hb dX6_in_14 (by decide) ?_
    exact W.zret (v := 0) (ty := .boolean) hx hb hr rfl (fun t ht hW9 => ⟨⟨0, I0, rfl, ⟨dkN_sub (dkN_lit (x := 0) (0) rfl) rfl, hF, trivial⟩, dkW_eq ht hW⟩, hS.F ht⟩) hS.2.2 dX6_in_15
  ·
    have d3 : dkN [(3, 2147483647)] p0 := dkN_le2 0 dp1 dp0 (dkc_nlt c1) rfl
    refine lv_iload_n hx hb dX6_in_5 rfl (lv_at hl 0 rfl) ?_
    refine lv_iload_n hx hb dX6_in_6 rfl (lv_at hl 2 rfl) ?_
    refine lv_icmp_gt (tgt := 14) hx hb dX6_in_7 (by decide) (fun c4 => ?_) (fun c4 => ?_)
    ·
      refine lv_iconst (v := 0) hx hb dX6_in_14 (by decide) ?_
      exact W.zret (v := 0) (ty := .boolean) hx hb hr rfl (fun t ht hW9 => ⟨⟨0, I0, rfl, ⟨dkN_sub (dkN_lit (x := 0) (0) rfl) rfl, hF, trivial⟩, dkW_eq ht hW⟩, hS.F ht⟩) hS.2.2 dX6_in_15
    ·
      exact (dkN_nil (show dkN [] p2 from dkN_le2 0 d3 dp2 (dkc_nlt c4) rfl)).elim
set_option maxHeartbeats 4000000 in
set_option maxRecDepth 100000 in
theorem c_X6_row_1 (l : Launch) (g : dkG) (z : Nat) (I0 : dkI) (p0 p1 p2 : Int32) (dp0 : dkN [(0, 7)] p0) (dp1 : dkN [(-2147483648, -1), (3, 2147483647)] p1) : Met l yX6_row wsX6_row (dkR 2) (dkPc g z [.ref (z + 340), .int p0, .int p1, .int p2] I0) (dkQi g z (fun r I1 => dkN [(-1000001, -1000001)] r ∧ dkF [] I0 I1 ∧ True)) 0 0 (dkA z) := by
  refine Met.ofW (cc := cX6_row) (maxL := 5) (ret := (some .int)) (by decide) rfl ?_
  intro p e s m args below meth c s₁ B hml hv
  obtain ⟨ha, hW, hK⟩ := hv
  have hx := B.exec
  have hb := B.bytes
  have hr := B.returns
  have hts := atoms_spec (ws := wsX6_row) B.pre
  have hown : s.vm.findClass RX6 = some m.cls := findClass_of_methodNamed B.named
  have hlocks := B.notSynchronized
  have hS : va_S (dkA z) s.heap s.heap [] := va_S.rf
  have hF : dkF [] I0 I0 := dkF_rf _ _
  have hl := lv_entry ([.ref (z + 340), .int p0, .int p1, .int p2]) (n := 5) (Nat.le_of_ble_eq_true rfl)
  have hgo : entryFrame m args 5 = entryFrame m ([.ref (z + 340), .int p0, .int p1, .int p2] : List Value).toArray 5 := by rw [ha]
  rw [hgo, lg_entry_eq]
  generalize (lg_sl ([.ref (z + 340), .int p0, .int p1, .int p2]) ++ List.replicate (5 - (lg_sl ([.ref (z + 340), .int p0, .int p1, .int p2])).length) Slot.unset).toArray = ls at hl ⊢
  have hl : lv_has ls 5 [(0, .ref (z + 340)), (1, .int p0), (2, .int p1), (3, .int p2)] := hl
  refine lv_iload_n hx hb dX6_row_0 rfl (lv_at hl 1 rfl) ?_
  refine dk_Si (As := [.int p0]) (rest := []) ⟨hx, hb, hml, hown, hts⟩ (c_X6_isRow_1 l g z I0 p0 dp0) (va_cwS 1 hts gX6_row_X6_isRow rfl rfl rfl (by decide +kernel) ⟨Nat.le_of_ble_eq_true rfl, Nat.le_of_ble_eq_true rfl⟩) hK hW hS rfl hl.1 rfl (Nat.le_of_ble_eq_true rfl) dX6_row_1 ⟨Nat.zero_le _, Nat.zero_le _⟩ (fun v1 I1 H1 L1 hp1 hW hS => ?_)
  obtain ⟨dv1, hF1, -⟩ := hp1
  have hF := dkF_call hF hF1 rfl
  refine lv_if_eq (tgt := 22) hx hb dX6_row_4 (by decide) (fun c2 => ?_) (fun c2 => ?_)
  ·
    exact (dkN_nil (show dkN [] v1 from dkN_eq1 dv1 (dkN_lit (x := 0) (0) rfl) (congrArg Int32.toInt c2) rfl)).elim
  ·
    refine lv_iload_n hx hb dX6_row_7 rfl (lv_at hl 2 rfl) ?_
    refine lv_iconst (v := 0) hx hb dX6_row_8 (by decide) ?_
    refine lv_iconst (v := 2) hx hb dX6_row_9 (by decide) ?_
    refine dk_Si (As := [.int p1, .int 0, .int 2]) (rest := []) ⟨hx, hb, hml, hown, hts⟩ (c_X6_in_2 l g z I1 p1 0 2 dp1 (dkN_lit (x := 0) (0) rfl) (dkN_lit (x := 2) (2) rfl)) (va_cwS 3 hts gX6_row_X6_in rfl rfl rfl (by decide +kernel) ⟨Nat.le_of_ble_eq_true rfl, Nat.le_of_ble_eq_true rfl⟩) hK hW hS rfl hl.1 rfl (Nat.le_of_ble_eq_true rfl) dX6_row_10 ⟨Nat.zero_le _, Nat.zero_le _⟩ (fun v3 I3 H3 L3 hp3 hW hS => ?_)
    obtain ⟨dv3, hF3, -⟩ := hp3
    have hF := dkF_call hF hF3 rfl
    refine lv_if_eq (tgt := 22) hx hb dX6_row_13 (by decide) (fun c4 => ?_) (fun c4 => ?_)
    ·
      refine lv_ldc (v := (-1000001)) hx hb hown (hts (.constant RX6 64 (-1000001)) (List.mem_of_getElem? (i := 1) rfl)) dX6_row_22 ?_
      exact W.iret (v := (-1000001)) hx hb hr (fun t ht hW9 => ⟨⟨(-1000001), I3, rfl, ⟨dkN_sub (dkN_lit (x := -1000001) (-1000001) rfl) rfl, hF, trivial⟩, dkW_eq ht hW⟩, hS.F ht⟩) hS.2.2 dX6_row_24
    ·
      exact (dkN_nil (show dkN [] v3 from dkN_ne1 (0) dv3 (dkN_lit (x := 0) (0) rfl) (dk_ne c4) rfl)).elim
set_option maxHeartbeats 4000000 in
set_option maxRecDepth 100000 in
theorem c_X5_isUpTo_3 (l : Launch) (g : dkG) (z : Nat) (I0 : dkI) (p0 p1 : Int32) (dp0 : dkN [(0, 2)] p0) (dp1 : dkN [(2, 2)] p1) : Met l yX5_isUpTo wsX5_isUpTo (dkR 0) (dkPc g z [.int p0, .int p1] I0) (dkQi g z (fun r I1 => dkN [(1, 1)] r ∧ dkF [] I0 I1 ∧ True)) 0 0 (dkA z) := by
  refine Met.ofW (cc := cX5_isUpTo) (maxL := 2) (ret := (some .boolean)) (by decide) rfl ?_
  intro p e s m args below meth c s₁ B hml hv
  obtain ⟨ha, hW, hK⟩ := hv
  have hx := B.exec
  have hb := B.bytes
  have hr := B.returns
  have hts := atoms_spec (ws := wsX5_isUpTo) B.pre
  have hown : s.vm.findClass RX5 = some m.cls := findClass_of_methodNamed B.named
  have hlocks := B.notSynchronized
  have hS : va_S (dkA z) s.heap s.heap [] := va_S.rf
  have hF : dkF [] I0 I0 := dkF_rf _ _
  have hl := lv_entry ([.int p0, .int p1]) (n := 2) (Nat.le_of_ble_eq_true rfl)
  have hgo : entryFrame m args 2 = entryFrame m ([.int p0, .int p1] : List Value).toArray 2 := by rw [ha]
  rw [hgo, lg_entry_eq]
  generalize (lg_sl ([.int p0, .int p1]) ++ List.replicate (2 - (lg_sl ([.int p0, .int p1])).length) Slot.unset).toArray = ls at hl ⊢
  have hl : lv_has ls 2 [(0, .int p0), (1, .int p1)] := hl
  refine lv_iload_n hx hb dX5_isUpTo_0 rfl (lv_at hl 0 rfl) ?_
  refine lv_if_lt (tgt := 13) hx hb dX5_isUpTo_1 (by decide) (fun c1 => ?_) (fun c1 => ?_)
  ·
    exact (dkN_nil (show dkN [] p0 from dkN_le1 1 dp0 (dkN_lit (x := 0) (0) rfl) (dkc_lt c1) rfl)).elim
  ·
    refine lv_iload_n hx hb dX5_isUpTo_4 rfl (lv_at hl 0 rfl) ?_
    refine lv_iload_n hx hb dX5_isUpTo_5 rfl (lv_at hl 1 rfl) ?_
    refine lv_icmp_gt (tgt := 13) hx hb dX5_isUpTo_6 (by decide) (fun c2 => ?_) (fun c2 => ?_)
    ·
      exact (dkN_nil (show dkN [] p1 from dkN_le1 1 dp1 dp0 (dkc_lt c2) rfl)).elim
    ·
      refine lv_iconst (v := 1) hx hb dX5_isUpTo_9 (by decide) ?_
      refine lv_goto (tgt := 14) hx hb dX5_isUpTo_10 (by decide) ?_
      exact W.zret (v := 1) (ty := .boolean) hx hb hr rfl (fun t ht hW9 => ⟨⟨1, I0, rfl, ⟨dkN_sub (dkN_lit (x := 1) (1) rfl) rfl, hF, trivial⟩, dkW_eq ht hW⟩, hS.F ht⟩) hS.2.2 dX5_isUpTo_14
set_option maxHeartbeats 4000000 in
set_option maxRecDepth 100000 in
theorem c_X5_row_2 (l : Launch) (g : dkG) (z : Nat) (I0 : dkI) (p0 p1 p2 : Int32) (dp0 : dkN [(0, 7)] p0) (dp1 : dkN [(0, 2)] p1) (dp2 : dkN [(41, 2147483647)] p2) : Met l yX5_row wsX5_row (dkR 2) (dkPc g z [.ref (z + 0), .int p0, .int p1, .int p2] I0) (dkQi g z (fun r I1 => dkN [(-1000001, -1000001)] r ∧ dkF [] I0 I1 ∧ True)) 0 0 (dkA z) := by
  refine Met.ofW (cc := cX5_row) (maxL := 5) (ret := (some .int)) (by decide) rfl ?_
  intro p e s m args below meth c s₁ B hml hv
  obtain ⟨ha, hW, hK⟩ := hv
  have hx := B.exec
  have hb := B.bytes
  have hr := B.returns
  have hts := atoms_spec (ws := wsX5_row) B.pre
  have hown : s.vm.findClass RX5 = some m.cls := findClass_of_methodNamed B.named
  have hlocks := B.notSynchronized
  have hS : va_S (dkA z) s.heap s.heap [] := va_S.rf
  have hF : dkF [] I0 I0 := dkF_rf _ _
  have hl := lv_entry ([.ref (z + 0), .int p0, .int p1, .int p2]) (n := 5) (Nat.le_of_ble_eq_true rfl)
  have hgo : entryFrame m args 5 = entryFrame m ([.ref (z + 0), .int p0, .int p1, .int p2] : List Value).toArray 5 := by rw [ha]
  rw [hgo, lg_entry_eq]
  generalize (lg_sl ([.ref (z + 0), .int p0, .int p1, .int p2]) ++ List.replicate (5 - (lg_sl ([.ref (z + 0), .int p0, .int p1, .int p2])).length) Slot.unset).toArray = ls at hl ⊢
  have hl : lv_has ls 5 [(0, .ref (z + 0)), (1, .int p0), (2, .int p1), (3, .int p2)] := hl
  refine lv_iload_n hx hb dX5_row_0 rfl (lv_at hl 1 rfl) ?_
  refine dk_Si (As := [.int p0]) (rest := []) ⟨hx, hb, hml, hown, hts⟩ (c_X5_isRow_1 l g z I0 p0 dp0) (va_cwS 1 hts gX5_row_X5_isRow rfl rfl rfl (by decide +kernel) ⟨Nat.le_of_ble_eq_true rfl, Nat.le_of_ble_eq_true rfl⟩) hK hW hS rfl hl.1 rfl (Nat.le_of_ble_eq_true rfl) dX5_row_1 ⟨Nat.zero_le _, Nat.zero_le _⟩ (fun v1 I1 H1 L1 hp1 hW hS => ?_)
  obtain ⟨dv1, hF1, -⟩ := hp1
  have hF := dkF_call hF hF1 rfl
  refine lv_if_eq (tgt := 21) hx hb dX5_row_4 (by decide) (fun c2 => ?_) (fun c2 => ?_)
  ·
    exact (dkN_nil (show dkN [] v1 from dkN_eq1 dv1 (dkN_lit (x := 0) (0) rfl) (congrArg Int32.toInt c2) rfl)).elim
  ·
    refine lv_iload_n hx hb dX5_row_7 rfl (lv_at hl 2 rfl) ?_
    refine lv_iconst (v := 2) hx hb dX5_row_8 (by decide) ?_
    refine dk_Si (As := [.int p1, .int 2]) (rest := []) ⟨hx, hb, hml, hown, hts⟩ (c_X5_isUpTo_3 l g z I1 p1 2 dp1 (dkN_lit (x := 2) (2) rfl)) (va_cwS 2 hts gX5_row_X5_isUpTo rfl rfl rfl (by decide +kernel) ⟨Nat.le_of_ble_eq_true rfl, Nat.le_of_ble_eq_true rfl⟩) hK hW hS rfl hl.1 rfl (Nat.le_of_ble_eq_true rfl) dX5_row_9 ⟨Nat.zero_le _, Nat.zero_le _⟩ (fun v3 I3 H3 L3 hp3 hW hS => ?_)
    obtain ⟨dv3, hF3, -⟩ := hp3
    have hF := dkF_call hF hF3 rfl
    refine lv_if_eq (tgt := 21) hx hb dX5_row_12 (by decide) (fun c4 => ?_) (fun c4 => ?_)
    ·
      exact (dkN_nil (show dkN [] v3 from dkN_eq1 dv3 (dkN_lit (x := 0) (0) rfl) (congrArg Int32.toInt c4) rfl)).elim
    ·
      refine lv_iload_n hx hb dX5_row_15 rfl (lv_at hl 3 rfl) ?_
      refine lv_bipush (v := 40) hx hb dX5_row_16 (by decide) ?_
      refine lv_icmp_le (tgt := 24) hx hb dX5_row_18 (by decide) (fun c5 => ?_) (fun c5 => ?_)
      ·
        exact (dkN_nil (show dkN [] p2 from dkN_le1 0 dp2 (dkN_lit (x := 40) (40) rfl) (dkc_le c5) rfl)).elim
      ·
        refine lv_ldc (v := (-1000001)) hx hb hown (hts (.constant RX5 70 (-1000001)) (List.mem_of_getElem? (i := 1) rfl)) dX5_row_21 ?_
        exact W.iret (v := (-1000001)) hx hb hr (fun t ht hW9 => ⟨⟨(-1000001), I3, rfl, ⟨dkN_sub (dkN_lit (x := -1000001) (-1000001) rfl) rfl, hF, trivial⟩, dkW_eq ht hW⟩, hS.F ht⟩) hS.2.2 dX5_row_23
set_option maxHeartbeats 4000000 in
set_option maxRecDepth 100000 in
theorem c_X6_in_3 (l : Launch) (g : dkG) (z : Nat) (I0 : dkI) (p0 p1 p2 : Int32) (dp0 : dkN [(0, 2)] p0) (dp1 : dkN [(0, 0)] p1) (dp2 : dkN [(2, 2)] p2) : Met l yX6_in wsX6_in (dkR 0) (dkPc g z [.int p0, .int p1, .int p2] I0) (dkQi g z (fun r I1 => dkN [(1, 1)] r ∧ dkF [] I0 I1 ∧ True)) 0 0 (dkA z) := by
  refine Met.ofW (cc := cX6_in) (maxL := 3) (ret := (some .boolean)) (by decide) rfl ?_
  intro p e s m args below meth c s₁ B hml hv
  obtain ⟨ha, hW, hK⟩ := hv
  have hx := B.exec
  have hb := B.bytes
  have hr := B.returns
  have hts := atoms_spec (ws := wsX6_in) B.pre
  have hown : s.vm.findClass RX6 = some m.cls := findClass_of_methodNamed B.named
  have hlocks := B.notSynchronized
  have hS : va_S (dkA z) s.heap s.heap [] := va_S.rf
  have hF : dkF [] I0 I0 := dkF_rf _ _
  have hl := lv_entry ([.int p0, .int p1, .int p2]) (n := 3) (Nat.le_of_ble_eq_true rfl)
  have hgo : entryFrame m args 3 = entryFrame m ([.int p0, .int p1, .int p2] : List Value).toArray 3 := by rw [ha]
  rw [hgo, lg_entry_eq]
  generalize (lg_sl ([.int p0, .int p1, .int p2]) ++ List.replicate (3 - (lg_sl ([.int p0, .int p1, .int p2])).length) Slot.unset).toArray = ls at hl ⊢
  have hl : lv_has ls 3 [(0, .int p0), (1, .int p1), (2, .int p2)] := hl
  refine lv_iload_n hx hb dX6_in_0 rfl (lv_at hl 0 rfl) ?_
  refine lv_iload_n hx hb dX6_in_1 rfl (lv_at hl 1 rfl) ?_
  refine lv_icmp_lt (tgt := 14) hx hb dX6_in_2 (by decide) (fun c1 => ?_) (fun c1 => ?_)
  ·
    exact (dkN_nil (show dkN [] p0 from dkN_le1 1 dp0 dp1 (dkc_lt c1) rfl)).elim
  ·
    refine lv_iload_n hx hb dX6_in_5 rfl (lv_at hl 0 rfl) ?_
    refine lv_iload_n hx hb dX6_in_6 rfl (lv_at hl 2 rfl) ?_
    refine lv_icmp_gt (tgt := 14) hx hb dX6_in_7 (by decide) (fun c2 => ?_) (fun c2 => ?_)
    ·
      exact (dkN_nil (show dkN [] p2 from dkN_le1 1 dp2 dp0 (dkc_lt c2) rfl)).elim
    ·
      refine lv_iconst (v := 1) hx hb dX6_in_10 (by decide) ?_
      refine lv_goto (tgt := 15) hx hb dX6_in_11 (by decide) ?_
      exact W.zret (v := 1) (ty := .boolean) hx hb hr rfl (fun t ht hW9 => ⟨⟨1, I0, rfl, ⟨dkN_sub (dkN_lit (x := 1) (1) rfl) rfl, hF, trivial⟩, dkW_eq ht hW⟩, hS.F ht⟩) hS.2.2 dX6_in_15
set_option maxHeartbeats 4000000 in
set_option maxRecDepth 100000 in
theorem c_X6_row_2 (l : Launch) (g : dkG) (z : Nat) (I0 : dkI) (p0 p1 p2 : Int32) (dp0 : dkN [(0, 7)] p0) (dp1 : dkN [(0, 2)] p1) (dp2 : dkN [(41, 2147483647)] p2) : Met l yX6_row wsX6_row (dkR 2) (dkPc g z [.ref (z + 340), .int p0, .int p1, .int p2] I0) (dkQi g z (fun r I1 => dkN [(-1000001, -1000001)] r ∧ dkF [] I0 I1 ∧ True)) 0 0 (dkA z) := by
  refine Met.ofW (cc := cX6_row) (maxL := 5) (ret := (some .int)) (by decide) rfl ?_
  intro p e s m args below meth c s₁ B hml hv
  obtain ⟨ha, hW, hK⟩ := hv
  have hx := B.exec
  have hb := B.bytes
  have hr := B.returns
  have hts := atoms_spec (ws := wsX6_row) B.pre
  have hown : s.vm.findClass RX6 = some m.cls := findClass_of_methodNamed B.named
  have hlocks := B.notSynchronized
  have hS : va_S (dkA z) s.heap s.heap [] := va_S.rf
  have hF : dkF [] I0 I0 := dkF_rf _ _
  have hl := lv_entry ([.ref (z + 340), .int p0, .int p1, .int p2]) (n := 5) (Nat.le_of_ble_eq_true rfl)
  have hgo : entryFrame m args 5 = entryFrame m ([.ref (z + 340), .int p0, .int p1, .int p2] : List Value).toArray 5 := by rw [ha]
  rw [hgo, lg_entry_eq]
  generalize (lg_sl ([.ref (z + 340), .int p0, .int p1, .int p2]) ++ List.replicate (5 - (lg_sl ([.ref (z + 340), .int p0, .int p1, .int p2])).length) Slot.unset).toArray = ls at hl ⊢
  have hl : lv_has ls 5 [(0, .ref (z + 340)), (1, .int p0), (2, .int p1), (3, .int p2)] := hl
  refine lv_iload_n hx hb dX6_row_0 rfl (lv_at hl 1 rfl) ?_
  refine dk_Si (As := [.int p0]) (rest := []) ⟨hx, hb, hml, hown, hts⟩ (c_X6_isRow_1 l g z I0 p0 dp0) (va_cwS 1 hts gX6_row_X6_isRow rfl rfl rfl (by decide +kernel) ⟨Nat.le_of_ble_eq_true rfl, Nat.le_of_ble_eq_true rfl⟩) hK hW hS rfl hl.1 rfl (Nat.le_of_ble_eq_true rfl) dX6_row_1 ⟨Nat.zero_le _, Nat.zero_le _⟩ (fun v1 I1 H1 L1 hp1 hW hS => ?_)
  obtain ⟨dv1, hF1, -⟩ := hp1
  have hF := dkF_call hF hF1 rfl
  refine lv_if_eq (tgt := 22) hx hb dX6_row_4 (by decide) (fun c2 => ?_) (fun c2 => ?_)
  ·
    exact (dkN_nil (show dkN [] v1 from dkN_eq1 dv1 (dkN_lit (x := 0) (0) rfl) (congrArg Int32.toInt c2) rfl)).elim
  ·
    refine lv_iload_n hx hb dX6_row_7 rfl (lv_at hl 2 rfl) ?_
    refine lv_iconst (v := 0) hx hb dX6_row_8 (by decide) ?_
    refine lv_iconst (v := 2) hx hb dX6_row_9 (by decide) ?_
    refine dk_Si (As := [.int p1, .int 0, .int 2]) (rest := []) ⟨hx, hb, hml, hown, hts⟩ (c_X6_in_3 l g z I1 p1 0 2 dp1 (dkN_lit (x := 0) (0) rfl) (dkN_lit (x := 2) (2) rfl)) (va_cwS 3 hts gX6_row_X6_in rfl rfl rfl (by decide +kernel) ⟨Nat.le_of_ble_eq_true rfl, Nat.le_of_ble_eq_true rfl⟩) hK hW hS rfl hl.1 rfl (Nat.le_of_ble_eq_true rfl) dX6_row_10 ⟨Nat.zero_le _, Nat.zero_le _⟩ (fun v3 I3 H3 L3 hp3 hW hS => ?_)
    obtain ⟨dv3, hF3, -⟩ := hp3
    have hF := dkF_call hF hF3 rfl
    refine lv_if_eq (tgt := 22) hx hb dX6_row_13 (by decide) (fun c4 => ?_) (fun c4 => ?_)
    ·
      exact (dkN_nil (show dkN [] v3 from dkN_eq1 dv3 (dkN_lit (x := 0) (0) rfl) (congrArg Int32.toInt c4) rfl)).elim
    ·
      refine lv_iload_n hx hb dX6_row_16 rfl (lv_at hl 3 rfl) ?_
      refine lv_bipush (v := 40) hx hb dX6_row_17 (by decide) ?_
      refine lv_icmp_le (tgt := 25) hx hb dX6_row_19 (by decide) (fun c5 => ?_) (fun c5 => ?_)
      ·
        exact (dkN_nil (show dkN [] p2 from dkN_le1 0 dp2 (dkN_lit (x := 40) (40) rfl) (dkc_le c5) rfl)).elim
      ·
        refine lv_ldc (v := (-1000001)) hx hb hown (hts (.constant RX6 64 (-1000001)) (List.mem_of_getElem? (i := 1) rfl)) dX6_row_22 ?_
        exact W.iret (v := (-1000001)) hx hb hr (fun t ht hW9 => ⟨⟨(-1000001), I3, rfl, ⟨dkN_sub (dkN_lit (x := -1000001) (-1000001) rfl) rfl, hF, trivial⟩, dkW_eq ht hW⟩, hS.F ht⟩) hS.2.2 dX6_row_24
set_option maxHeartbeats 4000000 in
set_option maxRecDepth 100000 in
theorem c_X5_found_0 (l : Launch) (g : dkG) (z : Nat) (I0 : dkI) (p0 : Int32) (dp0 : dkN [(4, 4)] p0) : Met l yX5_found wsX5_found (dkR 0) (dkPc g z [.ref (z + 0), .int p0] I0) (dkQi g z (fun r I1 => dkN [(-1000014, -1000014)] r ∧ dkF [(0, 0, some 3)] I0 I1 ∧ dkN [(4, 4)] (I1 0 3) ∧ True)) 0 0 (dkA z) := by
  refine Met.ofW (cc := cX5_found) (maxL := 2) (ret := (some .int)) (by decide) rfl ?_
  intro p e s m args below meth c s₁ B hml hv
  obtain ⟨ha, hW, hK⟩ := hv
  have hx := B.exec
  have hb := B.bytes
  have hr := B.returns
  have hts := atoms_spec (ws := wsX5_found) B.pre
  have hown : s.vm.findClass RX5 = some m.cls := findClass_of_methodNamed B.named
  have hlocks := B.notSynchronized
  have hS : va_S (dkA z) s.heap s.heap [] := va_S.rf
  have hF : dkF [(0, 0, some 3)] I0 I0 := dkF_rf _ _
  have hl := lv_entry ([.ref (z + 0), .int p0]) (n := 2) (Nat.le_of_ble_eq_true rfl)
  have hgo : entryFrame m args 2 = entryFrame m ([.ref (z + 0), .int p0] : List Value).toArray 2 := by rw [ha]
  rw [hgo, lg_entry_eq]
  generalize (lg_sl ([.ref (z + 0), .int p0]) ++ List.replicate (2 - (lg_sl ([.ref (z + 0), .int p0])).length) Slot.unset).toArray = ls at hl ⊢
  have hl : lv_has ls 2 [(0, .ref (z + 0)), (1, .int p0)] := hl
  refine lv_aload_n hx hb dX5_found_0 rfl (lv_at hl 0 rfl) ?_
  refine lv_iload_n hx hb dX5_found_1 rfl (lv_at hl 1 rfl) ?_
  refine dk_put hx hb hts iX5_found_5 tyX5 tyX5_ok nmX5 hown hK hW (dk_at0 hW) hS rfl 3 (by decide) (hts (.fieldLink RX5 292 "DogKings" "finding" "I") (List.mem_of_getElem? (i := 1) rfl)) rfl rfl (Nat.le_of_ble_eq_true rfl) rfl dX5_found_2 (fun I1 H1 L1 eI1 hW hS => ?_)
  have eI1 : I1 = dkU I0 0 3 p0 := eI1
  have hF := dkF_set hF eI1 rfl
  refine lv_ldcw (v := (-1000010)) hx hb hown (hts (.constant RX5 295 (-1000010)) (List.mem_of_getElem? (i := 2) rfl)) dX5_found_5 ?_
  refine lv_iload_n hx hb dX5_found_8 rfl (lv_at hl 1 rfl) ?_
  refine lv_isub hx hb dX5_found_9 ?_
  refine lv_topi (fun v2 ev2 => ?_)
  have dv2 : dkN [(-1000014, -1000014)] v2 := by rw [ev2]; exact dkN_subt (dkN_lit (x := -1000010) (-1000010) rfl) dp0 rfl
  exact W.iret (v := v2) hx hb hr (fun t ht hW9 => ⟨⟨v2, I1, rfl, ⟨dkN_sub dv2 rfl, hF, dkN_sub (by rw [eI1, dkU_ss]; exact dp0) rfl, trivial⟩, dkW_eq ht hW⟩, hS.F ht⟩) hS.2.2 dX5_found_10
set_option maxHeartbeats 4000000 in
set_option maxRecDepth 100000 in
theorem c_X5_row_3 (l : Launch) (g : dkG) (z : Nat) (I0 : dkI) (p0 p1 p2 : Int32) (dp0 : dkN [(0, 7)] p0) (dp1 : dkN [(0, 2)] p1) (dp2 : dkN [(-2147483648, -1)] p2) : Met l yX5_row wsX5_row (dkR 2) (dkPc g z [.ref (z + 0), .int p0, .int p1, .int p2] I0) (dkQi g z (fun r I1 => dkN [(-1000014, -1000014)] r ∧ dkF [(0, 0, some 3)] I0 I1 ∧ dkN [(4, 4)] (I1 0 3) ∧ True)) 0 0 (dkA z) := by
  refine Met.ofW (cc := cX5_row) (maxL := 5) (ret := (some .int)) (by decide) rfl ?_
  intro p e s m args below meth c s₁ B hml hv
  obtain ⟨ha, hW, hK⟩ := hv
  have hx := B.exec
  have hb := B.bytes
  have hr := B.returns
  have hts := atoms_spec (ws := wsX5_row) B.pre
  have hown : s.vm.findClass RX5 = some m.cls := findClass_of_methodNamed B.named
  have hlocks := B.notSynchronized
  have hS : va_S (dkA z) s.heap s.heap [] := va_S.rf
  have hF : dkF [(0, 0, some 3)] I0 I0 := dkF_rf _ _
  have hl := lv_entry ([.ref (z + 0), .int p0, .int p1, .int p2]) (n := 5) (Nat.le_of_ble_eq_true rfl)
  have hgo : entryFrame m args 5 = entryFrame m ([.ref (z + 0), .int p0, .int p1, .int p2] : List Value).toArray 5 := by rw [ha]
  rw [hgo, lg_entry_eq]
  generalize (lg_sl ([.ref (z + 0), .int p0, .int p1, .int p2]) ++ List.replicate (5 - (lg_sl ([.ref (z + 0), .int p0, .int p1, .int p2])).length) Slot.unset).toArray = ls at hl ⊢
  have hl : lv_has ls 5 [(0, .ref (z + 0)), (1, .int p0), (2, .int p1), (3, .int p2)] := hl
  refine lv_iload_n hx hb dX5_row_0 rfl (lv_at hl 1 rfl) ?_
  refine dk_Si (As := [.int p0]) (rest := []) ⟨hx, hb, hml, hown, hts⟩ (c_X5_isRow_1 l g z I0 p0 dp0) (va_cwS 1 hts gX5_row_X5_isRow rfl rfl rfl (by decide +kernel) ⟨Nat.le_of_ble_eq_true rfl, Nat.le_of_ble_eq_true rfl⟩) hK hW hS rfl hl.1 rfl (Nat.le_of_ble_eq_true rfl) dX5_row_1 ⟨Nat.zero_le _, Nat.zero_le _⟩ (fun v1 I1 H1 L1 hp1 hW hS => ?_)
  obtain ⟨dv1, hF1, -⟩ := hp1
  have hF := dkF_call hF hF1 rfl
  refine lv_if_eq (tgt := 21) hx hb dX5_row_4 (by decide) (fun c2 => ?_) (fun c2 => ?_)
  ·
    exact (dkN_nil (show dkN [] v1 from dkN_eq1 dv1 (dkN_lit (x := 0) (0) rfl) (congrArg Int32.toInt c2) rfl)).elim
  ·
    refine lv_iload_n hx hb dX5_row_7 rfl (lv_at hl 2 rfl) ?_
    refine lv_iconst (v := 2) hx hb dX5_row_8 (by decide) ?_
    refine dk_Si (As := [.int p1, .int 2]) (rest := []) ⟨hx, hb, hml, hown, hts⟩ (c_X5_isUpTo_3 l g z I1 p1 2 dp1 (dkN_lit (x := 2) (2) rfl)) (va_cwS 2 hts gX5_row_X5_isUpTo rfl rfl rfl (by decide +kernel) ⟨Nat.le_of_ble_eq_true rfl, Nat.le_of_ble_eq_true rfl⟩) hK hW hS rfl hl.1 rfl (Nat.le_of_ble_eq_true rfl) dX5_row_9 ⟨Nat.zero_le _, Nat.zero_le _⟩ (fun v3 I3 H3 L3 hp3 hW hS => ?_)
    obtain ⟨dv3, hF3, -⟩ := hp3
    have hF := dkF_call hF hF3 rfl
    refine lv_if_eq (tgt := 21) hx hb dX5_row_12 (by decide) (fun c4 => ?_) (fun c4 => ?_)
    ·
      exact (dkN_nil (show dkN [] v3 from dkN_eq1 dv3 (dkN_lit (x := 0) (0) rfl) (congrArg Int32.toInt c4) rfl)).elim
    ·
      refine lv_iload_n hx hb dX5_row_15 rfl (lv_at hl 3 rfl) ?_
      refine lv_bipush (v := 40) hx hb dX5_row_16 (by decide) ?_
      refine lv_icmp_le (tgt := 24) hx hb dX5_row_18 (by decide) (fun c5 => ?_) (fun c5 => ?_)
      ·
        refine lv_iload_n hx hb dX5_row_24 rfl (lv_at hl 3 rfl) ?_
        refine lv_if_ge (tgt := 34) hx hb dX5_row_25 (by decide) (fun c6 => ?_) (fun c6 => ?_)
        ·
          exact (dkN_nil (show dkN [] 0 from dkN_le1 0 (dkN_lit (x := 0) (0) rfl) dp2 (dkc_le c6) rfl)).elim
        ·
          refine lv_aload_n hx hb dX5_row_28 rfl (lv_at hl 0 rfl) ?_
          refine lv_iconst (v := 4) hx hb dX5_row_29 (by decide) ?_
          refine dk_Vi (As := [.int 4]) (rest := []) ⟨hx, hb, hml, hown, hts⟩ (c_X5_found_0 l g z I3 4 (dkN_lit (x := 4) (4) rfl)) (cwV 1 hts gX5_row_X5_found rfl rfl rfl (by decide +kernel) ⟨Nat.le_of_ble_eq_true rfl, Nat.le_of_ble_eq_true rfl⟩) (dk_at0 hW) rfl hK hW hS rfl hl.1 rfl (Nat.le_of_ble_eq_true rfl) dX5_row_30 ⟨Nat.zero_le _, Nat.zero_le _⟩ (fun v7 I7 H7 L7 hp7 hW hS => ?_)
          obtain ⟨dv7, hF7, f7_0_3, -⟩ := hp7
          have hF := dkF_call hF hF7 rfl
          exact W.iret (v := v7) hx hb hr (fun t ht hW9 => ⟨⟨v7, I7, rfl, ⟨dkN_sub dv7 rfl, hF, dkN_sub f7_0_3 rfl, trivial⟩, dkW_eq ht hW⟩, hS.F ht⟩) hS.2.2 dX5_row_33
      ·
        exact (dkN_nil (show dkN [] p2 from dkN_le2 1 (dkN_lit (x := 40) (40) rfl) dp2 (dkc_nle c5) rfl)).elim
set_option maxHeartbeats 4000000 in
set_option maxRecDepth 100000 in
theorem c_X6_found_0 (l : Launch) (g : dkG) (z : Nat) (I0 : dkI) (p0 : Int32) (dp0 : dkN [(4, 4)] p0) : Met l yX6_found wsX6_found (dkR 0) (dkPc g z [.ref (z + 340), .int p0] I0) (dkQi g z (fun r I1 => dkN [(-1000014, -1000014)] r ∧ dkF [(340, 340, some 4)] I0 I1 ∧ dkN [(4, 4)] (I1 340 4) ∧ True)) 0 0 (dkA z) := by
  refine Met.ofW (cc := cX6_found) (maxL := 2) (ret := (some .int)) (by decide) rfl ?_
  intro p e s m args below meth c s₁ B hml hv
  obtain ⟨ha, hW, hK⟩ := hv
  have hx := B.exec
  have hb := B.bytes
  have hr := B.returns
  have hts := atoms_spec (ws := wsX6_found) B.pre
  have hown : s.vm.findClass RX6 = some m.cls := findClass_of_methodNamed B.named
  have hlocks := B.notSynchronized
  have hS : va_S (dkA z) s.heap s.heap [] := va_S.rf
  have hF : dkF [(340, 340, some 4)] I0 I0 := dkF_rf _ _
  have hl := lv_entry ([.ref (z + 340), .int p0]) (n := 2) (Nat.le_of_ble_eq_true rfl)
  have hgo : entryFrame m args 2 = entryFrame m ([.ref (z + 340), .int p0] : List Value).toArray 2 := by rw [ha]
  rw [hgo, lg_entry_eq]
  generalize (lg_sl ([.ref (z + 340), .int p0]) ++ List.replicate (2 - (lg_sl ([.ref (z + 340), .int p0])).length) Slot.unset).toArray = ls at hl ⊢
  have hl : lv_has ls 2 [(0, .ref (z + 340)), (1, .int p0)] := hl
  refine lv_aload_n hx hb dX6_found_0 rfl (lv_at hl 0 rfl) ?_
  refine lv_iload_n hx hb dX6_found_1 rfl (lv_at hl 1 rfl) ?_
  refine dk_put hx hb hts iX6_found_6 tyX6 tyX6_ok nmX6 hown hK hW (dk_at340 hW) hS rfl 4 (by decide) (hts (.fieldLink RX6 51 "DogKingsModel" "status" "I") (List.mem_of_getElem? (i := 1) rfl)) rfl rfl (Nat.le_of_ble_eq_true rfl) rfl dX6_found_2 (fun I1 H1 L1 eI1 hW hS => ?_)
  have eI1 : I1 = dkU I0 340 4 p0 := eI1
  have hF := dkF_set hF eI1 rfl
  refine lv_ldc (v := (-1000010)) hx hb hown (hts (.constant RX6 55 (-1000010)) (List.mem_of_getElem? (i := 2) rfl)) dX6_found_5 ?_
  refine lv_iload_n hx hb dX6_found_7 rfl (lv_at hl 1 rfl) ?_
  refine lv_isub hx hb dX6_found_8 ?_
  refine lv_topi (fun v2 ev2 => ?_)
  have dv2 : dkN [(-1000014, -1000014)] v2 := by rw [ev2]; exact dkN_subt (dkN_lit (x := -1000010) (-1000010) rfl) dp0 rfl
  exact W.iret (v := v2) hx hb hr (fun t ht hW9 => ⟨⟨v2, I1, rfl, ⟨dkN_sub dv2 rfl, hF, dkN_sub (by rw [eI1, dkU_ss]; exact dp0) rfl, trivial⟩, dkW_eq ht hW⟩, hS.F ht⟩) hS.2.2 dX6_found_9
set_option maxHeartbeats 4000000 in
set_option maxRecDepth 100000 in
theorem c_X6_row_3 (l : Launch) (g : dkG) (z : Nat) (I0 : dkI) (p0 p1 p2 : Int32) (dp0 : dkN [(0, 7)] p0) (dp1 : dkN [(0, 2)] p1) (dp2 : dkN [(-2147483648, -1)] p2) : Met l yX6_row wsX6_row (dkR 2) (dkPc g z [.ref (z + 340), .int p0, .int p1, .int p2] I0) (dkQi g z (fun r I1 => dkN [(-1000014, -1000014)] r ∧ dkF [(340, 340, some 4)] I0 I1 ∧ dkN [(4, 4)] (I1 340 4) ∧ True)) 0 0 (dkA z) := by
  refine Met.ofW (cc := cX6_row) (maxL := 5) (ret := (some .int)) (by decide) rfl ?_
  intro p e s m args below meth c s₁ B hml hv
  obtain ⟨ha, hW, hK⟩ := hv
  have hx := B.exec
  have hb := B.bytes
  have hr := B.returns
  have hts := atoms_spec (ws := wsX6_row) B.pre
  have hown : s.vm.findClass RX6 = some m.cls := findClass_of_methodNamed B.named
  have hlocks := B.notSynchronized
  have hS : va_S (dkA z) s.heap s.heap [] := va_S.rf
  have hF : dkF [(340, 340, some 4)] I0 I0 := dkF_rf _ _
  have hl := lv_entry ([.ref (z + 340), .int p0, .int p1, .int p2]) (n := 5) (Nat.le_of_ble_eq_true rfl)
  have hgo : entryFrame m args 5 = entryFrame m ([.ref (z + 340), .int p0, .int p1, .int p2] : List Value).toArray 5 := by rw [ha]
  rw [hgo, lg_entry_eq]
  generalize (lg_sl ([.ref (z + 340), .int p0, .int p1, .int p2]) ++ List.replicate (5 - (lg_sl ([.ref (z + 340), .int p0, .int p1, .int p2])).length) Slot.unset).toArray = ls at hl ⊢
  have hl : lv_has ls 5 [(0, .ref (z + 340)), (1, .int p0), (2, .int p1), (3, .int p2)] := hl
  refine lv_iload_n hx hb dX6_row_0 rfl (lv_at hl 1 rfl) ?_
  refine dk_Si (As := [.int p0]) (rest := []) ⟨hx, hb, hml, hown, hts⟩ (c_X6_isRow_1 l g z I0 p0 dp0) (va_cwS 1 hts gX6_row_X6_isRow rfl rfl rfl (by decide +kernel) ⟨Nat.le_of_ble_eq_true rfl, Nat.le_of_ble_eq_true rfl⟩) hK hW hS rfl hl.1 rfl (Nat.le_of_ble_eq_true rfl) dX6_row_1 ⟨Nat.zero_le _, Nat.zero_le _⟩ (fun v1 I1 H1 L1 hp1 hW hS => ?_)
  obtain ⟨dv1, hF1, -⟩ := hp1
  have hF := dkF_call hF hF1 rfl
  refine lv_if_eq (tgt := 22) hx hb dX6_row_4 (by decide) (fun c2 => ?_) (fun c2 => ?_)
  ·
    exact (dkN_nil (show dkN [] v1 from dkN_eq1 dv1 (dkN_lit (x := 0) (0) rfl) (congrArg Int32.toInt c2) rfl)).elim
  ·
    refine lv_iload_n hx hb dX6_row_7 rfl (lv_at hl 2 rfl) ?_
    refine lv_iconst (v := 0) hx hb dX6_row_8 (by decide) ?_
    refine lv_iconst (v := 2) hx hb dX6_row_9 (by decide) ?_
    refine dk_Si (As := [.int p1, .int 0, .int 2]) (rest := []) ⟨hx, hb, hml, hown, hts⟩ (c_X6_in_3 l g z I1 p1 0 2 dp1 (dkN_lit (x := 0) (0) rfl) (dkN_lit (x := 2) (2) rfl)) (va_cwS 3 hts gX6_row_X6_in rfl rfl rfl (by decide +kernel) ⟨Nat.le_of_ble_eq_true rfl, Nat.le_of_ble_eq_true rfl⟩) hK hW hS rfl hl.1 rfl (Nat.le_of_ble_eq_true rfl) dX6_row_10 ⟨Nat.zero_le _, Nat.zero_le _⟩ (fun v3 I3 H3 L3 hp3 hW hS => ?_)
    obtain ⟨dv3, hF3, -⟩ := hp3
    have hF := dkF_call hF hF3 rfl
    refine lv_if_eq (tgt := 22) hx hb dX6_row_13 (by decide) (fun c4 => ?_) (fun c4 => ?_)
    ·
      exact (dkN_nil (show dkN [] v3 from dkN_eq1 dv3 (dkN_lit (x := 0) (0) rfl) (congrArg Int32.toInt c4) rfl)).elim
    ·
      refine lv_iload_n hx hb dX6_row_16 rfl (lv_at hl 3 rfl) ?_
      refine lv_bipush (v := 40) hx hb dX6_row_17 (by decide) ?_
      refine lv_icmp_le (tgt := 25) hx hb dX6_row_19 (by decide) (fun c5 => ?_) (fun c5 => ?_)
      ·
        refine lv_iload_n hx hb dX6_row_25 rfl (lv_at hl 3 rfl) ?_
        refine lv_if_ge (tgt := 35) hx hb dX6_row_26 (by decide) (fun c6 => ?_) (fun c6 => ?_)
        ·
          exact (dkN_nil (show dkN [] 0 from dkN_le1 0 (dkN_lit (x := 0) (0) rfl) dp2 (dkc_le c6) rfl)).elim
        ·
          refine lv_aload_n hx hb dX6_row_29 rfl (lv_at hl 0 rfl) ?_
          refine lv_iconst (v := 4) hx hb dX6_row_30 (by decide) ?_
          refine dk_Vi (As := [.int 4]) (rest := []) ⟨hx, hb, hml, hown, hts⟩ (c_X6_found_0 l g z I3 4 (dkN_lit (x := 4) (4) rfl)) (cwV 1 hts gX6_row_X6_found rfl rfl rfl (by decide +kernel) ⟨Nat.le_of_ble_eq_true rfl, Nat.le_of_ble_eq_true rfl⟩) (dk_at340 hW) rfl hK hW hS rfl hl.1 rfl (Nat.le_of_ble_eq_true rfl) dX6_row_31 ⟨Nat.zero_le _, Nat.zero_le _⟩ (fun v7 I7 H7 L7 hp7 hW hS => ?_)
          obtain ⟨dv7, hF7, f7_340_4, -⟩ := hp7
          have hF := dkF_call hF hF7 rfl
          exact W.iret (v := v7) hx hb hr (fun t ht hW9 => ⟨⟨v7, I7, rfl, ⟨dkN_sub dv7 rfl, hF, dkN_sub f7_340_4 rfl, trivial⟩, dkW_eq ht hW⟩, hS.F ht⟩) hS.2.2 dX6_row_34
      ·
        exact (dkN_nil (show dkN [] p2 from dkN_le2 1 (dkN_lit (x := 40) (40) rfl) dp2 (dkc_nle c5) rfl)).elim
set_option maxHeartbeats 4000000 in
set_option maxRecDepth 100000 in
theorem c_X5_isUpTo_4 (l : Launch) (g : dkG) (z : Nat) (I0 : dkI) (p0 p1 : Int32) (dp0 : dkN [(0, 0)] p0) (dp1 : dkN [(7, 7)] p1) : Met l yX5_isUpTo wsX5_isUpTo (dkR 0) (dkPc g z [.int p0, .int p1] I0) (dkQi g z (fun r I1 => dkN [(1, 1)] r ∧ dkF [] I0 I1 ∧ True)) 0 0 (dkA z) := by
  refine Met.ofW (cc := cX5_isUpTo) (maxL := 2) (ret := (some .boolean)) (by decide) rfl ?_
  intro p e s m args below meth c s₁ B hml hv
  obtain ⟨ha, hW, hK⟩ := hv
  have hx := B.exec
  have hb := B.bytes
  have hr := B.returns
  have hts := atoms_spec (ws := wsX5_isUpTo) B.pre
  have hown : s.vm.findClass RX5 = some m.cls := findClass_of_methodNamed B.named
  have hlocks := B.notSynchronized
  have hS : va_S (dkA z) s.heap s.heap [] := va_S.rf
  have hF : dkF [] I0 I0 := dkF_rf _ _
  have hl := lv_entry ([.int p0, .int p1]) (n := 2) (Nat.le_of_ble_eq_true rfl)
  have hgo : entryFrame m args 2 = entryFrame m ([.int p0, .int p1] : List Value).toArray 2 := by rw [ha]
  rw [hgo, lg_entry_eq]
  generalize (lg_sl ([.int p0, .int p1]) ++ List.replicate (2 - (lg_sl ([.int p0, .int p1])).length) Slot.unset).toArray = ls at hl ⊢
  have hl : lv_has ls 2 [(0, .int p0), (1, .int p1)] := hl
  refine lv_iload_n hx hb dX5_isUpTo_0 rfl (lv_at hl 0 rfl) ?_
  refine lv_if_lt (tgt := 13) hx hb dX5_isUpTo_1 (by decide) (fun c1 => ?_) (fun c1 => ?_)
  ·
    exact (dkN_nil (show dkN [] p0 from dkN_le1 1 dp0 (dkN_lit (x := 0) (0) rfl) (dkc_lt c1) rfl)).elim
  ·
    refine lv_iload_n hx hb dX5_isUpTo_4 rfl (lv_at hl 0 rfl) ?_
    refine lv_iload_n hx hb dX5_isUpTo_5 rfl (lv_at hl 1 rfl) ?_
    refine lv_icmp_gt (tgt := 13) hx hb dX5_isUpTo_6 (by decide) (fun c2 => ?_) (fun c2 => ?_)
    ·
      exact (dkN_nil (show dkN [] p1 from dkN_le1 1 dp1 dp0 (dkc_lt c2) rfl)).elim
    ·
      refine lv_iconst (v := 1) hx hb dX5_isUpTo_9 (by decide) ?_
      refine lv_goto (tgt := 14) hx hb dX5_isUpTo_10 (by decide) ?_
      exact W.zret (v := 1) (ty := .boolean) hx hb hr rfl (fun t ht hW9 => ⟨⟨1, I0, rfl, ⟨dkN_sub (dkN_lit (x := 1) (1) rfl) rfl, hF, trivial⟩, dkW_eq ht hW⟩, hS.F ht⟩) hS.2.2 dX5_isUpTo_14
set_option maxHeartbeats 4000000 in
set_option maxRecDepth 100000 in
theorem c_X5_isRow_2 (l : Launch) (g : dkG) (z : Nat) (I0 : dkI) (p0 : Int32) (dp0 : dkN [(0, 0)] p0) : Met l yX5_isRow wsX5_isRow (dkR 1) (dkPc g z [.int p0] I0) (dkQi g z (fun r I1 => dkN [(1, 1)] r ∧ dkF [] I0 I1 ∧ True)) 0 0 (dkA z) := by
  refine Met.ofW (cc := cX5_isRow) (maxL := 1) (ret := (some .boolean)) (by decide) rfl ?_
  intro p e s m args below meth c s₁ B hml hv
  obtain ⟨ha, hW, hK⟩ := hv
  have hx := B.exec
  have hb := B.bytes
  have hr := B.returns
  have hts := atoms_spec (ws := wsX5_isRow) B.pre
  have hown : s.vm.findClass RX5 = some m.cls := findClass_of_methodNamed B.named
  have hlocks := B.notSynchronized
  have hS : va_S (dkA z) s.heap s.heap [] := va_S.rf
  have hF : dkF [] I0 I0 := dkF_rf _ _
  have hl := lv_entry ([.int p0]) (n := 1) (Nat.le_of_ble_eq_true rfl)
  have hgo : entryFrame m args 1 = entryFrame m ([.int p0] : List Value).toArray 1 := by rw [ha]
  rw [hgo, lg_entry_eq]
  generalize (lg_sl ([.int p0]) ++ List.replicate (1 - (lg_sl ([.int p0])).length) Slot.unset).toArray = ls at hl ⊢
  have hl : lv_has ls 1 [(0, .int p0)] := hl
  refine lv_iload_n hx hb dX5_isRow_0 rfl (lv_at hl 0 rfl) ?_
  refine lv_bipush (v := 7) hx hb dX5_isRow_1 (by decide) ?_
  refine dk_Si (As := [.int p0, .int 7]) (rest := []) ⟨hx, hb, hml, hown, hts⟩ (c_X5_isUpTo_4 l g z I0 p0 7 dp0 (dkN_lit (x := 7) (7) rfl)) (va_cwS 2 hts gX5_isRow_X5_isUpTo rfl rfl rfl (by decide +kernel) ⟨Nat.le_of_ble_eq_true rfl, Nat.le_of_ble_eq_true rfl⟩) hK hW hS rfl hl.1 rfl (Nat.le_of_ble_eq_true rfl) dX5_isRow_3 ⟨Nat.zero_le _, Nat.zero_le _⟩ (fun v1 I1 H1 L1 hp1 hW hS => ?_)
  obtain ⟨dv1, hF1, -⟩ := hp1
  have hF := dkF_call hF hF1 rfl
  exact W.zret (v := v1) (ty := .boolean) hx hb hr (dkN_zr dv1 rfl) (fun t ht hW9 => ⟨⟨v1, I1, rfl, ⟨dkN_sub dv1 rfl, hF, trivial⟩, dkW_eq ht hW⟩, hS.F ht⟩) hS.2.2 dX5_isRow_6
set_option maxHeartbeats 4000000 in
set_option maxRecDepth 100000 in
theorem c_X5_nothingFound_0 (l : Launch) (g : dkG) (z : Nat) (I0 : dkI) (p0 : Int32) (dp0 : dkN [(0, 0)] p0) : Met l yX5_nothingFound wsX5_nothingFound (dkR 0) (dkPc g z [.ref (z + 0), .int p0] I0) (dkQi g z (fun r I1 => dkN [(0, 0)] r ∧ dkF [(0, 0, some 3)] I0 I1 ∧ dkN [(0, 0)] (I1 0 3) ∧ r = p0 ∧ True)) 0 0 (dkA z) := by
  refine Met.ofW (cc := cX5_nothingFound) (maxL := 2) (ret := (some .int)) (by decide) rfl ?_
  intro p e s m args below meth c s₁ B hml hv
  obtain ⟨ha, hW, hK⟩ := hv
  have hx := B.exec
  have hb := B.bytes
  have hr := B.returns
  have hts := atoms_spec (ws := wsX5_nothingFound) B.pre
  have hown : s.vm.findClass RX5 = some m.cls := findClass_of_methodNamed B.named
  have hlocks := B.notSynchronized
  have hS : va_S (dkA z) s.heap s.heap [] := va_S.rf
  have hF : dkF [(0, 0, some 3)] I0 I0 := dkF_rf _ _
  have hl := lv_entry ([.ref (z + 0), .int p0]) (n := 2) (Nat.le_of_ble_eq_true rfl)
  have hgo : entryFrame m args 2 = entryFrame m ([.ref (z + 0), .int p0] : List Value).toArray 2 := by rw [ha]
  rw [hgo, lg_entry_eq]
  generalize (lg_sl ([.ref (z + 0), .int p0]) ++ List.replicate (2 - (lg_sl ([.ref (z + 0), .int p0])).length) Slot.unset).toArray = ls at hl ⊢
  have hl : lv_has ls 2 [(0, .ref (z + 0)), (1, .int p0)] := hl
  refine lv_aload_n hx hb dX5_nothingFound_0 rfl (lv_at hl 0 rfl) ?_
  refine lv_iconst (v := 0) hx hb dX5_nothingFound_1 (by decide) ?_
  refine dk_put hx hb hts iX5_nothingFound_5 tyX5 tyX5_ok nmX5 hown hK hW (dk_at0 hW) hS rfl 3 (by decide) (hts (.fieldLink RX5 292 "DogKings" "finding" "I") (List.mem_of_getElem? (i := 1) rfl)) rfl rfl (Nat.le_of_ble_eq_true rfl) rfl dX5_nothingFound_2 (fun I1 H1 L1 eI1 hW hS => ?_)
  have eI1 : I1 = dkU I0 0 3 0 := eI1
  have hF := dkF_set hF eI1 rfl
  refine lv_iload_n hx hb dX5_nothingFound_5 rfl (lv_at hl 1 rfl) ?_
  exact W.iret (v := p0) hx hb hr (fun t ht hW9 => ⟨⟨p0, I1, rfl, ⟨dkN_sub dp0 rfl, hF, dkN_sub (by rw [eI1, dkU_ss]; exact (dkN_lit (x := 0) (0) rfl)) rfl, rfl, trivial⟩, dkW_eq ht hW⟩, hS.F ht⟩) hS.2.2 dX5_nothingFound_6
set_option maxHeartbeats 4000000 in
set_option maxRecDepth 100000 in
theorem c_X5_nothingFound_1 (l : Launch) (g : dkG) (z : Nat) (I0 : dkI) (p0 : Int32) (dp0 : dkN [(0, 1)] p0) : Met l yX5_nothingFound wsX5_nothingFound (dkR 0) (dkPc g z [.ref (z + 0), .int p0] I0) (dkQi g z (fun r I1 => dkN [(0, 1)] r ∧ dkF [(0, 0, some 3)] I0 I1 ∧ dkN [(0, 0)] (I1 0 3) ∧ r = p0 ∧ True)) 0 0 (dkA z) := by
  refine Met.ofW (cc := cX5_nothingFound) (maxL := 2) (ret := (some .int)) (by decide) rfl ?_
  intro p e s m args below meth c s₁ B hml hv
  obtain ⟨ha, hW, hK⟩ := hv
  have hx := B.exec
  have hb := B.bytes
  have hr := B.returns
  have hts := atoms_spec (ws := wsX5_nothingFound) B.pre
  have hown : s.vm.findClass RX5 = some m.cls := findClass_of_methodNamed B.named
  have hlocks := B.notSynchronized
  have hS : va_S (dkA z) s.heap s.heap [] := va_S.rf
  have hF : dkF [(0, 0, some 3)] I0 I0 := dkF_rf _ _
  have hl := lv_entry ([.ref (z + 0), .int p0]) (n := 2) (Nat.le_of_ble_eq_true rfl)
  have hgo : entryFrame m args 2 = entryFrame m ([.ref (z + 0), .int p0] : List Value).toArray 2 := by rw [ha]
  rw [hgo, lg_entry_eq]
  generalize (lg_sl ([.ref (z + 0), .int p0]) ++ List.replicate (2 - (lg_sl ([.ref (z + 0), .int p0])).length) Slot.unset).toArray = ls at hl ⊢
  have hl : lv_has ls 2 [(0, .ref (z + 0)), (1, .int p0)] := hl
  refine lv_aload_n hx hb dX5_nothingFound_0 rfl (lv_at hl 0 rfl) ?_
  refine lv_iconst (v := 0) hx hb dX5_nothingFound_1 (by decide) ?_
  refine dk_put hx hb hts iX5_nothingFound_5 tyX5 tyX5_ok nmX5 hown hK hW (dk_at0 hW) hS rfl 3 (by decide) (hts (.fieldLink RX5 292 "DogKings" "finding" "I") (List.mem_of_getElem? (i := 1) rfl)) rfl rfl (Nat.le_of_ble_eq_true rfl) rfl dX5_nothingFound_2 (fun I1 H1 L1 eI1 hW hS => ?_)
  have eI1 : I1 = dkU I0 0 3 0 := eI1
  have hF := dkF_set hF eI1 rfl
  refine lv_iload_n hx hb dX5_nothingFound_5 rfl (lv_at hl 1 rfl) ?_
  exact W.iret (v := p0) hx hb hr (fun t ht hW9 => ⟨⟨p0, I1, rfl, ⟨dkN_sub dp0 rfl, hF, dkN_sub (by rw [eI1, dkU_ss]; exact (dkN_lit (x := 0) (0) rfl)) rfl, rfl, trivial⟩, dkW_eq ht hW⟩, hS.F ht⟩) hS.2.2 dX5_nothingFound_6
set_option maxHeartbeats 4000000 in
set_option maxRecDepth 100000 in
theorem c_X5_nothingFound_2 (l : Launch) (g : dkG) (z : Nat) (I0 : dkI) (p0 : Int32) (dp0 : dkN [(0, 2)] p0) : Met l yX5_nothingFound wsX5_nothingFound (dkR 0) (dkPc g z [.ref (z + 0), .int p0] I0) (dkQi g z (fun r I1 => dkN [(0, 2)] r ∧ dkF [(0, 0, some 3)] I0 I1 ∧ dkN [(0, 0)] (I1 0 3) ∧ r = p0 ∧ True)) 0 0 (dkA z) := by
  refine Met.ofW (cc := cX5_nothingFound) (maxL := 2) (ret := (some .int)) (by decide) rfl ?_
  intro p e s m args below meth c s₁ B hml hv
  obtain ⟨ha, hW, hK⟩ := hv
  have hx := B.exec
  have hb := B.bytes
  have hr := B.returns
  have hts := atoms_spec (ws := wsX5_nothingFound) B.pre
  have hown : s.vm.findClass RX5 = some m.cls := findClass_of_methodNamed B.named
  have hlocks := B.notSynchronized
  have hS : va_S (dkA z) s.heap s.heap [] := va_S.rf
  have hF : dkF [(0, 0, some 3)] I0 I0 := dkF_rf _ _
  have hl := lv_entry ([.ref (z + 0), .int p0]) (n := 2) (Nat.le_of_ble_eq_true rfl)
  have hgo : entryFrame m args 2 = entryFrame m ([.ref (z + 0), .int p0] : List Value).toArray 2 := by rw [ha]
  rw [hgo, lg_entry_eq]
  generalize (lg_sl ([.ref (z + 0), .int p0]) ++ List.replicate (2 - (lg_sl ([.ref (z + 0), .int p0])).length) Slot.unset).toArray = ls at hl ⊢
  have hl : lv_has ls 2 [(0, .ref (z + 0)), (1, .int p0)] := hl
  refine lv_aload_n hx hb dX5_nothingFound_0 rfl (lv_at hl 0 rfl) ?_
  refine lv_iconst (v := 0) hx hb dX5_nothingFound_1 (by decide) ?_
  refine dk_put hx hb hts iX5_nothingFound_5 tyX5 tyX5_ok nmX5 hown hK hW (dk_at0 hW) hS rfl 3 (by decide) (hts (.fieldLink RX5 292 "DogKings" "finding" "I") (List.mem_of_getElem? (i := 1) rfl)) rfl rfl (Nat.le_of_ble_eq_true rfl) rfl dX5_nothingFound_2 (fun I1 H1 L1 eI1 hW hS => ?_)
  have eI1 : I1 = dkU I0 0 3 0 := eI1
  have hF := dkF_set hF eI1 rfl
  refine lv_iload_n hx hb dX5_nothingFound_5 rfl (lv_at hl 1 rfl) ?_
  exact W.iret (v := p0) hx hb hr (fun t ht hW9 => ⟨⟨p0, I1, rfl, ⟨dkN_sub dp0 rfl, hF, dkN_sub (by rw [eI1, dkU_ss]; exact (dkN_lit (x := 0) (0) rfl)) rfl, rfl, trivial⟩, dkW_eq ht hW⟩, hS.F ht⟩) hS.2.2 dX5_nothingFound_6
