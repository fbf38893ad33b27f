set_option maxHeartbeats 4000000 in
set_option maxRecDepth 100000 in
theorem c_X5_isUpTo_1 (l : Launch) (g : dkG) (z : Nat) (I0 : dkI) (p0 : Int32) (p1 : Int32) (dp1 : dkN [(2, 2)] p1)  (hO : dkOk I0) : Met l yX5_isUpTo wsX5_isUpTo (dkR 0) (dkPc g z [.int p0, .int p1] I0) (dkQi g z (fun r I1 => dkF [] I0 I1 ∧ dkOk I1 ∧ ((dkN [(0, 0)] r ∧ dkN [(-2147483648, -1), (3, 2147483647)] p0 ∧ True) ∨ (dkN [(1, 1)] r ∧ dkN [(0, 2)] p0 ∧ True)))) 0 0 (dkA z) := by
  refine Met.ofW (cc := cX5_isUpTo) (maxL := 2) (ret := (some .boolean)) (by decide) rfl ?_
  intro p e s m args below meth c s₁ B hml hv
  obtain ⟨ha, hW, hK, hT⟩ := hv
  have hx := B.exec
  have hb := B.bytes
  have hr := B.returns
  have hts := atoms_spec (ws := wsX5_isUpTo) B.pre
  have hown : s.vm.findClass RX5 = some m.cls := findClass_of_methodNamed B.named
  have hlocks := B.notSynchronized
  have hS : va_S (dkA z) s.heap s.heap [] := va_S.rf
  have hF : dkF [] I0 I0 := dkF_rf _ _
  have hl := lv_entry ([.int p0, .int p1]) (n := 2) (Nat.le_of_ble_eq_true rfl)
  have hgo : entryFrame m args 2 = entryFrame m ([.int p0, .int p1] : List Value).toArray 2 := by rw [ha]
  rw [hgo, lg_entry_eq]
  generalize (lg_sl ([.int p0, .int p1]) ++ List.replicate (2 - (lg_sl ([.int p0, .int p1])).length) Slot.unset).toArray = ls at hl ⊢
  have hl : lv_has ls 2 [(0, .int p0), (1, .int p1)] := hl
  refine lv_iload_n hx hb dX5_isUpTo_0 rfl (lv_at hl 0 rfl) ?_
  refine lv_if_lt (tgt := 13) hx hb dX5_isUpTo_1 (by decide) (fun c1 => ?_) (fun c1 => ?_)
  ·
    have d2 : dkN [(-2147483648, -1)] p0 := dkN_le1 1 (dkN_top p0) (dkN_lit (x := 0) (0) rfl) (dkc_lt c1) rfl
    refine lv_iconst (v := 0) hx hb dX5_isUpTo_13 (by decide) ?_
    exact W.zret (v := 0) (ty := .boolean) hx hb hr rfl (fun t ht hW9 => ⟨⟨0, I0, rfl, ⟨hF, hO, Or.inl ⟨dkN_sub (dkN_lit (x := 0) (0) rfl) rfl, dkN_sub d2 rfl, trivial⟩⟩, dkW_eq ht hW⟩, hS.F ht⟩) hS.2.2 dX5_isUpTo_14
  ·
    have d3 : dkN [(0, 2147483647)] p0 := dkN_le2 0 (dkN_lit (x := 0) (0) rfl) (dkN_top p0) (dkc_nlt c1) rfl
    refine lv_iload_n hx hb dX5_isUpTo_4 rfl (lv_at hl 0 rfl) ?_
    refine lv_iload_n hx hb dX5_isUpTo_5 rfl (lv_at hl 1 rfl) ?_
    refine lv_icmp_gt (tgt := 13) hx hb dX5_isUpTo_6 (by decide) (fun c4 => ?_) (fun c4 => ?_)
    ·
      have d5 : dkN [(3, 2147483647)] p0 := dkN_le2 1 dp1 d3 (dkc_lt c4) rfl
      refine lv_iconst (v := 0) hx hb dX5_isUpTo_13 (by decide) ?_
      exact W.zret (v := 0) (ty := .boolean) hx hb hr rfl (fun t ht hW9 => ⟨⟨0, I0, rfl, ⟨hF, hO, Or.inl ⟨dkN_sub (dkN_lit (x := 0) (0) rfl) rfl, dkN_sub d5 rfl, trivial⟩⟩, dkW_eq ht hW⟩, hS.F ht⟩) hS.2.2 dX5_isUpTo_14
    ·
      have d6 : dkN [(0, 2)] p0 := dkN_le1 0 d3 dp1 (dkc_nlt c4) rfl
      refine lv_iconst (v := 1) hx hb dX5_isUpTo_9 (by decide) ?_
      refine lv_goto (tgt := 14) hx hb dX5_isUpTo_10 (by decide) ?_
      exact W.zret (v := 1) (ty := .boolean) hx hb hr rfl (fun t ht hW9 => ⟨⟨1, I0, rfl, ⟨hF, hO, Or.inr (⟨dkN_sub (dkN_lit (x := 1) (1) rfl) rfl, dkN_sub d6 rfl, trivial⟩)⟩, dkW_eq ht hW⟩, hS.F ht⟩) hS.2.2 dX5_isUpTo_14
set_option maxHeartbeats 4000000 in
set_option maxRecDepth 100000 in
theorem c_X6_in_1 (l : Launch) (g : dkG) (z : Nat) (I0 : dkI) (p0 : Int32) (p1 : Int32) (p2 : Int32) (dp1 : dkN [(0, 0)] p1) (dp2 : dkN [(2, 2)] p2)  (hO : dkOk I0) : Met l yX6_in wsX6_in (dkR 0) (dkPc g z [.int p0, .int p1, .int p2] I0) (dkQi g z (fun r I1 => dkF [] I0 I1 ∧ dkOk I1 ∧ ((dkN [(0, 0)] r ∧ dkN [(-2147483648, -1), (3, 2147483647)] p0 ∧ True) ∨ (dkN [(1, 1)] r ∧ dkN [(0, 2)] p0 ∧ True)))) 0 0 (dkA z) := by
  refine Met.ofW (cc := cX6_in) (maxL := 3) (ret := (some .boolean)) (by decide) rfl ?_
  intro p e s m args below meth c s₁ B hml hv
  obtain ⟨ha, hW, hK, hT⟩ := hv
  have hx := B.exec
  have hb := B.bytes
  have hr := B.returns
  have hts := atoms_spec (ws := wsX6_in) B.pre
  have hown : s.vm.findClass RX6 = some m.cls := findClass_of_methodNamed B.named
  have hlocks := B.notSynchronized
  have hS : va_S (dkA z) s.heap s.heap [] := va_S.rf
  have hF : dkF [] I0 I0 := dkF_rf _ _
  have hl := lv_entry ([.int p0, .int p1, .int p2]) (n := 3) (Nat.le_of_ble_eq_true rfl)
  have hgo : entryFrame m args 3 = entryFrame m ([.int p0, .int p1, .int p2] : List Value).toArray 3 := by rw [ha]
  rw [hgo, lg_entry_eq]
  generalize (lg_sl ([.int p0, .int p1, .int p2]) ++ List.replicate (3 - (lg_sl ([.int p0, .int p1, .int p2])).length) Slot.unset).toArray = ls at hl ⊢
  have hl : lv_has ls 3 [(0, .int p0), (1, .int p1), (2, .int p2)] := hl
  refine lv_iload_n hx hb dX6_in_0 rfl (lv_at hl 0 rfl) ?_
  refine lv_iload_n hx hb dX6_in_1 rfl (lv_at hl 1 rfl) ?_
  refine lv_icmp_lt (tgt := 14) hx hb dX6_in_2 (by decide) (fun c1 => ?_) (fun c1 => ?_)
  ·
    have d2 : dkN [(-2147483648, -1)] p0 := dkN_le1 1 (dkN_top p0) dp1 (dkc_lt c1) rfl
    refine lv_iconst (v := 0) hx hb dX6_in_14 (by decide) ?_
    exact W.zret (v := 0) (ty := .boolean) hx hb hr rfl (fun t ht hW9 => ⟨⟨0, I0, rfl, ⟨hF, hO, Or.inl ⟨dkN_sub (dkN_lit (x := 0) (0) rfl) rfl, dkN_sub d2 rfl, trivial⟩⟩, dkW_eq ht hW⟩, hS.F ht⟩) hS.2.2 dX6_in_15
  ·
    have d3 : dkN [(0, 2147483647)] p0 := dkN_le2 0 dp1 (dkN_top p0) (dkc_nlt c1) rfl
    refine lv_iload_n hx hb dX6_in_5 rfl (lv_at hl 0 rfl) ?_
    refine lv_iload_n hx hb dX6_in_6 rfl (lv_at hl 2 rfl) ?_
    refine lv_icmp_gt (tgt := 14) hx hb dX6_in_7 (by decide) (fun c4 => ?_) (fun c4 => ?_)
    ·
      have d5 : dkN [(3, 2147483647)] p0 := dkN_le2 1 dp2 d3 (dkc_lt c4) rfl
      refine lv_iconst (v := 0) hx hb dX6_in_14 (by decide) ?_
      exact W.zret (v := 0) (ty := .boolean) hx hb hr rfl (fun t ht hW9 => ⟨⟨0, I0, rfl, ⟨hF, hO, Or.inl ⟨dkN_sub (dkN_lit (x := 0) (0) rfl) rfl, dkN_sub d5 rfl, trivial⟩⟩, dkW_eq ht hW⟩, hS.F ht⟩) hS.2.2 dX6_in_15
    ·
      have d6 : dkN [(0, 2)] p0 := dkN_le1 0 d3 dp2 (dkc_nlt c4) rfl
      refine lv_iconst (v := 1) hx hb dX6_in_10 (by decide) ?_
      refine lv_goto (tgt := 15) hx hb dX6_in_11 (by decide) ?_
      exact W.zret (v := 1) (ty := .boolean) hx hb hr rfl (fun t ht hW9 => ⟨⟨1, I0, rfl, ⟨hF, hO, Or.inr (⟨dkN_sub (dkN_lit (x := 1) (1) rfl) rfl, dkN_sub d6 rfl, trivial⟩)⟩, dkW_eq ht hW⟩, hS.F ht⟩) hS.2.2 dX6_in_15
set_option maxHeartbeats 4000000 in
set_option maxRecDepth 100000 in
theorem c_X5_isMissing_0 (l : Launch) (g : dkG) (z : Nat) (I0 : dkI) (p0 : Int32) (dp0 : dkN [(0, 7)] p0)  (hO : dkOk I0) : Met l yX5_isMissing wsX5_isMissing (dkR 0) (dkPc g z [.ref (z + 0), .int p0] I0) (dkQi g z (fun r I1 => dkF [] I0 I1 ∧ dkOk I1 ∧ ((dkN [(0, 1)] r ∧ True)))) 0 0 (dkA z) := by
  refine Met.ofW (cc := cX5_isMissing) (maxL := 2) (ret := (some .boolean)) (by decide) rfl ?_
  intro p e s m args below meth c s₁ B hml hv
  obtain ⟨ha, hW, hK, hT⟩ := hv
  have hx := B.exec
  have hb := B.bytes
  have hr := B.returns
  have hts := atoms_spec (ws := wsX5_isMissing) B.pre
  have hown : s.vm.findClass RX5 = some m.cls := findClass_of_methodNamed B.named
  have hlocks := B.notSynchronized
  have hS : va_S (dkA z) s.heap s.heap [] := va_S.rf
  have hF : dkF [] I0 I0 := dkF_rf _ _
  have hl := lv_entry ([.ref (z + 0), .int p0]) (n := 2) (Nat.le_of_ble_eq_true rfl)
  have hgo : entryFrame m args 2 = entryFrame m ([.ref (z + 0), .int p0] : List Value).toArray 2 := by rw [ha]
  rw [hgo, lg_entry_eq]
  generalize (lg_sl ([.ref (z + 0), .int p0]) ++ List.replicate (2 - (lg_sl ([.ref (z + 0), .int p0])).length) Slot.unset).toArray = ls at hl ⊢
  have hl : lv_has ls 2 [(0, .ref (z + 0)), (1, .int p0)] := hl
  refine lv_aload_n hx hb dX5_isMissing_0 rfl (lv_at hl 0 rfl) ?_
  refine dk_get (k := 0) hx hb hts iX5_isMissing_5 hown hK (dk_at0 hW) rfl 2 (by decide) (hts (.fieldLink RX5 18 "DogKings" "sizes" "[I") (List.mem_of_getElem? (i := 1) rfl)) rfl dX5_isMissing_1 ?_
  refine lv_iload_n hx hb dX5_isMissing_4 rfl (lv_at hl 1 rfl) ?_
  refine dk_ild (k := 11) hx hb hK (dk_at11 hW) (dkN_in (n := 8) dp0 rfl) dX5_isMissing_5 ?_
  refine lv_topi (fun v1 ev1 => ?_)
  have dv1 : dkN [(-1, 40)] v1 := by rw [ev1]; exact (hO 11 _)
  refine lv_iconst (v := (-1)) hx hb dX5_isMissing_6 (by decide) ?_
  refine lv_icmp_ne (tgt := 14) hx hb dX5_isMissing_7 (by decide) (fun c2 => ?_) (fun c2 => ?_)
  ·
    have d3 : dkN [(0, 40)] v1 := dkN_ne1 (-1) dv1 (dkN_lit (x := (-1)) (-1) rfl) (dk_ne c2) rfl
    refine lv_iconst (v := 0) hx hb dX5_isMissing_14 (by decide) ?_
    exact W.zret (v := 0) (ty := .boolean) hx hb hr rfl (fun t ht hW9 => ⟨⟨0, I0, rfl, ⟨hF, hO, ⟨dkN_sub (dkN_lit (x := 0) (0) rfl) rfl, trivial⟩⟩, dkW_eq ht hW⟩, hS.F ht⟩) hS.2.2 dX5_isMissing_15
  ·
    have d4 : dkN [(-1, -1)] v1 := dkN_eq1 dv1 (dkN_lit (x := (-1)) (-1) rfl) (congrArg Int32.toInt c2) rfl
    refine lv_iconst (v := 1) hx hb dX5_isMissing_10 (by decide) ?_
    refine lv_goto (tgt := 15) hx hb dX5_isMissing_11 (by decide) ?_
    exact W.zret (v := 1) (ty := .boolean) hx hb hr rfl (fun t ht hW9 => ⟨⟨1, I0, rfl, ⟨hF, hO, ⟨dkN_sub (dkN_lit (x := 1) (1) rfl) rfl, trivial⟩⟩, dkW_eq ht hW⟩, hS.F ht⟩) hS.2.2 dX5_isMissing_15
set_option maxHeartbeats 4000000 in
set_option maxRecDepth 100000 in
theorem c_X6_isMissing_0 (l : Launch) (g : dkG) (z : Nat) (I0 : dkI) (p0 : Int32) (dp0 : dkN [(0, 7)] p0)  (hO : dkOk I0) : Met l yX6_isMissing wsX6_isMissing (dkR 0) (dkPc g z [.ref (z + 340), .int p0] I0) (dkQi g z (fun r I1 => dkF [] I0 I1 ∧ dkOk I1 ∧ ((dkN [(0, 1)] r ∧ True)))) 0 0 (dkA z) := by
  refine Met.ofW (cc := cX6_isMissing) (maxL := 2) (ret := (some .boolean)) (by decide) rfl ?_
  intro p e s m args below meth c s₁ B hml hv
  obtain ⟨ha, hW, hK, hT⟩ := hv
  have hx := B.exec
  have hb := B.bytes
  have hr := B.returns
  have hts := atoms_spec (ws := wsX6_isMissing) B.pre
  have hown : s.vm.findClass RX6 = some m.cls := findClass_of_methodNamed B.named
  have hlocks := B.notSynchronized
  have hS : va_S (dkA z) s.heap s.heap [] := va_S.rf
  have hF : dkF [] I0 I0 := dkF_rf _ _
  have hl := lv_entry ([.ref (z + 340), .int p0]) (n := 2) (Nat.le_of_ble_eq_true rfl)
  have hgo : entryFrame m args 2 = entryFrame m ([.ref (z + 340), .int p0] : List Value).toArray 2 := by rw [ha]
  rw [hgo, lg_entry_eq]
  generalize (lg_sl ([.ref (z + 340), .int p0]) ++ List.replicate (2 - (lg_sl ([.ref (z + 340), .int p0])).length) Slot.unset).toArray = ls at hl ⊢
  have hl : lv_has ls 2 [(0, .ref (z + 340)), (1, .int p0)] := hl
  refine lv_aload_n hx hb dX6_isMissing_0 rfl (lv_at hl 0 rfl) ?_
  refine dk_get (k := 340) hx hb hts iX6_isMissing_6 hown hK (dk_at340 hW) rfl 0 (by decide) (hts (.fieldLink RX6 7 "DogKingsModel" "lane" "[I") (List.mem_of_getElem? (i := 1) rfl)) rfl dX6_isMissing_1 ?_
  refine lv_iload_n hx hb dX6_isMissing_4 rfl (lv_at hl 1 rfl) ?_
  refine dk_ild (k := 341) hx hb hK (dk_at341 hW) (dkN_in (n := 8) dp0 rfl) dX6_isMissing_5 ?_
  refine lv_topi (fun v1 ev1 => ?_)
  have dv1 : dkN [(-1000000, -1000000), (0, 2)] v1 := by rw [ev1]; exact (hO 341 _)
  refine lv_ldc (v := (-1000000)) hx hb hown (hts (.constant RX6 50 (-1000000)) (List.mem_of_getElem? (i := 2) rfl)) dX6_isMissing_6 ?_
  refine lv_icmp_ne (tgt := 15) hx hb dX6_isMissing_8 (by decide) (fun c2 => ?_) (fun c2 => ?_)
  ·
    have d3 : dkN [(0, 2)] v1 := dkN_ne1 (-1000000) dv1 (dkN_lit (x := (-1000000)) (-1000000) rfl) (dk_ne c2) rfl
    refine lv_iconst (v := 0) hx hb dX6_isMissing_15 (by decide) ?_
    exact W.zret (v := 0) (ty := .boolean) hx hb hr rfl (fun t ht hW9 => ⟨⟨0, I0, rfl, ⟨hF, hO, ⟨dkN_sub (dkN_lit (x := 0) (0) rfl) rfl, trivial⟩⟩, dkW_eq ht hW⟩, hS.F ht⟩) hS.2.2 dX6_isMissing_16
  ·
    have d4 : dkN [(-1000000, -1000000)] v1 := dkN_eq1 dv1 (dkN_lit (x := (-1000000)) (-1000000) rfl) (congrArg Int32.toInt c2) rfl
    refine lv_iconst (v := 1) hx hb dX6_isMissing_11 (by decide) ?_
    refine lv_goto (tgt := 16) hx hb dX6_isMissing_12 (by decide) ?_
    exact W.zret (v := 1) (ty := .boolean) hx hb hr rfl (fun t ht hW9 => ⟨⟨1, I0, rfl, ⟨hF, hO, ⟨dkN_sub (dkN_lit (x := 1) (1) rfl) rfl, trivial⟩⟩, dkW_eq ht hW⟩, hS.F ht⟩) hS.2.2 dX6_isMissing_16
set_option maxHeartbeats 4000000 in
set_option maxRecDepth 100000 in
theorem c_X5_setOfAll_0 (l : Launch) (g : dkG) (z : Nat) (I0 : dkI) (p0 : Int32) (dp0 : dkN [(1, 6)] p0)  (hO : dkOk I0) : Met l yX5_setOfAll wsX5_setOfAll (dkR 0) (dkPc g z [.int p0] I0) (dkQi g z (fun r I1 => dkF [] I0 I1 ∧ dkOk I1 ∧ ((dkN [(1, 63)] r ∧ True)))) 0 0 (dkA z) := by
  refine Met.ofW (cc := cX5_setOfAll) (maxL := 1) (ret := (some .int)) (by decide) rfl ?_
  intro p e s m args below meth c s₁ B hml hv
  obtain ⟨ha, hW, hK, hT⟩ := hv
  have hx := B.exec
  have hb := B.bytes
  have hr := B.returns
  have hts := atoms_spec (ws := wsX5_setOfAll) B.pre
  have hown : s.vm.findClass RX5 = some m.cls := findClass_of_methodNamed B.named
  have hlocks := B.notSynchronized
  have hS : va_S (dkA z) s.heap s.heap [] := va_S.rf
  have hF : dkF [] I0 I0 := dkF_rf _ _
  have hl := lv_entry ([.int p0]) (n := 1) (Nat.le_of_ble_eq_true rfl)
  have hgo : entryFrame m args 1 = entryFrame m ([.int p0] : List Value).toArray 1 := by rw [ha]
  rw [hgo, lg_entry_eq]
  generalize (lg_sl ([.int p0]) ++ List.replicate (1 - (lg_sl ([.int p0])).length) Slot.unset).toArray = ls at hl ⊢
  have hl : lv_has ls 1 [(0, .int p0)] := hl
  refine lv_iconst (v := 1) hx hb dX5_setOfAll_0 (by decide) ?_
  refine lv_iload_n hx hb dX5_setOfAll_1 rfl (lv_at hl 0 rfl) ?_
  refine lv_ishl hx hb dX5_setOfAll_2 ?_
  refine lv_topi (fun v1 ev1 => ?_)
  have dv1 : dkN [(2, 64)] v1 := by rw [ev1]; exact dkN_shl1 1 6 (by decide) dp0 rfl
  refine lv_iconst (v := 1) hx hb dX5_setOfAll_3 (by decide) ?_
  refine lv_isub hx hb dX5_setOfAll_4 ?_
  refine lv_topi (fun v2 ev2 => ?_)
  have dv2 : dkN [(1, 63)] v2 := by rw [ev2]; exact dkN_subt dv1 (dkN_lit (x := 1) (1) rfl) rfl
  exact W.iret (v := v2) hx hb hr (fun t ht hW9 => ⟨⟨v2, I0, rfl, ⟨hF, hO, ⟨dkN_sub dv2 rfl, trivial⟩⟩, dkW_eq ht hW⟩, hS.F ht⟩) hS.2.2 dX5_setOfAll_5
set_option maxHeartbeats 4000000 in
set_option maxRecDepth 100000 in
theorem c_X4_become_0 (l : Launch) (g : dkG) (z : Nat) (I0 : dkI) (t0 : Nat) (ht0 : dkT t0) (t1 : Nat) (ht1 : dkT t1)  (hO : dkOk I0) : Met l yX4_become wsX4_become (dkR 0) (dkPc g z [.ref (z + t0), .ref (z + t1)] I0) (dkQv g z (fun I1 => dkF [(t0, t0, 0, 4), (t0, t0, 11, 11), (t0, t0, 15, 17), (t0 + 1, t0 + 1, 0, 4), (t0 + 2, t0 + 2, 0, 4), (t0 + 3, t0 + 3, 0, 4), (t0 + 4, t0 + 4, 0, 4), (t0 + 5, t0 + 5, 0, 4), (t0 + 6, t0 + 6, 0, 4), (t0 + 7, t0 + 7, 0, 5), (t0 + 8, t0 + 8, 0, 5), (t0 + 9, t0 + 9, 0, 5)] I0 I1 ∧ dkOk I1 ∧ ((True)))) 0 0 (dkA z) := by
  refine Met.ofW (cc := cX4_become) (maxL := 3) (ret := none) (by decide) rfl ?_
  intro p e s m args below meth c s₁ B hml hv
  obtain ⟨ha, hW, hK, hT⟩ := hv
  have hx := B.exec
  have hb := B.bytes
  have hr := B.returns
  have hts := atoms_spec (ws := wsX4_become) B.pre
  have hown : s.vm.findClass RX4 = some m.cls := findClass_of_methodNamed B.named
  have hlocks := B.notSynchronized
  have hS : va_S (dkA z) s.heap s.heap [] := va_S.rf
  have hF : dkF [(t0, t0, 0, 4), (t0, t0, 11, 11), (t0, t0, 15, 17), (t0 + 1, t0 + 1, 0, 4), (t0 + 2, t0 + 2, 0, 4), (t0 + 3, t0 + 3, 0, 4), (t0 + 4, t0 + 4, 0, 4), (t0 + 5, t0 + 5, 0, 4), (t0 + 6, t0 + 6, 0, 4), (t0 + 7, t0 + 7, 0, 5), (t0 + 8, t0 + 8, 0, 5), (t0 + 9, t0 + 9, 0, 5)] I0 I0 := dkF_rf _ _
  have hl := lv_entry ([.ref (z + t0), .ref (z + t1)]) (n := 3) (Nat.le_of_ble_eq_true rfl)
  have hgo : entryFrame m args 3 = entryFrame m ([.ref (z + t0), .ref (z + t1)] : List Value).toArray 3 := by rw [ha]
  rw [hgo, lg_entry_eq]
  generalize (lg_sl ([.ref (z + t0), .ref (z + t1)]) ++ List.replicate (3 - (lg_sl ([.ref (z + t0), .ref (z + t1)])).length) Slot.unset).toArray = ls at hl ⊢
  have hl : lv_has ls 3 [(0, .ref (z + t0)), (1, .ref (z + t1))] := hl
  have C138 : ∀ (n : Nat), ∀ (I : dkI) (H : Heap) (locs : List Loc) (ls : Array Slot) (x138_2 : Int32), (6 - x138_2.toInt).toNat < n → dkW g z I H → va_S (dkA z) s.heap H locs → dkF [(t0, t0, 0, 4), (t0, t0, 11, 11), (t0, t0, 15, 17), (t0 + 1, t0 + 1, 0, 4), (t0 + 2, t0 + 2, 0, 4), (t0 + 3, t0 + 3, 0, 4), (t0 + 4, t0 + 4, 0, 4), (t0 + 5, t0 + 5, 0, 4), (t0 + 6, t0 + 6, 0, 4), (t0 + 7, t0 + 7, 0, 5), (t0 + 8, t0 + 8, 0, 5), (t0 + 9, t0 + 9, 0, 5)] I0 I → dkOk I → dkN [(0, 6)] x138_2 → lv_has ls 3 [(0, .ref (z + t0)), (1, .ref (z + t1)), (2, .int x138_2)] → W p l e (headSpec wsX4_become (dkR 0)).room s m args below meth c H locs 0 0 (MQ below (dkQv g z (fun I1 => dkF [(t0, t0, 0, 4), (t0, t0, 11, 11), (t0, t0, 15, 17), (t0 + 1, t0 + 1, 0, 4), (t0 + 2, t0 + 2, 0, 4), (t0 + 3, t0 + 3, 0, 4), (t0 + 4, t0 + 4, 0, 4), (t0 + 5, t0 + 5, 0, 4), (t0 + 6, t0 + 6, 0, 4), (t0 + 7, t0 + 7, 0, 5), (t0 + 8, t0 + 8, 0, 5), (t0 + 9, t0 + 9, 0, 5)] I0 I1 ∧ dkOk I1 ∧ ((True)))) args s 0 0 (dkA z)) (F0 m 138 ls []) := by
    intro n
    induction n with
    | zero => intro I H locs ls x138_2 hn; exact absurd hn (Nat.not_lt_zero _)
    | succ n ih138 =>
      intro I138_ H locs ls x138_2 hn138 hW hS hF_138 hO k138_0 hl
      have hF := hF_138
      refine lv_iload_n hx hb dX4_become_138 rfl (lv_at hl 2 rfl) ?_
      refine lv_aload_n hx hb dX4_become_139 rfl (lv_at hl 0 rfl) ?_
      refine dk_get (k := t0) hx hb hts iX4_become_4 hown hK (dk_aT0 ht0 hW) rfl 11 (by decide) (hts (.fieldLink RX4 58 "DogKings$Town" "dogs" "I") (List.mem_of_getElem? (i := 12) rfl)) rfl dX4_become_140 ?_
      refine lv_topi (fun v1 ev1 => ?_)
      have dv1 : dkN [(0, 6)] v1 := by rw [ev1]; exact (dkO_at hO ht0 (c := 0) (by decide) 11)
      refine lv_icmp_ge (tgt := 188) hx hb dX4_become_143 (by decide) (fun c2 => ?_) (fun c2 => ?_)
      ·
        refine lv_aload_n hx hb dX4_become_188 rfl (lv_at hl 0 rfl) ?_
        refine lv_aload_n hx hb dX4_become_189 rfl (lv_at hl 1 rfl) ?_
        refine dk_get (k := t1) hx hb hts iX4_become_4 hown hK (dk_aT0 ht1 hW) rfl 15 (by decide) (hts (.fieldLink RX4 61 "DogKings$Town" "dogsThere" "I") (List.mem_of_getElem? (i := 16) rfl)) rfl dX4_become_190 ?_
        refine lv_topi (fun v3 ev3 => ?_)
        refine dk_put (k := t0) hx hb hts iX4_become_4 tyX4 tyX4_ok nmX4 hown hK hW (dk_aT0 ht0 hW) hS rfl 15 (by decide) (hts (.fieldLink RX4 61 "DogKings$Town" "dogsThere" "I") (List.mem_of_getElem? (i := 16) rfl)) rfl rfl (Nat.le_of_ble_eq_true rfl) (dk_eT15 ht0) dX4_become_193 (fun I4 H4 L4 eI4 hW hS => ?_)
        have eI4 : I4 = dkU I138_ t0 15 v3 := eI4
        have hO := dkO_setT hO ht0 (c := 0) (by decide) eI4 (dkN_sub (dkN_top v3) rfl)
        have hF := dkF_set hF eI4 (dkIn_at (i := 2) rfl (Nat.le_refl _) (Nat.le_refl _) (by decide) (by decide))
        refine lv_aload_n hx hb dX4_become_196 rfl (lv_at hl 0 rfl) ?_
        refine lv_aload_n hx hb dX4_become_197 rfl (lv_at hl 1 rfl) ?_
        refine dk_get (k := t1) hx hb hts iX4_become_4 hown hK (dk_aT0 ht1 hW) rfl 16 (by decide) (hts (.fieldLink RX4 64 "DogKings$Town" "dogsAsleep" "I") (List.mem_of_getElem? (i := 17) rfl)) rfl dX4_become_198 ?_
        refine lv_topi (fun v5 ev5 => ?_)
        refine dk_put (k := t0) hx hb hts iX4_become_4 tyX4 tyX4_ok nmX4 hown hK hW (dk_aT0 ht0 hW) hS rfl 16 (by decide) (hts (.fieldLink RX4 64 "DogKings$Town" "dogsAsleep" "I") (List.mem_of_getElem? (i := 17) rfl)) rfl rfl (Nat.le_of_ble_eq_true rfl) (dk_eT16 ht0) dX4_become_201 (fun I6 H6 L6 eI6 hW hS => ?_)
        have eI6 : I6 = dkU I4 t0 16 v5 := eI6
        have hO := dkO_setT hO ht0 (c := 0) (by decide) eI6 (dkN_sub (dkN_top v5) rfl)
        have hF := dkF_set hF eI6 (dkIn_at (i := 2) rfl (Nat.le_refl _) (Nat.le_refl _) (by decide) (by decide))
        refine lv_aload_n hx hb dX4_become_204 rfl (lv_at hl 0 rfl) ?_
        refine lv_aload_n hx hb dX4_become_205 rfl (lv_at hl 1 rfl) ?_
        refine dk_get (k := t1) hx hb hts iX4_become_4 hown hK (dk_aT0 ht1 hW) rfl 17 (by decide) (hts (.fieldLink RX4 67 "DogKings$Town" "cats" "I") (List.mem_of_getElem? (i := 18) rfl)) rfl dX4_become_206 ?_
        refine lv_topi (fun v7 ev7 => ?_)
        refine dk_put (k := t0) hx hb hts iX4_become_4 tyX4 tyX4_ok nmX4 hown hK hW (dk_aT0 ht0 hW) hS rfl 17 (by decide) (hts (.fieldLink RX4 67 "DogKings$Town" "cats" "I") (List.mem_of_getElem? (i := 18) rfl)) rfl rfl (Nat.le_of_ble_eq_true rfl) (dk_eT17 ht0) dX4_become_209 (fun I8 H8 L8 eI8 hW hS => ?_)
        have eI8 : I8 = dkU I6 t0 17 v7 := eI8
        have hO := dkO_setT hO ht0 (c := 0) (by decide) eI8 (dkN_sub (dkN_top v7) rfl)
        have hF := dkF_set hF eI8 (dkIn_at (i := 2) rfl (Nat.le_refl _) (Nat.le_refl _) (by decide) (by decide))
        exact W.vret hx hb hr (fun t ht hW9 => ⟨⟨I8, rfl, ⟨hF, hO, trivial⟩, dkW_eq ht hW⟩, hS.F ht⟩) hS.2.2 dX4_become_212
      ·
        have d9 : dkN [(1, 6)] v1 := dkN_le2 1 k138_0 dv1 (dkc_nle c2) rfl
        have f10 : dkN [(1, 6)] (I138_ t0 11) := by rw [← ev1]; exact d9
        have d11 : dkN [(0, 5)] x138_2 := dkN_le1 1 k138_0 dv1 (dkc_nle c2) rfl
        refine lv_aload_n hx hb dX4_become_146 rfl (lv_at hl 0 rfl) ?_
        refine dk_get (k := t0) hx hb hts iX4_become_4 hown hK (dk_aT0 ht0 hW) rfl 12 (by decide) (hts (.fieldLink RX4 30 "DogKings$Town" "sort" "[I") (List.mem_of_getElem? (i := 13) rfl)) rfl dX4_become_147 ?_
        refine lv_iload_n hx hb dX4_become_150 rfl (lv_at hl 2 rfl) ?_
        refine lv_aload_n hx hb dX4_become_151 rfl (lv_at hl 1 rfl) ?_
        refine dk_get (k := t1) hx hb hts iX4_become_4 hown hK (dk_aT0 ht1 hW) rfl 12 (by decide) (hts (.fieldLink RX4 30 "DogKings$Town" "sort" "[I") (List.mem_of_getElem? (i := 13) rfl)) rfl dX4_become_152 ?_
        refine lv_iload_n hx hb dX4_become_155 rfl (lv_at hl 2 rfl) ?_
        refine dk_ild (k := (t1 + 7)) hx hb hK (dk_aT7 ht1 hW) (dkN_in (n := 6) d11 rfl) dX4_become_156 ?_
        refine lv_topi (fun v12 ev12 => ?_)
        refine dk_ist (k := (t0 + 7)) hx hb hK hW (fun _ => dkC_T g z ht0 (c := 7) (by decide) _) (by have := dkT_lt ht0; omega) hS (dkN_in (n := 6) d11 rfl) dX4_become_157 (fun I13 H13 L13 eI13 hW hS => ?_)
        have hO := dkO_setT hO ht0 (c := 7) (by decide) eI13 (dkN_sub (dkN_top v12) rfl)
        have hF := dkF_set hF eI13 (dkIn_atv (i := 9) rfl (Nat.le_refl _) (Nat.le_refl _) d11 rfl)
        refine lv_aload_n hx hb dX4_become_158 rfl (lv_at hl 0 rfl) ?_
        refine dk_get (k := t0) hx hb hts iX4_become_4 hown hK (dk_aT0 ht0 hW) rfl 13 (by decide) (hts (.fieldLink RX4 33 "DogKings$Town" "dogHome" "[I") (List.mem_of_getElem? (i := 14) rfl)) rfl dX4_become_159 ?_
        refine lv_iload_n hx hb dX4_become_162 rfl (lv_at hl 2 rfl) ?_
        refine lv_aload_n hx hb dX4_become_163 rfl (lv_at hl 1 rfl) ?_
        refine dk_get (k := t1) hx hb hts iX4_become_4 hown hK (dk_aT0 ht1 hW) rfl 13 (by decide) (hts (.fieldLink RX4 33 "DogKings$Town" "dogHome" "[I") (List.mem_of_getElem? (i := 14) rfl)) rfl dX4_become_164 ?_
        refine lv_iload_n hx hb dX4_become_167 rfl (lv_at hl 2 rfl) ?_
        refine dk_ild (k := (t1 + 8)) hx hb hK (dk_aT8 ht1 hW) (dkN_in (n := 6) d11 rfl) dX4_become_168 ?_
        refine lv_topi (fun v14 ev14 => ?_)
        refine dk_ist (k := (t0 + 8)) hx hb hK hW (fun _ => dkC_T g z ht0 (c := 8) (by decide) _) (by have := dkT_lt ht0; omega) hS (dkN_in (n := 6) d11 rfl) dX4_become_169 (fun I15 H15 L15 eI15 hW hS => ?_)
        have hO := dkO_setT hO ht0 (c := 8) (by decide) eI15 (dkN_sub (dkN_top v14) rfl)
        have hF := dkF_set hF eI15 (dkIn_atv (i := 10) rfl (Nat.le_refl _) (Nat.le_refl _) d11 rfl)
        refine lv_aload_n hx hb dX4_become_170 rfl (lv_at hl 0 rfl) ?_
        refine dk_get (k := t0) hx hb hts iX4_become_4 hown hK (dk_aT0 ht0 hW) rfl 14 (by decide) (hts (.fieldLink RX4 36 "DogKings$Town" "dogAt" "[I") (List.mem_of_getElem? (i := 15) rfl)) rfl dX4_become_171 ?_
        refine lv_iload_n hx hb dX4_become_174 rfl (lv_at hl 2 rfl) ?_
        refine lv_aload_n hx hb dX4_become_175 rfl (lv_at hl 1 rfl) ?_
        refine dk_get (k := t1) hx hb hts iX4_become_4 hown hK (dk_aT0 ht1 hW) rfl 14 (by decide) (hts (.fieldLink RX4 36 "DogKings$Town" "dogAt" "[I") (List.mem_of_getElem? (i := 15) rfl)) rfl dX4_become_176 ?_
        refine lv_iload_n hx hb dX4_become_179 rfl (lv_at hl 2 rfl) ?_
        refine dk_ild (k := (t1 + 9)) hx hb hK (dk_aT9 ht1 hW) (dkN_in (n := 6) d11 rfl) dX4_become_180 ?_
        refine lv_topi (fun v16 ev16 => ?_)
        refine dk_ist (k := (t0 + 9)) hx hb hK hW (fun _ => dkC_T g z ht0 (c := 9) (by decide) _) (by have := dkT_lt ht0; omega) hS (dkN_in (n := 6) d11 rfl) dX4_become_181 (fun I17 H17 L17 eI17 hW hS => ?_)
        have hO := dkO_setT hO ht0 (c := 9) (by decide) eI17 (dkN_sub (dkN_top v16) rfl)
        have hF := dkF_set hF eI17 (dkIn_atv (i := 11) rfl (Nat.le_refl _) (Nat.le_refl _) d11 rfl)
        obtain ⟨v18, ev18⟩ : ∃ y : Int32, y = x138_2 + 1 := ⟨_, rfl⟩
        have dv18 : dkN [(1, 6)] v18 := by rw [ev18]; exact dkN_add d11 (dkN_lit (x := 1) (1) rfl) rfl
        refine lv_iinc (v := v18) (lv' := [(2, .int v18), (0, .ref (z + t0)), (1, .ref (z + t1))]) hx hb dX4_become_182 hl (k := 2) rfl (by rw [ev18]; rfl) (by decide) rfl (fun ls hl => ?_)
        refine lv_goto (tgt := 138) hx hb dX4_become_185 (by decide) ?_
        exact ih138 I17 _ _ ls v18 (dk_near hn138 (by rw [ev18]; exact dk_inc d11 rfl) (dkN_lt d11 rfl)) hW hS hF hO (dkN_sub dv18 rfl) (lv_sub hl [1, 2, 0] rfl)
  have C42 : ∀ (n : Nat), ∀ (I : dkI) (H : Heap) (locs : List Loc) (ls : Array Slot) (x42_2 : Int32), (5 - x42_2.toInt).toNat < n → dkW g z I H → va_S (dkA z) s.heap H locs → dkF [(t0, t0, 0, 4), (t0, t0, 11, 11), (t0, t0, 15, 17), (t0 + 1, t0 + 1, 0, 4), (t0 + 2, t0 + 2, 0, 4), (t0 + 3, t0 + 3, 0, 4), (t0 + 4, t0 + 4, 0, 4), (t0 + 5, t0 + 5, 0, 4), (t0 + 6, t0 + 6, 0, 4), (t0 + 7, t0 + 7, 0, 5), (t0 + 8, t0 + 8, 0, 5), (t0 + 9, t0 + 9, 0, 5)] I0 I → dkOk I → dkN [(0, 5)] x42_2 → lv_has ls 3 [(0, .ref (z + t0)), (1, .ref (z + t1)), (2, .int x42_2)] → W p l e (headSpec wsX4_become (dkR 0)).room s m args below meth c H locs 0 0 (MQ below (dkQv g z (fun I1 => dkF [(t0, t0, 0, 4), (t0, t0, 11, 11), (t0, t0, 15, 17), (t0 + 1, t0 + 1, 0, 4), (t0 + 2, t0 + 2, 0, 4), (t0 + 3, t0 + 3, 0, 4), (t0 + 4, t0 + 4, 0, 4), (t0 + 5, t0 + 5, 0, 4), (t0 + 6, t0 + 6, 0, 4), (t0 + 7, t0 + 7, 0, 5), (t0 + 8, t0 + 8, 0, 5), (t0 + 9, t0 + 9, 0, 5)] I0 I1 ∧ dkOk I1 ∧ ((True)))) args s 0 0 (dkA z)) (F0 m 42 ls []) := by
    intro n
    induction n with
    | zero => intro I H locs ls x42_2 hn; exact absurd hn (Nat.not_lt_zero _)
    | succ n ih42 =>
      intro I42_ H locs ls x42_2 hn42 hW hS hF_42 hO k42_0 hl
      have hF := hF_42
      refine lv_iload_n hx hb dX4_become_42 rfl (lv_at hl 2 rfl) ?_
      refine lv_aload_n hx hb dX4_become_43 rfl (lv_at hl 0 rfl) ?_
      refine dk_get (k := t0) hx hb hts iX4_become_4 hown hK (dk_aT0 ht0 hW) rfl 4 (by decide) (hts (.fieldLink RX4 55 "DogKings$Town" "people" "I") (List.mem_of_getElem? (i := 5) rfl)) rfl dX4_become_44 ?_
      refine lv_topi (fun v19 ev19 => ?_)
      have dv19 : dkN [(0, 5)] v19 := by rw [ev19]; exact (dkO_at hO ht0 (c := 0) (by decide) 4)
      refine lv_icmp_ge (tgt := 128) hx hb dX4_become_47 (by decide) (fun c20 => ?_) (fun c20 => ?_)
      ·
        refine lv_aload_n hx hb dX4_become_128 rfl (lv_at hl 0 rfl) ?_
        refine lv_aload_n hx hb dX4_become_129 rfl (lv_at hl 1 rfl) ?_
        refine dk_get (k := t1) hx hb hts iX4_become_4 hown hK (dk_aT0 ht1 hW) rfl 11 (by decide) (hts (.fieldLink RX4 58 "DogKings$Town" "dogs" "I") (List.mem_of_getElem? (i := 12) rfl)) rfl dX4_become_130 ?_
        refine lv_topi (fun v21 ev21 => ?_)
        have dv21 : dkN [(0, 6)] v21 := by rw [ev21]; exact (dkO_at hO ht1 (c := 0) (by decide) 11)
        refine dk_put (k := t0) hx hb hts iX4_become_4 tyX4 tyX4_ok nmX4 hown hK hW (dk_aT0 ht0 hW) hS rfl 11 (by decide) (hts (.fieldLink RX4 58 "DogKings$Town" "dogs" "I") (List.mem_of_getElem? (i := 12) rfl)) rfl rfl (Nat.le_of_ble_eq_true rfl) (dk_eT11 ht0) dX4_become_133 (fun I22 H22 L22 eI22 hW hS => ?_)
        have eI22 : I22 = dkU I42_ t0 11 v21 := eI22
        have hO := dkO_setT hO ht0 (c := 0) (by decide) eI22 (dkN_sub dv21 rfl)
        have hF := dkF_set hF eI22 (dkIn_at (i := 1) rfl (Nat.le_refl _) (Nat.le_refl _) (by decide) (by decide))
        refine lv_iconst (v := 0) hx hb dX4_become_136 (by decide) ?_
        refine lv_istore_n (lv' := [(2, .int 0), (0, .ref (z + t0)), (1, .ref (z + t1))]) hx hb dX4_become_137 rfl hl (by decide) rfl (fun ls hl => ?_)
        exact C138 _ I22 _ _ ls 0 (Nat.lt_succ_self _) hW hS hF hO (dkN_sub (dkN_lit (x := 0) (0) rfl) rfl) (lv_sub hl [1, 2, 0] rfl)
      ·
        have d23 : dkN [(1, 5)] v19 := dkN_le2 1 k42_0 dv19 (dkc_nle c20) rfl
        have f24 : dkN [(1, 5)] (I42_ t0 4) := by rw [← ev19]; exact d23
        have d25 : dkN [(0, 4)] x42_2 := dkN_le1 1 k42_0 dv19 (dkc_nle c20) rfl
        refine lv_aload_n hx hb dX4_become_50 rfl (lv_at hl 0 rfl) ?_
        refine dk_get (k := t0) hx hb hts iX4_become_4 hown hK (dk_aT0 ht0 hW) rfl 5 (by decide) (hts (.fieldLink RX4 9 "DogKings$Town" "personHome" "[I") (List.mem_of_getElem? (i := 6) rfl)) rfl dX4_become_51 ?_
        refine lv_iload_n hx hb dX4_become_54 rfl (lv_at hl 2 rfl) ?_
        refine lv_aload_n hx hb dX4_become_55 rfl (lv_at hl 1 rfl) ?_
        refine dk_get (k := t1) hx hb hts iX4_become_4 hown hK (dk_aT0 ht1 hW) rfl 5 (by decide) (hts (.fieldLink RX4 9 "DogKings$Town" "personHome" "[I") (List.mem_of_getElem? (i := 6) rfl)) rfl dX4_become_56 ?_
        refine lv_iload_n hx hb dX4_become_59 rfl (lv_at hl 2 rfl) ?_
        refine dk_ild (k := (t1 + 1)) hx hb hK (dk_aT1 ht1 hW) (dkN_in (n := 5) d25 rfl) dX4_become_60 ?_
        refine lv_topi (fun v26 ev26 => ?_)
        refine dk_ist (k := (t0 + 1)) hx hb hK hW (fun _ => dkC_T g z ht0 (c := 1) (by decide) _) (by have := dkT_lt ht0; omega) hS (dkN_in (n := 5) d25 rfl) dX4_become_61 (fun I27 H27 L27 eI27 hW hS => ?_)
        have hO := dkO_setT hO ht0 (c := 1) (by decide) eI27 (dkN_sub (dkN_top v26) rfl)
        have hF := dkF_set hF eI27 (dkIn_atv (i := 3) rfl (Nat.le_refl _) (Nat.le_refl _) d25 rfl)
        refine lv_aload_n hx hb dX4_become_62 rfl (lv_at hl 0 rfl) ?_
        refine dk_get (k := t0) hx hb hts iX4_become_4 hown hK (dk_aT0 ht0 hW) rfl 6 (by decide) (hts (.fieldLink RX4 15 "DogKings$Town" "smell" "[I") (List.mem_of_getElem? (i := 7) rfl)) rfl dX4_become_63 ?_
        refine lv_iload_n hx hb dX4_become_66 rfl (lv_at hl 2 rfl) ?_
        refine lv_aload_n hx hb dX4_become_67 rfl (lv_at hl 1 rfl) ?_
        refine dk_get (k := t1) hx hb hts iX4_become_4 hown hK (dk_aT0 ht1 hW) rfl 6 (by decide) (hts (.fieldLink RX4 15 "DogKings$Town" "smell" "[I") (List.mem_of_getElem? (i := 7) rfl)) rfl dX4_become_68 ?_
        refine lv_iload_n hx hb dX4_become_71 rfl (lv_at hl 2 rfl) ?_
        refine dk_ild (k := (t1 + 2)) hx hb hK (dk_aT2 ht1 hW) (dkN_in (n := 5) d25 rfl) dX4_become_72 ?_
        refine lv_topi (fun v28 ev28 => ?_)
        refine dk_ist (k := (t0 + 2)) hx hb hK hW (fun _ => dkC_T g z ht0 (c := 2) (by decide) _) (by have := dkT_lt ht0; omega) hS (dkN_in (n := 5) d25 rfl) dX4_become_73 (fun I29 H29 L29 eI29 hW hS => ?_)
        have hO := dkO_setT hO ht0 (c := 2) (by decide) eI29 (dkN_sub (dkN_top v28) rfl)
        have hF := dkF_set hF eI29 (dkIn_atv (i := 4) rfl (Nat.le_refl _) (Nat.le_refl _) d25 rfl)
        refine lv_aload_n hx hb dX4_become_74 rfl (lv_at hl 0 rfl) ?_
        refine dk_get (k := t0) hx hb hts iX4_become_4 hown hK (dk_aT0 ht0 hW) rfl 7 (by decide) (hts (.fieldLink RX4 18 "DogKings$Town" "personAt" "[I") (List.mem_of_getElem? (i := 8) rfl)) rfl dX4_become_75 ?_
        refine lv_iload_n hx hb dX4_become_78 rfl (lv_at hl 2 rfl) ?_
        refine lv_aload_n hx hb dX4_become_79 rfl (lv_at hl 1 rfl) ?_
        refine dk_get (k := t1) hx hb hts iX4_become_4 hown hK (dk_aT0 ht1 hW) rfl 7 (by decide) (hts (.fieldLink RX4 18 "DogKings$Town" "personAt" "[I") (List.mem_of_getElem? (i := 8) rfl)) rfl dX4_become_80 ?_
        refine lv_iload_n hx hb dX4_become_83 rfl (lv_at hl 2 rfl) ?_
        refine dk_ild (k := (t1 + 3)) hx hb hK (dk_aT3 ht1 hW) (dkN_in (n := 5) d25 rfl) dX4_become_84 ?_
        refine lv_topi (fun v30 ev30 => ?_)
        refine dk_ist (k := (t0 + 3)) hx hb hK hW (fun _ => dkC_T g z ht0 (c := 3) (by decide) _) (by have := dkT_lt ht0; omega) hS (dkN_in (n := 5) d25 rfl) dX4_become_85 (fun I31 H31 L31 eI31 hW hS => ?_)
        have hO := dkO_setT hO ht0 (c := 3) (by decide) eI31 (dkN_sub (dkN_top v30) rfl)
        have hF := dkF_set hF eI31 (dkIn_atv (i := 5) rfl (Nat.le_refl _) (Nat.le_refl _) d25 rfl)
        refine lv_aload_n hx hb dX4_become_86 rfl (lv_at hl 0 rfl) ?_
        refine dk_get (k := t0) hx hb hts iX4_become_4 hown hK (dk_aT0 ht0 hW) rfl 8 (by decide) (hts (.fieldLink RX4 21 "DogKings$Town" "bones" "[I") (List.mem_of_getElem? (i := 9) rfl)) rfl dX4_become_87 ?_
        refine lv_iload_n hx hb dX4_become_90 rfl (lv_at hl 2 rfl) ?_
        refine lv_aload_n hx hb dX4_become_91 rfl (lv_at hl 1 rfl) ?_
        refine dk_get (k := t1) hx hb hts iX4_become_4 hown hK (dk_aT0 ht1 hW) rfl 8 (by decide) (hts (.fieldLink RX4 21 "DogKings$Town" "bones" "[I") (List.mem_of_getElem? (i := 9) rfl)) rfl dX4_become_92 ?_
        refine lv_iload_n hx hb dX4_become_95 rfl (lv_at hl 2 rfl) ?_
        refine dk_ild (k := (t1 + 4)) hx hb hK (dk_aT4 ht1 hW) (dkN_in (n := 5) d25 rfl) dX4_become_96 ?_
        refine lv_topi (fun v32 ev32 => ?_)
        refine dk_ist (k := (t0 + 4)) hx hb hK hW (fun _ => dkC_T g z ht0 (c := 4) (by decide) _) (by have := dkT_lt ht0; omega) hS (dkN_in (n := 5) d25 rfl) dX4_become_97 (fun I33 H33 L33 eI33 hW hS => ?_)
        have hO := dkO_setT hO ht0 (c := 4) (by decide) eI33 (dkN_sub (dkN_top v32) rfl)
        have hF := dkF_set hF eI33 (dkIn_atv (i := 6) rfl (Nat.le_refl _) (Nat.le_refl _) d25 rfl)
        refine lv_aload_n hx hb dX4_become_98 rfl (lv_at hl 0 rfl) ?_
        refine dk_get (k := t0) hx hb hts iX4_become_4 hown hK (dk_aT0 ht0 hW) rfl 9 (by decide) (hts (.fieldLink RX4 24 "DogKings$Town" "gait" "[I") (List.mem_of_getElem? (i := 10) rfl)) rfl dX4_become_99 ?_
        refine lv_iload_n hx hb dX4_become_102 rfl (lv_at hl 2 rfl) ?_
        refine lv_aload_n hx hb dX4_become_103 rfl (lv_at hl 1 rfl) ?_
        refine dk_get (k := t1) hx hb hts iX4_become_4 hown hK (dk_aT0 ht1 hW) rfl 9 (by decide) (hts (.fieldLink RX4 24 "DogKings$Town" "gait" "[I") (List.mem_of_getElem? (i := 10) rfl)) rfl dX4_become_104 ?_
        refine lv_iload_n hx hb dX4_become_107 rfl (lv_at hl 2 rfl) ?_
        refine dk_ild (k := (t1 + 5)) hx hb hK (dk_aT5 ht1 hW) (dkN_in (n := 5) d25 rfl) dX4_become_108 ?_
        refine lv_topi (fun v34 ev34 => ?_)
        refine dk_ist (k := (t0 + 5)) hx hb hK hW (fun _ => dkC_T g z ht0 (c := 5) (by decide) _) (by have := dkT_lt ht0; omega) hS (dkN_in (n := 5) d25 rfl) dX4_become_109 (fun I35 H35 L35 eI35 hW hS => ?_)
        have hO := dkO_setT hO ht0 (c := 5) (by decide) eI35 (dkN_sub (dkN_top v34) rfl)
        have hF := dkF_set hF eI35 (dkIn_atv (i := 7) rfl (Nat.le_refl _) (Nat.le_refl _) d25 rfl)
        refine lv_aload_n hx hb dX4_become_110 rfl (lv_at hl 0 rfl) ?_
        refine dk_get (k := t0) hx hb hts iX4_become_4 hown hK (dk_aT0 ht0 hW) rfl 10 (by decide) (hts (.fieldLink RX4 27 "DogKings$Town" "reigns" "[I") (List.mem_of_getElem? (i := 11) rfl)) rfl dX4_become_111 ?_
        refine lv_iload_n hx hb dX4_become_114 rfl (lv_at hl 2 rfl) ?_
        refine lv_aload_n hx hb dX4_become_115 rfl (lv_at hl 1 rfl) ?_
        refine dk_get (k := t1) hx hb hts iX4_become_4 hown hK (dk_aT0 ht1 hW) rfl 10 (by decide) (hts (.fieldLink RX4 27 "DogKings$Town" "reigns" "[I") (List.mem_of_getElem? (i := 11) rfl)) rfl dX4_become_116 ?_
        refine lv_iload_n hx hb dX4_become_119 rfl (lv_at hl 2 rfl) ?_
        refine dk_ild (k := (t1 + 6)) hx hb hK (dk_aT6 ht1 hW) (dkN_in (n := 5) d25 rfl) dX4_become_120 ?_
        refine lv_topi (fun v36 ev36 => ?_)
        refine dk_ist (k := (t0 + 6)) hx hb hK hW (fun _ => dkC_T g z ht0 (c := 6) (by decide) _) (by have := dkT_lt ht0; omega) hS (dkN_in (n := 5) d25 rfl) dX4_become_121 (fun I37 H37 L37 eI37 hW hS => ?_)
        have hO := dkO_setT hO ht0 (c := 6) (by decide) eI37 (dkN_sub (dkN_top v36) rfl)
        have hF := dkF_set hF eI37 (dkIn_atv (i := 8) rfl (Nat.le_refl _) (Nat.le_refl _) d25 rfl)
        obtain ⟨v38, ev38⟩ : ∃ y : Int32, y = x42_2 + 1 := ⟨_, rfl⟩
        have dv38 : dkN [(1, 5)] v38 := by rw [ev38]; exact dkN_add d25 (dkN_lit (x := 1) (1) rfl) rfl
        refine lv_iinc (v := v38) (lv' := [(2, .int v38), (0, .ref (z + t0)), (1, .ref (z + t1))]) hx hb dX4_become_122 hl (k := 2) rfl (by rw [ev38]; rfl) (by decide) rfl (fun ls hl => ?_)
        refine lv_goto (tgt := 42) hx hb dX4_become_125 (by decide) ?_
        exact ih42 I37 _ _ ls v38 (dk_near hn42 (by rw [ev38]; exact dk_inc d25 rfl) (dkN_lt d25 rfl)) hW hS hF hO (dkN_sub dv38 rfl) (lv_sub hl [1, 2, 0] rfl)
  refine lv_aload_n hx hb dX4_become_0 rfl (lv_at hl 0 rfl) ?_
  refine lv_aload_n hx hb dX4_become_1 rfl (lv_at hl 1 rfl) ?_
  refine dk_get (k := t1) hx hb hts iX4_become_4 hown hK (dk_aT0 ht1 hW) rfl 0 (by decide) (hts (.fieldLink RX4 42 "DogKings$Town" "places" "I") (List.mem_of_getElem? (i := 1) rfl)) rfl dX4_become_2 ?_
  refine lv_topi (fun v39 ev39 => ?_)
  have dv39 : dkN [(0, 9)] v39 := by rw [ev39]; exact (dkO_at hO ht1 (c := 0) (by decide) 0)
  refine dk_put (k := t0) hx hb hts iX4_become_4 tyX4 tyX4_ok nmX4 hown hK hW (dk_aT0 ht0 hW) hS rfl 0 (by decide) (hts (.fieldLink RX4 42 "DogKings$Town" "places" "I") (List.mem_of_getElem? (i := 1) rfl)) rfl rfl (Nat.le_of_ble_eq_true rfl) (dk_eT0 ht0) dX4_become_5 (fun I40 H40 L40 eI40 hW hS => ?_)
  have eI40 : I40 = dkU I0 t0 0 v39 := eI40
  have hO := dkO_setT hO ht0 (c := 0) (by decide) eI40 (dkN_sub dv39 rfl)
  have hF := dkF_set hF eI40 (dkIn_at (i := 0) rfl (Nat.le_refl _) (Nat.le_refl _) (by decide) (by decide))
  refine lv_aload_n hx hb dX4_become_8 rfl (lv_at hl 0 rfl) ?_
  refine lv_aload_n hx hb dX4_become_9 rfl (lv_at hl 1 rfl) ?_
  refine dk_get (k := t1) hx hb hts iX4_become_4 hown hK (dk_aT0 ht1 hW) rfl 1 (by decide) (hts (.fieldLink RX4 46 "DogKings$Town" "fridayLasts" "I") (List.mem_of_getElem? (i := 2) rfl)) rfl dX4_become_10 ?_
  refine lv_topi (fun v41 ev41 => ?_)
  have dv41 : dkN [(0, 30)] v41 := by rw [ev41]; exact (dkO_at hO ht1 (c := 0) (by decide) 1)
  refine dk_put (k := t0) hx hb hts iX4_become_4 tyX4 tyX4_ok nmX4 hown hK hW (dk_aT0 ht0 hW) hS rfl 1 (by decide) (hts (.fieldLink RX4 46 "DogKings$Town" "fridayLasts" "I") (List.mem_of_getElem? (i := 2) rfl)) rfl rfl (Nat.le_of_ble_eq_true rfl) (dk_eT1 ht0) dX4_become_13 (fun I42 H42 L42 eI42 hW hS => ?_)
  have eI42 : I42 = dkU I40 t0 1 v41 := eI42
  have hO := dkO_setT hO ht0 (c := 0) (by decide) eI42 (dkN_sub dv41 rfl)
  have hF := dkF_set hF eI42 (dkIn_at (i := 0) rfl (Nat.le_refl _) (Nat.le_refl _) (by decide) (by decide))
  refine lv_aload_n hx hb dX4_become_16 rfl (lv_at hl 0 rfl) ?_
  refine lv_aload_n hx hb dX4_become_17 rfl (lv_at hl 1 rfl) ?_
  refine dk_get (k := t1) hx hb hts iX4_become_4 hown hK (dk_aT0 ht1 hW) rfl 2 (by decide) (hts (.fieldLink RX4 49 "DogKings$Town" "friday" "I") (List.mem_of_getElem? (i := 3) rfl)) rfl dX4_become_18 ?_
  refine lv_topi (fun v43 ev43 => ?_)
  refine dk_put (k := t0) hx hb hts iX4_become_4 tyX4 tyX4_ok nmX4 hown hK hW (dk_aT0 ht0 hW) hS rfl 2 (by decide) (hts (.fieldLink RX4 49 "DogKings$Town" "friday" "I") (List.mem_of_getElem? (i := 3) rfl)) rfl rfl (Nat.le_of_ble_eq_true rfl) (dk_eT2 ht0) dX4_become_21 (fun I44 H44 L44 eI44 hW hS => ?_)
  have eI44 : I44 = dkU I42 t0 2 v43 := eI44
  have hO := dkO_setT hO ht0 (c := 0) (by decide) eI44 (dkN_sub (dkN_top v43) rfl)
  have hF := dkF_set hF eI44 (dkIn_at (i := 0) rfl (Nat.le_refl _) (Nat.le_refl _) (by decide) (by decide))
  refine lv_aload_n hx hb dX4_become_24 rfl (lv_at hl 0 rfl) ?_
  refine lv_aload_n hx hb dX4_become_25 rfl (lv_at hl 1 rfl) ?_
  refine dk_get (k := t1) hx hb hts iX4_become_4 hown hK (dk_aT0 ht1 hW) rfl 3 (by decide) (hts (.fieldLink RX4 52 "DogKings$Town" "minute" "I") (List.mem_of_getElem? (i := 4) rfl)) rfl dX4_become_26 ?_
  refine lv_topi (fun v45 ev45 => ?_)
  refine dk_put (k := t0) hx hb hts iX4_become_4 tyX4 tyX4_ok nmX4 hown hK hW (dk_aT0 ht0 hW) hS rfl 3 (by decide) (hts (.fieldLink RX4 52 "DogKings$Town" "minute" "I") (List.mem_of_getElem? (i := 4) rfl)) rfl rfl (Nat.le_of_ble_eq_true rfl) (dk_eT3 ht0) dX4_become_29 (fun I46 H46 L46 eI46 hW hS => ?_)
  have eI46 : I46 = dkU I44 t0 3 v45 := eI46
  have hO := dkO_setT hO ht0 (c := 0) (by decide) eI46 (dkN_sub (dkN_top v45) rfl)
  have hF := dkF_set hF eI46 (dkIn_at (i := 0) rfl (Nat.le_refl _) (Nat.le_refl _) (by decide) (by decide))
  refine lv_aload_n hx hb dX4_become_32 rfl (lv_at hl 0 rfl) ?_
  refine lv_aload_n hx hb dX4_become_33 rfl (lv_at hl 1 rfl) ?_
  refine dk_get (k := t1) hx hb hts iX4_become_4 hown hK (dk_aT0 ht1 hW) rfl 4 (by decide) (hts (.fieldLink RX4 55 "DogKings$Town" "people" "I") (List.mem_of_getElem? (i := 5) rfl)) rfl dX4_become_34 ?_
  refine lv_topi (fun v47 ev47 => ?_)
  have dv47 : dkN [(0, 5)] v47 := by rw [ev47]; exact (dkO_at hO ht1 (c := 0) (by decide) 4)
  refine dk_put (k := t0) hx hb hts iX4_become_4 tyX4 tyX4_ok nmX4 hown hK hW (dk_aT0 ht0 hW) hS rfl 4 (by decide) (hts (.fieldLink RX4 55 "DogKings$Town" "people" "I") (List.mem_of_getElem? (i := 5) rfl)) rfl rfl (Nat.le_of_ble_eq_true rfl) (dk_eT4 ht0) dX4_become_37 (fun I48 H48 L48 eI48 hW hS => ?_)
  have eI48 : I48 = dkU I46 t0 4 v47 := eI48
  have hO := dkO_setT hO ht0 (c := 0) (by decide) eI48 (dkN_sub dv47 rfl)
  have hF := dkF_set hF eI48 (dkIn_at (i := 0) rfl (Nat.le_refl _) (Nat.le_refl _) (by decide) (by decide))
  refine lv_iconst (v := 0) hx hb dX4_become_40 (by decide) ?_
  refine lv_istore_n (lv' := [(2, .int 0), (0, .ref (z + t0)), (1, .ref (z + t1))]) hx hb dX4_become_41 rfl hl (by decide) rfl (fun ls hl => ?_)
  exact C42 _ I48 _ _ ls 0 (Nat.lt_succ_self _) hW hS hF hO (dkN_sub (dkN_lit (x := 0) (0) rfl) rfl) (lv_sub hl [1, 2, 0] rfl)
set_option maxHeartbeats 4000000 in
set_option maxRecDepth 100000 in
theorem c_X6_in_9 (l : Launch) (g : dkG) (z : Nat) (I0 : dkI) (p0 : Int32) (p1 : Int32) (p2 : Int32) (dp1 : dkN [(0, 0)] p1) (dp2 : dkN [(-1, 8)] p2)  (hO : dkOk I0) : Met l yX6_in wsX6_in (dkR 0) (dkPc g z [.int p0, .int p1, .int p2] I0) (dkQi g z (fun r I1 => dkF [] I0 I1 ∧ dkOk I1 ∧ ((dkN [(0, 0)] r ∧ True) ∨ (dkN [(1, 1)] r ∧ dkN [(0, 8)] p0 ∧ dkN [(0, 8)] p2 ∧ True)))) 0 0 (dkA z) := by
  refine Met.ofW (cc := cX6_in) (maxL := 3) (ret := (some .boolean)) (by decide) rfl ?_
  intro p e s m args below meth c s₁ B hml hv
  obtain ⟨ha, hW, hK, hT⟩ := hv
  have hx := B.exec
  have hb := B.bytes
  have hr := B.returns
  have hts := atoms_spec (ws := wsX6_in) B.pre
  have hown : s.vm.findClass RX6 = some m.cls := findClass_of_methodNamed B.named
  have hlocks := B.notSynchronized
  have hS : va_S (dkA z) s.heap s.heap [] := va_S.rf
  have hF : dkF [] I0 I0 := dkF_rf _ _
  have hl := lv_entry ([.int p0, .int p1, .int p2]) (n := 3) (Nat.le_of_ble_eq_true rfl)
  have hgo : entryFrame m args 3 = entryFrame m ([.int p0, .int p1, .int p2] : List Value).toArray 3 := by rw [ha]
  rw [hgo, lg_entry_eq]
  generalize (lg_sl ([.int p0, .int p1, .int p2]) ++ List.replicate (3 - (lg_sl ([.int p0, .int p1, .int p2])).length) Slot.unset).toArray = ls at hl ⊢
  have hl : lv_has ls 3 [(0, .int p0), (1, .int p1), (2, .int p2)] := hl
  refine lv_iload_n hx hb dX6_in_0 rfl (lv_at hl 0 rfl) ?_
  refine lv_iload_n hx hb dX6_in_1 rfl (lv_at hl 1 rfl) ?_
  refine lv_icmp_lt (tgt := 14) hx hb dX6_in_2 (by decide) (fun c1 => ?_) (fun c1 => ?_)
  ·
    have d2 : dkN [(-2147483648, -1)] p0 := dkN_le1 1 (dkN_top p0) dp1 (dkc_lt c1) rfl
    refine lv_iconst (v := 0) hx hb dX6_in_14 (by decide) ?_
    exact W.zret (v := 0) (ty := .boolean) hx hb hr rfl (fun t ht hW9 => ⟨⟨0, I0, rfl, ⟨hF, hO, Or.inl ⟨dkN_sub (dkN_lit (x := 0) (0) rfl) rfl, trivial⟩⟩, dkW_eq ht hW⟩, hS.F ht⟩) hS.2.2 dX6_in_15
  ·
    have d3 : dkN [(0, 2147483647)] p0 := dkN_le2 0 dp1 (dkN_top p0) (dkc_nlt c1) rfl
    refine lv_iload_n hx hb dX6_in_5 rfl (lv_at hl 0 rfl) ?_
    refine lv_iload_n hx hb dX6_in_6 rfl (lv_at hl 2 rfl) ?_
    refine lv_icmp_gt (tgt := 14) hx hb dX6_in_7 (by decide) (fun c4 => ?_) (fun c4 => ?_)
    ·
      refine lv_iconst (v := 0) hx hb dX6_in_14 (by decide) ?_
      exact W.zret (v := 0) (ty := .boolean) hx hb hr rfl (fun t ht hW9 => ⟨⟨0, I0, rfl, ⟨hF, hO, Or.inl ⟨dkN_sub (dkN_lit (x := 0) (0) rfl) rfl, trivial⟩⟩, dkW_eq ht hW⟩, hS.F ht⟩) hS.2.2 dX6_in_15
    ·
      have d5 : dkN [(0, 8)] p2 := dkN_le2 0 d3 dp2 (dkc_nlt c4) rfl
      have d6 : dkN [(0, 8)] p0 := dkN_le1 0 d3 dp2 (dkc_nlt c4) rfl
      refine lv_iconst (v := 1) hx hb dX6_in_10 (by decide) ?_
      refine lv_goto (tgt := 15) hx hb dX6_in_11 (by decide) ?_
      exact W.zret (v := 1) (ty := .boolean) hx hb hr rfl (fun t ht hW9 => ⟨⟨1, I0, rfl, ⟨hF, hO, Or.inr (⟨dkN_sub (dkN_lit (x := 1) (1) rfl) rfl, dkN_sub d6 rfl, dkN_sub d5 rfl, trivial⟩)⟩, dkW_eq ht hW⟩, hS.F ht⟩) hS.2.2 dX6_in_15
set_option maxHeartbeats 4000000 in
set_option maxRecDepth 100000 in
theorem c_X6_in_10 (l : Launch) (g : dkG) (z : Nat) (I0 : dkI) (p0 : Int32) (p1 : Int32) (p2 : Int32) (dp1 : dkN [(0, 0)] p1) (dp2 : dkN [(9, 9)] p2)  (hO : dkOk I0) : Met l yX6_in wsX6_in (dkR 0) (dkPc g z [.int p0, .int p1, .int p2] I0) (dkQi g z (fun r I1 => dkF [] I0 I1 ∧ dkOk I1 ∧ ((dkN [(0, 0)] r ∧ dkN [(-2147483648, -1), (10, 2147483647)] p0 ∧ True) ∨ (dkN [(1, 1)] r ∧ dkN [(0, 9)] p0 ∧ True)))) 0 0 (dkA z) := by
  refine Met.ofW (cc := cX6_in) (maxL := 3) (ret := (some .boolean)) (by decide) rfl ?_
  intro p e s m args below meth c s₁ B hml hv
  obtain ⟨ha, hW, hK, hT⟩ := hv
  have hx := B.exec
  have hb := B.bytes
  have hr := B.returns
  have hts := atoms_spec (ws := wsX6_in) B.pre
  have hown : s.vm.findClass RX6 = some m.cls := findClass_of_methodNamed B.named
  have hlocks := B.notSynchronized
  have hS : va_S (dkA z) s.heap s.heap [] := va_S.rf
  have hF : dkF [] I0 I0 := dkF_rf _ _
  have hl := lv_entry ([.int p0, .int p1, .int p2]) (n := 3) (Nat.le_of_ble_eq_true rfl)
  have hgo : entryFrame m args 3 = entryFrame m ([.int p0, .int p1, .int p2] : List Value).toArray 3 := by rw [ha]
  rw [hgo, lg_entry_eq]
  generalize (lg_sl ([.int p0, .int p1, .int p2]) ++ List.replicate (3 - (lg_sl ([.int p0, .int p1, .int p2])).length) Slot.unset).toArray = ls at hl ⊢
  have hl : lv_has ls 3 [(0, .int p0), (1, .int p1), (2, .int p2)] := hl
  refine lv_iload_n hx hb dX6_in_0 rfl (lv_at hl 0 rfl) ?_
  refine lv_iload_n hx hb dX6_in_1 rfl (lv_at hl 1 rfl) ?_
  refine lv_icmp_lt (tgt := 14) hx hb dX6_in_2 (by decide) (fun c1 => ?_) (fun c1 => ?_)
  ·
    have d2 : dkN [(-2147483648, -1)] p0 := dkN_le1 1 (dkN_top p0) dp1 (dkc_lt c1) rfl
    refine lv_iconst (v := 0) hx hb dX6_in_14 (by decide) ?_
    exact W.zret (v := 0) (ty := .boolean) hx hb hr rfl (fun t ht hW9 => ⟨⟨0, I0, rfl, ⟨hF, hO, Or.inl ⟨dkN_sub (dkN_lit (x := 0) (0) rfl) rfl, dkN_sub d2 rfl, trivial⟩⟩, dkW_eq ht hW⟩, hS.F ht⟩) hS.2.2 dX6_in_15
  ·
    have d3 : dkN [(0, 2147483647)] p0 := dkN_le2 0 dp1 (dkN_top p0) (dkc_nlt c1) rfl
    refine lv_iload_n hx hb dX6_in_5 rfl (lv_at hl 0 rfl) ?_
    refine lv_iload_n hx hb dX6_in_6 rfl (lv_at hl 2 rfl) ?_
    refine lv_icmp_gt (tgt := 14) hx hb dX6_in_7 (by decide) (fun c4 => ?_) (fun c4 => ?_)
    ·
      have d5 : dkN [(10, 2147483647)] p0 := dkN_le2 1 dp2 d3 (dkc_lt c4) rfl
      refine lv_iconst (v := 0) hx hb dX6_in_14 (by decide) ?_
      exact W.zret (v := 0) (ty := .boolean) hx hb hr rfl (fun t ht hW9 => ⟨⟨0, I0, rfl, ⟨hF, hO, Or.inl ⟨dkN_sub (dkN_lit (x := 0) (0) rfl) rfl, dkN_sub d5 rfl, trivial⟩⟩, dkW_eq ht hW⟩, hS.F ht⟩) hS.2.2 dX6_in_15
    ·
      have d6 : dkN [(0, 9)] p0 := dkN_le1 0 d3 dp2 (dkc_nlt c4) rfl
      refine lv_iconst (v := 1) hx hb dX6_in_10 (by decide) ?_
      refine lv_goto (tgt := 15) hx hb dX6_in_11 (by decide) ?_
      exact W.zret (v := 1) (ty := .boolean) hx hb hr rfl (fun t ht hW9 => ⟨⟨1, I0, rfl, ⟨hF, hO, Or.inr (⟨dkN_sub (dkN_lit (x := 1) (1) rfl) rfl, dkN_sub d6 rfl, trivial⟩)⟩, dkW_eq ht hW⟩, hS.F ht⟩) hS.2.2 dX6_in_15
set_option maxHeartbeats 4000000 in
set_option maxRecDepth 100000 in
theorem c_X5_fault_0 (l : Launch) (g : dkG) (z : Nat) (I0 : dkI)  (hO : dkOk I0) : Met l yX5_fault wsX5_fault (dkR 0) (dkPc g z [.ref (z + 0)] I0) (dkQi g z (fun r I1 => dkF [] I0 I1 ∧ dkOk I1 ∧ ((True ∧ True)))) 0 0 (dkA z) := by
  refine Met.ofW (cc := cX5_fault) (maxL := 1) (ret := (some .int)) (by decide) rfl ?_
  intro p e s m args below meth c s₁ B hml hv
  obtain ⟨ha, hW, hK, hT⟩ := hv
  have hx := B.exec
  have hb := B.bytes
  have hr := B.returns
  have hts := atoms_spec (ws := wsX5_fault) B.pre
  have hown : s.vm.findClass RX5 = some m.cls := findClass_of_methodNamed B.named
  have hlocks := B.notSynchronized
  have hS : va_S (dkA z) s.heap s.heap [] := va_S.rf
  have hF : dkF [] I0 I0 := dkF_rf _ _
  have hl := lv_entry ([.ref (z + 0)]) (n := 1) (Nat.le_of_ble_eq_true rfl)
  have hgo : entryFrame m args 1 = entryFrame m ([.ref (z + 0)] : List Value).toArray 1 := by rw [ha]
  rw [hgo, lg_entry_eq]
  generalize (lg_sl ([.ref (z + 0)]) ++ List.replicate (1 - (lg_sl ([.ref (z + 0)])).length) Slot.unset).toArray = ls at hl ⊢
  have hl : lv_has ls 1 [(0, .ref (z + 0))] := hl
  refine lv_aload_n hx hb dX5_fault_0 rfl (lv_at hl 0 rfl) ?_
  refine dk_get (k := 0) hx hb hts iX5_fault_5 hown hK (dk_at0 hW) rfl 4 (by decide) (hts (.fieldLink RX5 24 "DogKings" "reader" "LDogKings$Reader;") (List.mem_of_getElem? (i := 1) rfl)) rfl dX5_fault_1 ?_
  refine dk_get (k := 12) hx hb hts iX5_fault_2 hown hK (dk_at12 hW) rfl 5 (by decide) (hts (.fieldLink RX5 123 "DogKings$Reader" "faultNumber" "I") (List.mem_of_getElem? (i := 2) rfl)) rfl dX5_fault_4 ?_
  refine lv_topi (fun v1 ev1 => ?_)
  exact W.iret (v := v1) hx hb hr (fun t ht hW9 => ⟨⟨v1, I0, rfl, ⟨hF, hO, ⟨trivial, trivial⟩⟩, dkW_eq ht hW⟩, hS.F ht⟩) hS.2.2 dX5_fault_7
set_option maxHeartbeats 4000000 in
set_option maxRecDepth 100000 in
theorem c_X6_fault_0 (l : Launch) (g : dkG) (z : Nat) (I0 : dkI)  (hO : dkOk I0) : Met l yX6_fault wsX6_fault (dkR 0) (dkPc g z [.ref (z + 340)] I0) (dkQi g z (fun r I1 => dkF [] I0 I1 ∧ dkOk I1 ∧ ((True ∧ True)))) 0 0 (dkA z) := by
  refine Met.ofW (cc := cX6_fault) (maxL := 1) (ret := (some .int)) (by decide) rfl ?_
  intro p e s m args below meth c s₁ B hml hv
  obtain ⟨ha, hW, hK, hT⟩ := hv
  have hx := B.exec
  have hb := B.bytes
  have hr := B.returns
  have hts := atoms_spec (ws := wsX6_fault) B.pre
  have hown : s.vm.findClass RX6 = some m.cls := findClass_of_methodNamed B.named
  have hlocks := B.notSynchronized
  have hS : va_S (dkA z) s.heap s.heap [] := va_S.rf
  have hF : dkF [] I0 I0 := dkF_rf _ _
  have hl := lv_entry ([.ref (z + 340)]) (n := 1) (Nat.le_of_ble_eq_true rfl)
  have hgo : entryFrame m args 1 = entryFrame m ([.ref (z + 340)] : List Value).toArray 1 := by rw [ha]
  rw [hgo, lg_entry_eq]
  generalize (lg_sl ([.ref (z + 340)]) ++ List.replicate (1 - (lg_sl ([.ref (z + 340)])).length) Slot.unset).toArray = ls at hl ⊢
  have hl : lv_has ls 1 [(0, .ref (z + 340))] := hl
  refine lv_aload_n hx hb dX6_fault_0 rfl (lv_at hl 0 rfl) ?_
  refine dk_get (k := 340) hx hb hts iX6_fault_6 hown hK (dk_at340 hW) rfl 7 (by decide) (hts (.fieldLink RX6 108 "DogKingsModel" "faultKind" "I") (List.mem_of_getElem? (i := 1) rfl)) rfl dX6_fault_1 ?_
  refine lv_topi (fun v1 ev1 => ?_)
  exact W.iret (v := v1) hx hb hr (fun t ht hW9 => ⟨⟨v1, I0, rfl, ⟨hF, hO, ⟨trivial, trivial⟩⟩, dkW_eq ht hW⟩, hS.F ht⟩) hS.2.2 dX6_fault_4
set_option maxHeartbeats 4000000 in
set_option maxRecDepth 100000 in
theorem c_X4_stands_0 (l : Launch) (g : dkG) (z : Nat) (I0 : dkI) (t0 : Nat) (ht0 : dkT t0)  (hO : dkOk I0) : Met l yX4_stands wsX4_stands (dkR 0) (dkPc g z [.ref (z + t0)] I0) (dkQi g z (fun r I1 => dkF [] I0 I1 ∧ dkOk I1 ∧ ((dkN [(0, 0)] r ∧ dkN [(0, 0)] (I1 t0 0) ∧ True) ∨ (dkN [(1, 1)] r ∧ dkN [(1, 9)] (I1 t0 0) ∧ True)))) 0 0 (dkA z) := by
  refine Met.ofW (cc := cX4_stands) (maxL := 1) (ret := (some .boolean)) (by decide) rfl ?_
  intro p e s m args below meth c s₁ B hml hv
  obtain ⟨ha, hW, hK, hT⟩ := hv
  have hx := B.exec
  have hb := B.bytes
  have hr := B.returns
  have hts := atoms_spec (ws := wsX4_stands) B.pre
  have hown : s.vm.findClass RX4 = some m.cls := findClass_of_methodNamed B.named
  have hlocks := B.notSynchronized
  have hS : va_S (dkA z) s.heap s.heap [] := va_S.rf
  have hF : dkF [] I0 I0 := dkF_rf _ _
  have hl := lv_entry ([.ref (z + t0)]) (n := 1) (Nat.le_of_ble_eq_true rfl)
  have hgo : entryFrame m args 1 = entryFrame m ([.ref (z + t0)] : List Value).toArray 1 := by rw [ha]
  rw [hgo, lg_entry_eq]
  generalize (lg_sl ([.ref (z + t0)]) ++ List.replicate (1 - (lg_sl ([.ref (z + t0)])).length) Slot.unset).toArray = ls at hl ⊢
  have hl : lv_has ls 1 [(0, .ref (z + t0))] := hl
  refine lv_aload_n hx hb dX4_stands_0 rfl (lv_at hl 0 rfl) ?_
  refine dk_get (k := t0) hx hb hts iX4_stands_4 hown hK (dk_aT0 ht0 hW) rfl 0 (by decide) (hts (.fieldLink RX4 42 "DogKings$Town" "places" "I") (List.mem_of_getElem? (i := 1) rfl)) rfl dX4_stands_1 ?_
  refine lv_topi (fun v1 ev1 => ?_)
  have dv1 : dkN [(0, 9)] v1 := by rw [ev1]; exact (dkO_at hO ht0 (c := 0) (by decide) 0)
  refine lv_if_le (tgt := 11) hx hb dX4_stands_4 (by decide) (fun c2 => ?_) (fun c2 => ?_)
  ·
    have d3 : dkN [(0, 0)] v1 := dkN_le1 0 dv1 (dkN_lit (x := 0) (0) rfl) (dkc_le c2) rfl
    have f4 : dkN [(0, 0)] (I0 t0 0) := by rw [← ev1]; exact d3
    refine lv_iconst (v := 0) hx hb dX4_stands_11 (by decide) ?_
    exact W.zret (v := 0) (ty := .boolean) hx hb hr rfl (fun t ht hW9 => ⟨⟨0, I0, rfl, ⟨hF, hO, Or.inl ⟨dkN_sub (dkN_lit (x := 0) (0) rfl) rfl, (show dkN [(0, 0)] (I0 t0 0) from dkN_sub f4 rfl), trivial⟩⟩, dkW_eq ht hW⟩, hS.F ht⟩) hS.2.2 dX4_stands_12
  ·
    have d5 : dkN [(1, 9)] v1 := dkN_le2 1 (dkN_lit (x := 0) (0) rfl) dv1 (dkc_nle c2) rfl
    have f6 : dkN [(1, 9)] (I0 t0 0) := by rw [← ev1]; exact d5
    refine lv_iconst (v := 1) hx hb dX4_stands_7 (by decide) ?_
    refine lv_goto (tgt := 12) hx hb dX4_stands_8 (by decide) ?_
    exact W.zret (v := 1) (ty := .boolean) hx hb hr rfl (fun t ht hW9 => ⟨⟨1, I0, rfl, ⟨hF, hO, Or.inr (⟨dkN_sub (dkN_lit (x := 1) (1) rfl) rfl, (show dkN [(1, 9)] (I0 t0 0) from dkN_sub f6 rfl), trivial⟩)⟩, dkW_eq ht hW⟩, hS.F ht⟩) hS.2.2 dX4_stands_12
set_option maxHeartbeats 4000000 in
set_option maxRecDepth 100000 in
theorem c_X4_stroll_0 (l : Launch) (g : dkG) (z : Nat) (I0 : dkI) (t0 : Nat) (ht0 : dkT t0) (p0 : Int32) (dp0 : dkN [(0, 4)] p0)  (hO : dkOk I0) : Met l yX4_stroll wsX4_stroll (dkR 0) (dkPc g z [.ref (z + t0), .int p0] I0) (dkQv g z (fun I1 => dkF [(t0 + 3, t0 + 3, 0, 4), (t0 + 5, t0 + 5, 0, 4)] I0 I1 ∧ dkOk I1 ∧ ((True)))) 0 0 (dkA z) := by
  refine Met.ofW (cc := cX4_stroll) (maxL := 2) (ret := none) (by decide) rfl ?_
  intro p e s m args below meth c s₁ B hml hv
  obtain ⟨ha, hW, hK, hT⟩ := hv
  have hx := B.exec
  have hb := B.bytes
  have hr := B.returns
  have hts := atoms_spec (ws := wsX4_stroll) B.pre
  have hown : s.vm.findClass RX4 = some m.cls := findClass_of_methodNamed B.named
  have hlocks := B.notSynchronized
  have hS : va_S (dkA z) s.heap s.heap [] := va_S.rf
  have hF : dkF [(t0 + 3, t0 + 3, 0, 4), (t0 + 5, t0 + 5, 0, 4)] I0 I0 := dkF_rf _ _
  have hl := lv_entry ([.ref (z + t0), .int p0]) (n := 2) (Nat.le_of_ble_eq_true rfl)
  have hgo : entryFrame m args 2 = entryFrame m ([.ref (z + t0), .int p0] : List Value).toArray 2 := by rw [ha]
  rw [hgo, lg_entry_eq]
  generalize (lg_sl ([.ref (z + t0), .int p0]) ++ List.replicate (2 - (lg_sl ([.ref (z + t0), .int p0])).length) Slot.unset).toArray = ls at hl ⊢
  have hl : lv_has ls 2 [(0, .ref (z + t0)), (1, .int p0)] := hl
  have C61 : ∀ (I : dkI) (H : Heap) (locs : List Loc) (ls : Array Slot), dkW g z I H → va_S (dkA z) s.heap H locs → dkF [(t0 + 3, t0 + 3, 0, 4), (t0 + 5, t0 + 5, 0, 4)] I0 I → dkOk I → lv_has ls 2 [(0, .ref (z + t0)), (1, .int p0)] → W p l e (headSpec wsX4_stroll (dkR 0)).room s m args below meth c H locs 0 0 (MQ below (dkQv g z (fun I1 => dkF [(t0 + 3, t0 + 3, 0, 4), (t0 + 5, t0 + 5, 0, 4)] I0 I1 ∧ dkOk I1 ∧ ((True)))) args s 0 0 (dkA z)) (F0 m 61 ls []) := by
    intro I61_ H locs ls hW hS hF_61 hO hl
    have hF := hF_61
    refine lv_aload_n hx hb dX4_stroll_61 rfl (lv_at hl 0 rfl) ?_
    refine dk_get (k := t0) hx hb hts iX4_stroll_4 hown hK (dk_aT0 ht0 hW) rfl 9 (by decide) (hts (.fieldLink RX4 24 "DogKings$Town" "gait" "[I") (List.mem_of_getElem? (i := 1) rfl)) rfl dX4_stroll_62 ?_
    refine lv_iload_n hx hb dX4_stroll_65 rfl (lv_at hl 1 rfl) ?_
    refine dk_ild (k := (t0 + 5)) hx hb hK (dk_aT5 ht0 hW) (dkN_in (n := 5) dp0 rfl) dX4_stroll_66 ?_
    refine lv_topi (fun v1 ev1 => ?_)
    refine lv_if_eq (tgt := 94) hx hb dX4_stroll_67 (by decide) (fun c2 => ?_) (fun c2 => ?_)
    ·
      have d3 : dkN [(0, 0)] v1 := dkN_eq1 (dkN_top v1) (dkN_lit (x := 0) (0) rfl) (congrArg Int32.toInt c2) rfl
      exact W.vret hx hb hr (fun t ht hW9 => ⟨⟨I61_, rfl, ⟨hF, hO, trivial⟩, dkW_eq ht hW⟩, hS.F ht⟩) hS.2.2 dX4_stroll_94
    ·
      have d4 : dkN [(-2147483648, -1), (1, 2147483647)] v1 := dkN_ne1 (0) (dkN_top v1) (dkN_lit (x := 0) (0) rfl) (dk_ne c2) rfl
      refine lv_aload_n hx hb dX4_stroll_70 rfl (lv_at hl 0 rfl) ?_
      refine dk_get (k := t0) hx hb hts iX4_stroll_4 hown hK (dk_aT0 ht0 hW) rfl 7 (by decide) (hts (.fieldLink RX4 18 "DogKings$Town" "personAt" "[I") (List.mem_of_getElem? (i := 2) rfl)) rfl dX4_stroll_71 ?_
      refine lv_iload_n hx hb dX4_stroll_74 rfl (lv_at hl 1 rfl) ?_
      refine lv_dup2_11 hx hb dX4_stroll_75 rfl rfl ?_
      refine dk_ild (k := (t0 + 3)) hx hb hK (dk_aT3 ht0 hW) (dkN_in (n := 5) dp0 rfl) dX4_stroll_76 ?_
      refine lv_topi (fun v5 ev5 => ?_)
      refine lv_aload_n hx hb dX4_stroll_77 rfl (lv_at hl 0 rfl) ?_
      refine dk_get (k := t0) hx hb hts iX4_stroll_4 hown hK (dk_aT0 ht0 hW) rfl 9 (by decide) (hts (.fieldLink RX4 24 "DogKings$Town" "gait" "[I") (List.mem_of_getElem? (i := 1) rfl)) rfl dX4_stroll_78 ?_
      refine lv_iload_n hx hb dX4_stroll_81 rfl (lv_at hl 1 rfl) ?_
      refine dk_ild (k := (t0 + 5)) hx hb hK (dk_aT5 ht0 hW) (dkN_in (n := 5) dp0 rfl) dX4_stroll_82 ?_
      refine lv_topi (fun v6 ev6 => ?_)
      refine lv_iconst (v := 1) hx hb dX4_stroll_83 (by decide) ?_
      refine lv_icmp_ne (tgt := 91) hx hb dX4_stroll_84 (by decide) (fun c7 => ?_) (fun c7 => ?_)
      ·
        have d8 : dkN [(-2147483648, 0), (2, 2147483647)] v6 := dkN_ne1 (1) (dkN_top v6) (dkN_lit (x := 1) (1) rfl) (dk_ne c7) rfl
        refine lv_iconst (v := (-1)) hx hb dX4_stroll_91 (by decide) ?_
        refine lv_iadd hx hb dX4_stroll_92 ?_
        refine lv_topi (fun v9 ev9 => ?_)
        refine dk_ist (k := (t0 + 3)) hx hb hK hW (fun _ => dkC_T g z ht0 (c := 3) (by decide) _) (by have := dkT_lt ht0; omega) hS (dkN_in (n := 5) dp0 rfl) dX4_stroll_93 (fun I10 H10 L10 eI10 hW hS => ?_)
        have hO := dkO_setT hO ht0 (c := 3) (by decide) eI10 (dkN_sub (dkN_top v9) rfl)
        have hF := dkF_set hF eI10 (dkIn_atv (i := 0) rfl (Nat.le_refl _) (Nat.le_refl _) dp0 rfl)
        exact W.vret hx hb hr (fun t ht hW9 => ⟨⟨I10, rfl, ⟨hF, hO, trivial⟩, dkW_eq ht hW⟩, hS.F ht⟩) hS.2.2 dX4_stroll_94
      ·
        have d11 : dkN [(1, 1)] v6 := dkN_eq1 (dkN_top v6) (dkN_lit (x := 1) (1) rfl) (congrArg Int32.toInt c7) rfl
        refine lv_iconst (v := 1) hx hb dX4_stroll_87 (by decide) ?_
        refine lv_goto (tgt := 92) hx hb dX4_stroll_88 (by decide) ?_
        refine lv_iadd hx hb dX4_stroll_92 ?_
        refine lv_topi (fun v12 ev12 => ?_)
        refine dk_ist (k := (t0 + 3)) hx hb hK hW (fun _ => dkC_T g z ht0 (c := 3) (by decide) _) (by have := dkT_lt ht0; omega) hS (dkN_in (n := 5) dp0 rfl) dX4_stroll_93 (fun I13 H13 L13 eI13 hW hS => ?_)
        have hO := dkO_setT hO ht0 (c := 3) (by decide) eI13 (dkN_sub (dkN_top v12) rfl)
        have hF := dkF_set hF eI13 (dkIn_atv (i := 0) rfl (Nat.le_refl _) (Nat.le_refl _) dp0 rfl)
        exact W.vret hx hb hr (fun t ht hW9 => ⟨⟨I13, rfl, ⟨hF, hO, trivial⟩, dkW_eq ht hW⟩, hS.F ht⟩) hS.2.2 dX4_stroll_94
  have C35 : ∀ (I : dkI) (H : Heap) (locs : List Loc) (ls : Array Slot), dkW g z I H → va_S (dkA z) s.heap H locs → dkF [(t0 + 3, t0 + 3, 0, 4), (t0 + 5, t0 + 5, 0, 4)] I0 I → dkOk I → lv_has ls 2 [(0, .ref (z + t0)), (1, .int p0)] → W p l e (headSpec wsX4_stroll (dkR 0)).room s m args below meth c H locs 0 0 (MQ below (dkQv g z (fun I1 => dkF [(t0 + 3, t0 + 3, 0, 4), (t0 + 5, t0 + 5, 0, 4)] I0 I1 ∧ dkOk I1 ∧ ((True)))) args s 0 0 (dkA z)) (F0 m 35 ls []) := by
    intro I35_ H locs ls hW hS hF_35 hO hl
    have hF := hF_35
    refine lv_aload_n hx hb dX4_stroll_35 rfl (lv_at hl 0 rfl) ?_
    refine dk_get (k := t0) hx hb hts iX4_stroll_4 hown hK (dk_aT0 ht0 hW) rfl 9 (by decide) (hts (.fieldLink RX4 24 "DogKings$Town" "gait" "[I") (List.mem_of_getElem? (i := 1) rfl)) rfl dX4_stroll_36 ?_
    refine lv_iload_n hx hb dX4_stroll_39 rfl (lv_at hl 1 rfl) ?_
    refine dk_ild (k := (t0 + 5)) hx hb hK (dk_aT5 ht0 hW) (dkN_in (n := 5) dp0 rfl) dX4_stroll_40 ?_
    refine lv_topi (fun v14 ev14 => ?_)
    refine lv_iconst (v := 2) hx hb dX4_stroll_41 (by decide) ?_
    refine lv_icmp_ne (tgt := 61) hx hb dX4_stroll_42 (by decide) (fun c15 => ?_) (fun c15 => ?_)
    ·
      have d16 : dkN [(-2147483648, 1), (3, 2147483647)] v14 := dkN_ne1 (2) (dkN_top v14) (dkN_lit (x := 2) (2) rfl) (dk_ne c15) rfl
      exact C61 I35_ _ _ ls  hW hS hF hO  (lv_sub hl [0, 1] rfl)
    ·
      have d17 : dkN [(2, 2)] v14 := dkN_eq1 (dkN_top v14) (dkN_lit (x := 2) (2) rfl) (congrArg Int32.toInt c15) rfl
      refine lv_aload_n hx hb dX4_stroll_45 rfl (lv_at hl 0 rfl) ?_
      refine dk_get (k := t0) hx hb hts iX4_stroll_4 hown hK (dk_aT0 ht0 hW) rfl 7 (by decide) (hts (.fieldLink RX4 18 "DogKings$Town" "personAt" "[I") (List.mem_of_getElem? (i := 2) rfl)) rfl dX4_stroll_46 ?_
      refine lv_iload_n hx hb dX4_stroll_49 rfl (lv_at hl 1 rfl) ?_
      refine dk_ild (k := (t0 + 3)) hx hb hK (dk_aT3 ht0 hW) (dkN_in (n := 5) dp0 rfl) dX4_stroll_50 ?_
      refine lv_topi (fun v18 ev18 => ?_)
      refine lv_if_ne (tgt := 61) hx hb dX4_stroll_51 (by decide) (fun c19 => ?_) (fun c19 => ?_)
      ·
        have d20 : dkN [(-2147483648, -1), (1, 2147483647)] v18 := dkN_ne1 (0) (dkN_top v18) (dkN_lit (x := 0) (0) rfl) (dk_ne c19) rfl
        exact C61 I35_ _ _ ls  hW hS hF hO  (lv_sub hl [0, 1] rfl)
      ·
        have d21 : dkN [(0, 0)] v18 := dkN_eq1 (dkN_top v18) (dkN_lit (x := 0) (0) rfl) (congrArg Int32.toInt c19) rfl
        refine lv_aload_n hx hb dX4_stroll_54 rfl (lv_at hl 0 rfl) ?_
        refine dk_get (k := t0) hx hb hts iX4_stroll_4 hown hK (dk_aT0 ht0 hW) rfl 9 (by decide) (hts (.fieldLink RX4 24 "DogKings$Town" "gait" "[I") (List.mem_of_getElem? (i := 1) rfl)) rfl dX4_stroll_55 ?_
        refine lv_iload_n hx hb dX4_stroll_58 rfl (lv_at hl 1 rfl) ?_
        refine lv_iconst (v := 1) hx hb dX4_stroll_59 (by decide) ?_
        refine dk_ist (k := (t0 + 5)) hx hb hK hW (fun _ => dkC_T g z ht0 (c := 5) (by decide) _) (by have := dkT_lt ht0; omega) hS (dkN_in (n := 5) dp0 rfl) dX4_stroll_60 (fun I22 H22 L22 eI22 hW hS => ?_)
        have hO := dkO_setT hO ht0 (c := 5) (by decide) eI22 (dkN_sub (dkN_lit (x := 1) (1) rfl) rfl)
        have hF := dkF_set hF eI22 (dkIn_atv (i := 1) rfl (Nat.le_refl _) (Nat.le_refl _) dp0 rfl)
        exact C61 I22 _ _ ls  hW hS hF hO  (lv_sub hl [0, 1] rfl)
  refine lv_aload_n hx hb dX4_stroll_0 rfl (lv_at hl 0 rfl) ?_
  refine dk_get (k := t0) hx hb hts iX4_stroll_4 hown hK (dk_aT0 ht0 hW) rfl 9 (by decide) (hts (.fieldLink RX4 24 "DogKings$Town" "gait" "[I") (List.mem_of_getElem? (i := 1) rfl)) rfl dX4_stroll_1 ?_
  refine lv_iload_n hx hb dX4_stroll_4 rfl (lv_at hl 1 rfl) ?_
  refine dk_ild (k := (t0 + 5)) hx hb hK (dk_aT5 ht0 hW) (dkN_in (n := 5) dp0 rfl) dX4_stroll_5 ?_
  refine lv_topi (fun v23 ev23 => ?_)
  refine lv_iconst (v := 1) hx hb dX4_stroll_6 (by decide) ?_
  refine lv_icmp_ne (tgt := 35) hx hb dX4_stroll_7 (by decide) (fun c24 => ?_) (fun c24 => ?_)
  ·
    have d25 : dkN [(-2147483648, 0), (2, 2147483647)] v23 := dkN_ne1 (1) (dkN_top v23) (dkN_lit (x := 1) (1) rfl) (dk_ne c24) rfl
    exact C35 I0 _ _ ls  hW hS hF hO  (lv_sub hl [0, 1] rfl)
  ·
    have d26 : dkN [(1, 1)] v23 := dkN_eq1 (dkN_top v23) (dkN_lit (x := 1) (1) rfl) (congrArg Int32.toInt c24) rfl
    refine lv_aload_n hx hb dX4_stroll_10 rfl (lv_at hl 0 rfl) ?_
    refine dk_get (k := t0) hx hb hts iX4_stroll_4 hown hK (dk_aT0 ht0 hW) rfl 7 (by decide) (hts (.fieldLink RX4 18 "DogKings$Town" "personAt" "[I") (List.mem_of_getElem? (i := 2) rfl)) rfl dX4_stroll_11 ?_
    refine lv_iload_n hx hb dX4_stroll_14 rfl (lv_at hl 1 rfl) ?_
    refine dk_ild (k := (t0 + 3)) hx hb hK (dk_aT3 ht0 hW) (dkN_in (n := 5) dp0 rfl) dX4_stroll_15 ?_
    refine lv_topi (fun v27 ev27 => ?_)
    refine lv_aload_n hx hb dX4_stroll_16 rfl (lv_at hl 0 rfl) ?_
    refine dk_get (k := t0) hx hb hts iX4_stroll_4 hown hK (dk_aT0 ht0 hW) rfl 0 (by decide) (hts (.fieldLink RX4 42 "DogKings$Town" "places" "I") (List.mem_of_getElem? (i := 3) rfl)) rfl dX4_stroll_17 ?_
    refine lv_topi (fun v28 ev28 => ?_)
    have dv28 : dkN [(0, 9)] v28 := by rw [ev28]; exact (dkO_at hO ht0 (c := 0) (by decide) 0)
    refine lv_iconst (v := 1) hx hb dX4_stroll_20 (by decide) ?_
    refine lv_isub hx hb dX4_stroll_21 ?_
    refine lv_topi (fun v29 ev29 => ?_)
    have dv29 : dkN [(-1, 8)] v29 := by rw [ev29]; exact dkN_subt dv28 (dkN_lit (x := 1) (1) rfl) rfl
    refine lv_icmp_ne (tgt := 35) hx hb dX4_stroll_22 (by decide) (fun c30 => ?_) (fun c30 => ?_)
    ·
      exact C35 I0 _ _ ls  hW hS hF hO  (lv_sub hl [0, 1] rfl)
    ·
      have d31 : dkN [(-1, 8)] v27 := dkN_eq1 (dkN_top v27) dv29 (congrArg Int32.toInt c30) rfl
      refine lv_aload_n hx hb dX4_stroll_25 rfl (lv_at hl 0 rfl) ?_
      refine dk_get (k := t0) hx hb hts iX4_stroll_4 hown hK (dk_aT0 ht0 hW) rfl 9 (by decide) (hts (.fieldLink RX4 24 "DogKings$Town" "gait" "[I") (List.mem_of_getElem? (i := 1) rfl)) rfl dX4_stroll_26 ?_
      refine lv_iload_n hx hb dX4_stroll_29 rfl (lv_at hl 1 rfl) ?_
      refine lv_iconst (v := 2) hx hb dX4_stroll_30 (by decide) ?_
      refine dk_ist (k := (t0 + 5)) hx hb hK hW (fun _ => dkC_T g z ht0 (c := 5) (by decide) _) (by have := dkT_lt ht0; omega) hS (dkN_in (n := 5) dp0 rfl) dX4_stroll_31 (fun I32 H32 L32 eI32 hW hS => ?_)
      have hO := dkO_setT hO ht0 (c := 5) (by decide) eI32 (dkN_sub (dkN_lit (x := 2) (2) rfl) rfl)
      have hF := dkF_set hF eI32 (dkIn_atv (i := 1) rfl (Nat.le_refl _) (Nat.le_refl _) dp0 rfl)
      refine lv_goto (tgt := 61) hx hb dX4_stroll_32 (by decide) ?_
      exact C61 I32 _ _ ls  hW hS hF hO  (lv_sub hl [0, 1] rfl)
set_option maxHeartbeats 4000000 in
set_option maxRecDepth 100000 in
theorem c_X5_holds_0 (l : Launch) (g : dkG) (z : Nat) (I0 : dkI) (p0 : Int32) (p1 : Int32)  (hO : dkOk I0) : Met l yX5_holds wsX5_holds (dkR 0) (dkPc g z [.int p0, .int p1] I0) (dkQi g z (fun r I1 => dkF [] I0 I1 ∧ dkOk I1 ∧ ((dkN [(0, 1)] r ∧ True)))) 0 0 (dkA z) := by
  refine Met.ofW (cc := cX5_holds) (maxL := 2) (ret := (some .boolean)) (by decide) rfl ?_
  intro p e s m args below meth c s₁ B hml hv
  obtain ⟨ha, hW, hK, hT⟩ := hv
  have hx := B.exec
  have hb := B.bytes
  have hr := B.returns
  have hts := atoms_spec (ws := wsX5_holds) B.pre
  have hown : s.vm.findClass RX5 = some m.cls := findClass_of_methodNamed B.named
  have hlocks := B.notSynchronized
  have hS : va_S (dkA z) s.heap s.heap [] := va_S.rf
  have hF : dkF [] I0 I0 := dkF_rf _ _
  have hl := lv_entry ([.int p0, .int p1]) (n := 2) (Nat.le_of_ble_eq_true rfl)
  have hgo : entryFrame m args 2 = entryFrame m ([.int p0, .int p1] : List Value).toArray 2 := by rw [ha]
  rw [hgo, lg_entry_eq]
  generalize (lg_sl ([.int p0, .int p1]) ++ List.replicate (2 - (lg_sl ([.int p0, .int p1])).length) Slot.unset).toArray = ls at hl ⊢
  have hl : lv_has ls 2 [(0, .int p0), (1, .int p1)] := hl
  refine lv_iload_n hx hb dX5_holds_0 rfl (lv_at hl 0 rfl) ?_
  refine lv_iload_n hx hb dX5_holds_1 rfl (lv_at hl 1 rfl) ?_
  refine lv_ishr hx hb dX5_holds_2 ?_
  refine lv_topi (fun v1 ev1 => ?_)
  refine lv_iconst (v := 1) hx hb dX5_holds_3 (by decide) ?_
  refine lv_iand hx hb dX5_holds_4 ?_
  refine lv_topi (fun v2 ev2 => ?_)
  have dv2 : dkN [(0, 1)] v2 := by rw [ev2]; exact dkN_and (dkN_lit (x := 1) (1) rfl) rfl
  refine lv_iconst (v := 1) hx hb dX5_holds_5 (by decide) ?_
  refine lv_icmp_ne (tgt := 13) hx hb dX5_holds_6 (by decide) (fun c3 => ?_) (fun c3 => ?_)
  ·
    have d4 : dkN [(0, 0)] v2 := dkN_ne1 (1) dv2 (dkN_lit (x := 1) (1) rfl) (dk_ne c3) rfl
    refine lv_iconst (v := 0) hx hb dX5_holds_13 (by decide) ?_
    exact W.zret (v := 0) (ty := .boolean) hx hb hr rfl (fun t ht hW9 => ⟨⟨0, I0, rfl, ⟨hF, hO, ⟨dkN_sub (dkN_lit (x := 0) (0) rfl) rfl, trivial⟩⟩, dkW_eq ht hW⟩, hS.F ht⟩) hS.2.2 dX5_holds_14
  ·
    have d5 : dkN [(1, 1)] v2 := dkN_eq1 dv2 (dkN_lit (x := 1) (1) rfl) (congrArg Int32.toInt c3) rfl
    refine lv_iconst (v := 1) hx hb dX5_holds_9 (by decide) ?_
    refine lv_goto (tgt := 14) hx hb dX5_holds_10 (by decide) ?_
    exact W.zret (v := 1) (ty := .boolean) hx hb hr rfl (fun t ht hW9 => ⟨⟨1, I0, rfl, ⟨hF, hO, ⟨dkN_sub (dkN_lit (x := 1) (1) rfl) rfl, trivial⟩⟩, dkW_eq ht hW⟩, hS.F ht⟩) hS.2.2 dX5_holds_14
set_option maxHeartbeats 4000000 in
set_option maxRecDepth 100000 in
theorem c_X5_isA_0 (l : Launch) (g : dkG) (z : Nat) (I0 : dkI) (p0 : Int32) (p1 : Int32) (dp1 : dkN [(4, 4)] p1)  (hO : dkOk I0) : Met l yX5_isA wsX5_isA (dkR 0) (dkPc g z [.int p0, .int p1] I0) (dkQi g z (fun r I1 => dkF [] I0 I1 ∧ dkOk I1 ∧ ((dkN [(0, 0)] r ∧ dkN [(-2147483648, 3), (6, 2147483647)] p0 ∧ True) ∨ (dkN [(1, 1)] r ∧ dkN [(4, 5)] p0 ∧ True)))) 0 0 (dkA z) := by
  refine Met.ofW (cc := cX5_isA) (maxL := 2) (ret := (some .boolean)) (by decide) rfl ?_
  intro p e s m args below meth c s₁ B hml hv
  obtain ⟨ha, hW, hK, hT⟩ := hv
  have hx := B.exec
  have hb := B.bytes
  have hr := B.returns
  have hts := atoms_spec (ws := wsX5_isA) B.pre
  have hown : s.vm.findClass RX5 = some m.cls := findClass_of_methodNamed B.named
  have hlocks := B.notSynchronized
  have hS : va_S (dkA z) s.heap s.heap [] := va_S.rf
  have hF : dkF [] I0 I0 := dkF_rf _ _
  have hl := lv_entry ([.int p0, .int p1]) (n := 2) (Nat.le_of_ble_eq_true rfl)
  have hgo : entryFrame m args 2 = entryFrame m ([.int p0, .int p1] : List Value).toArray 2 := by rw [ha]
  rw [hgo, lg_entry_eq]
  generalize (lg_sl ([.int p0, .int p1]) ++ List.replicate (2 - (lg_sl ([.int p0, .int p1])).length) Slot.unset).toArray = ls at hl ⊢
  have hl : lv_has ls 2 [(0, .int p0), (1, .int p1)] := hl
  refine lv_iload_n hx hb dX5_isA_0 rfl (lv_at hl 1 rfl) ?_
  by_cases c1 : p1 = 4
  ·
    have qc1 : p1.toInt = 4 := by rw [c1]; rfl
    have d2 : dkN [(4, 4)] p1 := dkN_lit (4) qc1
    refine lv_tableIn (tgt := 59) hx hb dX5_isA_1 (by rw [qc1]; decide) (by rw [qc1]; decide) (by rw [qc1]; rfl) (by decide) ?_
    refine lv_iload_n hx hb dX5_isA_59 rfl (lv_at hl 0 rfl) ?_
    refine lv_iconst (v := 4) hx hb dX5_isA_60 (by decide) ?_
    refine lv_icmp_eq (tgt := 69) hx hb dX5_isA_61 (by decide) (fun c3 => ?_) (fun c3 => ?_)
    ·
      have d4 : dkN [(4, 4)] p0 := dkN_eq1 (dkN_top p0) (dkN_lit (x := 4) (4) rfl) (congrArg Int32.toInt c3) rfl
      refine lv_iconst (v := 1) hx hb dX5_isA_69 (by decide) ?_
      refine lv_goto (tgt := 74) hx hb dX5_isA_70 (by decide) ?_
      exact W.zret (v := 1) (ty := .boolean) hx hb hr rfl (fun t ht hW9 => ⟨⟨1, I0, rfl, ⟨hF, hO, Or.inr (⟨dkN_sub (dkN_lit (x := 1) (1) rfl) rfl, dkN_sub d4 rfl, trivial⟩)⟩, dkW_eq ht hW⟩, hS.F ht⟩) hS.2.2 dX5_isA_74
    ·
      have d5 : dkN [(-2147483648, 3), (5, 2147483647)] p0 := dkN_ne1 (4) (dkN_top p0) (dkN_lit (x := 4) (4) rfl) (dk_ne c3) rfl
      refine lv_iload_n hx hb dX5_isA_64 rfl (lv_at hl 0 rfl) ?_
      refine lv_iconst (v := 5) hx hb dX5_isA_65 (by decide) ?_
      refine lv_icmp_ne (tgt := 73) hx hb dX5_isA_66 (by decide) (fun c6 => ?_) (fun c6 => ?_)
      ·
        have d7 : dkN [(-2147483648, 3), (6, 2147483647)] p0 := dkN_ne1 (5) d5 (dkN_lit (x := 5) (5) rfl) (dk_ne c6) rfl
        refine lv_iconst (v := 0) hx hb dX5_isA_73 (by decide) ?_
        exact W.zret (v := 0) (ty := .boolean) hx hb hr rfl (fun t ht hW9 => ⟨⟨0, I0, rfl, ⟨hF, hO, Or.inl ⟨dkN_sub (dkN_lit (x := 0) (0) rfl) rfl, dkN_sub d7 rfl, trivial⟩⟩, dkW_eq ht hW⟩, hS.F ht⟩) hS.2.2 dX5_isA_74
      ·
        have d8 : dkN [(5, 5)] p0 := dkN_eq1 d5 (dkN_lit (x := 5) (5) rfl) (congrArg Int32.toInt c6) rfl
        refine lv_iconst (v := 1) hx hb dX5_isA_69 (by decide) ?_
        refine lv_goto (tgt := 74) hx hb dX5_isA_70 (by decide) ?_
        exact W.zret (v := 1) (ty := .boolean) hx hb hr rfl (fun t ht hW9 => ⟨⟨1, I0, rfl, ⟨hF, hO, Or.inr (⟨dkN_sub (dkN_lit (x := 1) (1) rfl) rfl, dkN_sub d8 rfl, trivial⟩)⟩, dkW_eq ht hW⟩, hS.F ht⟩) hS.2.2 dX5_isA_74
  ·
    exact (dkN_nil (show dkN [] p1 from dkN_ne1 (4) dp1 (dkN_lit (x := 4) (4) rfl) (dk_ne c1) rfl)).elim
set_option maxHeartbeats 4000000 in
set_option maxRecDepth 100000 in
theorem c_X5_isA_1 (l : Launch) (g : dkG) (z : Nat) (I0 : dkI) (p0 : Int32) (p1 : Int32) (dp1 : dkN [(1, 1)] p1)  (hO : dkOk I0) : Met l yX5_isA wsX5_isA (dkR 0) (dkPc g z [.int p0, .int p1] I0) (dkQi g z (fun r I1 => dkF [] I0 I1 ∧ dkOk I1 ∧ ((dkN [(0, 0)] r ∧ dkN [(-2147483648, 0), (4, 2147483647)] p0 ∧ True) ∨ (dkN [(1, 1)] r ∧ dkN [(1, 3)] p0 ∧ True)))) 0 0 (dkA z) := by
  refine Met.ofW (cc := cX5_isA) (maxL := 2) (ret := (some .boolean)) (by decide) rfl ?_
  intro p e s m args below meth c s₁ B hml hv
  obtain ⟨ha, hW, hK, hT⟩ := hv
  have hx := B.exec
  have hb := B.bytes
  have hr := B.returns
  have hts := atoms_spec (ws := wsX5_isA) B.pre
  have hown : s.vm.findClass RX5 = some m.cls := findClass_of_methodNamed B.named
  have hlocks := B.notSynchronized
  have hS : va_S (dkA z) s.heap s.heap [] := va_S.rf
  have hF : dkF [] I0 I0 := dkF_rf _ _
  have hl := lv_entry ([.int p0, .int p1]) (n := 2) (Nat.le_of_ble_eq_true rfl)
  have hgo : entryFrame m args 2 = entryFrame m ([.int p0, .int p1] : List Value).toArray 2 := by rw [ha]
  rw [hgo, lg_entry_eq]
  generalize (lg_sl ([.int p0, .int p1]) ++ List.replicate (2 - (lg_sl ([.int p0, .int p1])).length) Slot.unset).toArray = ls at hl ⊢
  have hl : lv_has ls 2 [(0, .int p0), (1, .int p1)] := hl
  refine lv_iload_n hx hb dX5_isA_0 rfl (lv_at hl 1 rfl) ?_
  by_cases c1 : p1 = 1
  ·
    have qc1 : p1.toInt = 1 := by rw [c1]; rfl
    have d2 : dkN [(1, 1)] p1 := dkN_lit (1) qc1
    refine lv_tableIn (tgt := 38) hx hb dX5_isA_1 (by rw [qc1]; decide) (by rw [qc1]; decide) (by rw [qc1]; rfl) (by decide) ?_
    refine lv_iload_n hx hb dX5_isA_38 rfl (lv_at hl 0 rfl) ?_
    refine lv_iconst (v := 1) hx hb dX5_isA_39 (by decide) ?_
    refine lv_icmp_eq (tgt := 53) hx hb dX5_isA_40 (by decide) (fun c3 => ?_) (fun c3 => ?_)
    ·
      have d4 : dkN [(1, 1)] p0 := dkN_eq1 (dkN_top p0) (dkN_lit (x := 1) (1) rfl) (congrArg Int32.toInt c3) rfl
      refine lv_iconst (v := 1) hx hb dX5_isA_53 (by decide) ?_
      refine lv_goto (tgt := 58) hx hb dX5_isA_54 (by decide) ?_
      exact W.zret (v := 1) (ty := .boolean) hx hb hr rfl (fun t ht hW9 => ⟨⟨1, I0, rfl, ⟨hF, hO, Or.inr (⟨dkN_sub (dkN_lit (x := 1) (1) rfl) rfl, dkN_sub d4 rfl, trivial⟩)⟩, dkW_eq ht hW⟩, hS.F ht⟩) hS.2.2 dX5_isA_58
    ·
      have d5 : dkN [(-2147483648, 0), (2, 2147483647)] p0 := dkN_ne1 (1) (dkN_top p0) (dkN_lit (x := 1) (1) rfl) (dk_ne c3) rfl
      refine lv_iload_n hx hb dX5_isA_43 rfl (lv_at hl 0 rfl) ?_
      refine lv_iconst (v := 2) hx hb dX5_isA_44 (by decide) ?_
      refine lv_icmp_eq (tgt := 53) hx hb dX5_isA_45 (by decide) (fun c6 => ?_) (fun c6 => ?_)
      ·
        have d7 : dkN [(2, 2)] p0 := dkN_eq1 d5 (dkN_lit (x := 2) (2) rfl) (congrArg Int32.toInt c6) rfl
        refine lv_iconst (v := 1) hx hb dX5_isA_53 (by decide) ?_
        refine lv_goto (tgt := 58) hx hb dX5_isA_54 (by decide) ?_
        exact W.zret (v := 1) (ty := .boolean) hx hb hr rfl (fun t ht hW9 => ⟨⟨1, I0, rfl, ⟨hF, hO, Or.inr (⟨dkN_sub (dkN_lit (x := 1) (1) rfl) rfl, dkN_sub d7 rfl, trivial⟩)⟩, dkW_eq ht hW⟩, hS.F ht⟩) hS.2.2 dX5_isA_58
      ·
        have d8 : dkN [(-2147483648, 0), (3, 2147483647)] p0 := dkN_ne1 (2) d5 (dkN_lit (x := 2) (2) rfl) (dk_ne c6) rfl
        refine lv_iload_n hx hb dX5_isA_48 rfl (lv_at hl 0 rfl) ?_
        refine lv_iconst (v := 3) hx hb dX5_isA_49 (by decide) ?_
        refine lv_icmp_ne (tgt := 57) hx hb dX5_isA_50 (by decide) (fun c9 => ?_) (fun c9 => ?_)
        ·
          have d10 : dkN [(-2147483648, 0), (4, 2147483647)] p0 := dkN_ne1 (3) d8 (dkN_lit (x := 3) (3) rfl) (dk_ne c9) rfl
          refine lv_iconst (v := 0) hx hb dX5_isA_57 (by decide) ?_
          exact W.zret (v := 0) (ty := .boolean) hx hb hr rfl (fun t ht hW9 => ⟨⟨0, I0, rfl, ⟨hF, hO, Or.inl ⟨dkN_sub (dkN_lit (x := 0) (0) rfl) rfl, dkN_sub d10 rfl, trivial⟩⟩, dkW_eq ht hW⟩, hS.F ht⟩) hS.2.2 dX5_isA_58
        ·
          have d11 : dkN [(3, 3)] p0 := dkN_eq1 d8 (dkN_lit (x := 3) (3) rfl) (congrArg Int32.toInt c9) rfl
          refine lv_iconst (v := 1) hx hb dX5_isA_53 (by decide) ?_
          refine lv_goto (tgt := 58) hx hb dX5_isA_54 (by decide) ?_
          exact W.zret (v := 1) (ty := .boolean) hx hb hr rfl (fun t ht hW9 => ⟨⟨1, I0, rfl, ⟨hF, hO, Or.inr (⟨dkN_sub (dkN_lit (x := 1) (1) rfl) rfl, dkN_sub d11 rfl, trivial⟩)⟩, dkW_eq ht hW⟩, hS.F ht⟩) hS.2.2 dX5_isA_58
  ·
    exact (dkN_nil (show dkN [] p1 from dkN_ne1 (1) dp1 (dkN_lit (x := 1) (1) rfl) (dk_ne c1) rfl)).elim
set_option maxHeartbeats 4000000 in
set_option maxRecDepth 100000 in
theorem c_X4_pull_0 (l : Launch) (g : dkG) (z : Nat) (I0 : dkI) (t0 : Nat) (ht0 : dkT t0) (p0 : Int32) (p1 : Int32) (dp0 : dkN [(0, 4)] p0) (dp1 : dkN [(0, 5)] p1)  (hO : dkOk I0) : Met l yX4_pull wsX4_pull (dkR 0) (dkPc g z [.ref (z + t0), .int p0, .int p1] I0) (dkQi g z (fun r I1 => dkF [] I0 I1 ∧ dkOk I1 ∧ ((True ∧ True)))) 0 0 (dkA z) := by
  refine Met.ofW (cc := cX4_pull) (maxL := 5) (ret := (some .int)) (by decide) rfl ?_
  intro p e s m args below meth c s₁ B hml hv
  obtain ⟨ha, hW, hK, hT⟩ := hv
  have hx := B.exec
  have hb := B.bytes
  have hr := B.returns
  have hts := atoms_spec (ws := wsX4_pull) B.pre
  have hown : s.vm.findClass RX4 = some m.cls := findClass_of_methodNamed B.named
  have hlocks := B.notSynchronized
  have hS : va_S (dkA z) s.heap s.heap [] := va_S.rf
  have hF : dkF [] I0 I0 := dkF_rf _ _
  have hl := lv_entry ([.ref (z + t0), .int p0, .int p1]) (n := 5) (Nat.le_of_ble_eq_true rfl)
  have hgo : entryFrame m args 5 = entryFrame m ([.ref (z + t0), .int p0, .int p1] : List Value).toArray 5 := by rw [ha]
  rw [hgo, lg_entry_eq]
  generalize (lg_sl ([.ref (z + t0), .int p0, .int p1]) ++ List.replicate (5 - (lg_sl ([.ref (z + t0), .int p0, .int p1])).length) Slot.unset).toArray = ls at hl ⊢
  have hl : lv_has ls 5 [(0, .ref (z + t0)), (1, .int p0), (2, .int p1)] := hl
  have C20 : ∀ (I : dkI) (H : Heap) (locs : List Loc) (ls : Array Slot) (x20_s0 : Int32), dkW g z I H → va_S (dkA z) s.heap H locs → dkF [] I0 I → dkOk I → lv_has ls 5 [(0, .ref (z + t0)), (1, .int p0), (2, .int p1)] → W p l e (headSpec wsX4_pull (dkR 0)).room s m args below meth c H locs 0 0 (MQ below (dkQi g z (fun r I1 => dkF [] I0 I1 ∧ dkOk I1 ∧ ((True ∧ True)))) args s 0 0 (dkA z)) (F0 m 20 ls [.int x20_s0]) := by
    intro I20_ H locs ls x20_s0 hW hS hF_20 hO hl
    have hF := hF_20
    refine lv_istore_n (lv' := [(3, .int x20_s0), (0, .ref (z + t0)), (1, .int p0), (2, .int p1)]) hx hb dX4_pull_20 rfl hl (by decide) rfl (fun ls hl => ?_)
    refine lv_aload_n hx hb dX4_pull_21 rfl (lv_at hl 1 rfl) ?_
    refine dk_get (k := t0) hx hb hts iX4_pull_4 hown hK (dk_aT0 ht0 hW) rfl 7 (by decide) (hts (.fieldLink RX4 18 "DogKings$Town" "personAt" "[I") (List.mem_of_getElem? (i := 3) rfl)) rfl dX4_pull_22 ?_
    refine lv_iload_n hx hb dX4_pull_25 rfl (lv_at hl 2 rfl) ?_
    refine dk_ild (k := (t0 + 3)) hx hb hK (dk_aT3 ht0 hW) (dkN_in (n := 5) dp0 rfl) dX4_pull_26 ?_
    refine lv_topi (fun v1 ev1 => ?_)
    refine lv_aload_n hx hb dX4_pull_27 rfl (lv_at hl 1 rfl) ?_
    refine dk_get (k := t0) hx hb hts iX4_pull_4 hown hK (dk_aT0 ht0 hW) rfl 14 (by decide) (hts (.fieldLink RX4 36 "DogKings$Town" "dogAt" "[I") (List.mem_of_getElem? (i := 4) rfl)) rfl dX4_pull_28 ?_
    refine lv_iload_n hx hb dX4_pull_31 rfl (lv_at hl 3 rfl) ?_
    refine dk_ild (k := (t0 + 9)) hx hb hK (dk_aT9 ht0 hW) (dkN_in (n := 6) dp1 rfl) dX4_pull_32 ?_
    refine lv_topi (fun v2 ev2 => ?_)
    refine lv_isub hx hb dX4_pull_33 ?_
    refine lv_topi (fun v3 ev3 => ?_)
    refine lv_istore (lv' := [(4, .int v3), (3, .int x20_s0), (0, .ref (z + t0)), (1, .int p0), (2, .int p1)]) hx hb dX4_pull_34 hl (by decide) rfl (fun ls hl => ?_)
    refine lv_iload_n hx hb dX4_pull_36 rfl (lv_at hl 1 rfl) ?_
    refine lv_iconst (v := 3) hx hb dX4_pull_37 (by decide) ?_
    refine lv_aload_n hx hb dX4_pull_38 rfl (lv_at hl 2 rfl) ?_
    refine dk_get (k := t0) hx hb hts iX4_pull_4 hown hK (dk_aT0 ht0 hW) rfl 8 (by decide) (hts (.fieldLink RX4 21 "DogKings$Town" "bones" "[I") (List.mem_of_getElem? (i := 5) rfl)) rfl dX4_pull_39 ?_
    refine lv_iload_n hx hb dX4_pull_42 rfl (lv_at hl 3 rfl) ?_
    refine dk_ild (k := (t0 + 4)) hx hb hK (dk_aT4 ht0 hW) (dkN_in (n := 5) dp0 rfl) dX4_pull_43 ?_
    refine lv_topi (fun v4 ev4 => ?_)
    refine lv_imul hx hb dX4_pull_44 ?_
    refine lv_topi (fun v5 ev5 => ?_)
    refine lv_iadd hx hb dX4_pull_45 ?_
    refine lv_topi (fun v6 ev6 => ?_)
    refine lv_iload hx hb dX4_pull_46 (lv_at hl 0 rfl) ?_
    refine lv_if_ge (tgt := 57) hx hb dX4_pull_48 (by decide) (fun c7 => ?_) (fun c7 => ?_)
    ·
      have d8 : dkN [(0, 2147483647)] v3 := dkN_le2 0 (dkN_lit (x := 0) (0) rfl) (dkN_top v3) (dkc_le c7) rfl
      refine lv_iload hx hb dX4_pull_57 (lv_at hl 0 rfl) ?_
      refine lv_isub hx hb dX4_pull_59 ?_
      refine lv_topi (fun v9 ev9 => ?_)
      exact W.iret (v := v9) hx hb hr (fun t ht hW9 => ⟨⟨v9, I20_, rfl, ⟨hF, hO, ⟨trivial, trivial⟩⟩, dkW_eq ht hW⟩, hS.F ht⟩) hS.2.2 dX4_pull_60
    ·
      have d10 : dkN [(-2147483648, -1)] v3 := dkN_le1 1 (dkN_top v3) (dkN_lit (x := 0) (0) rfl) (dkc_nle c7) rfl
      refine lv_iload hx hb dX4_pull_51 (lv_at hl 0 rfl) ?_
      refine lv_ineg hx hb dX4_pull_53 ?_
      refine lv_topi (fun v11 ev11 => ?_)
      refine lv_goto (tgt := 59) hx hb dX4_pull_54 (by decide) ?_
      refine lv_isub hx hb dX4_pull_59 ?_
      refine lv_topi (fun v12 ev12 => ?_)
      exact W.iret (v := v12) hx hb hr (fun t ht hW9 => ⟨⟨v12, I20_, rfl, ⟨hF, hO, ⟨trivial, trivial⟩⟩, dkW_eq ht hW⟩, hS.F ht⟩) hS.2.2 dX4_pull_60
  refine lv_aload_n hx hb dX4_pull_0 rfl (lv_at hl 0 rfl) ?_
  refine dk_get (k := t0) hx hb hts iX4_pull_4 hown hK (dk_aT0 ht0 hW) rfl 12 (by decide) (hts (.fieldLink RX4 30 "DogKings$Town" "sort" "[I") (List.mem_of_getElem? (i := 1) rfl)) rfl dX4_pull_1 ?_
  refine lv_iload_n hx hb dX4_pull_4 rfl (lv_at hl 2 rfl) ?_
  refine dk_ild (k := (t0 + 7)) hx hb hK (dk_aT7 ht0 hW) (dkN_in (n := 6) dp1 rfl) dX4_pull_5 ?_
  refine lv_topi (fun v13 ev13 => ?_)
  refine lv_iconst (v := 2) hx hb dX4_pull_6 (by decide) ?_
  refine lv_icmp_ne (tgt := 14) hx hb dX4_pull_7 (by decide) (fun c14 => ?_) (fun c14 => ?_)
  ·
    have d15 : dkN [(-2147483648, 1), (3, 2147483647)] v13 := dkN_ne1 (2) (dkN_top v13) (dkN_lit (x := 2) (2) rfl) (dk_ne c14) rfl
    refine lv_aload_n hx hb dX4_pull_14 rfl (lv_at hl 0 rfl) ?_
    refine dk_get (k := t0) hx hb hts iX4_pull_4 hown hK (dk_aT0 ht0 hW) rfl 6 (by decide) (hts (.fieldLink RX4 15 "DogKings$Town" "smell" "[I") (List.mem_of_getElem? (i := 2) rfl)) rfl dX4_pull_15 ?_
    refine lv_iload_n hx hb dX4_pull_18 rfl (lv_at hl 1 rfl) ?_
    refine dk_ild (k := (t0 + 2)) hx hb hK (dk_aT2 ht0 hW) (dkN_in (n := 5) dp0 rfl) dX4_pull_19 ?_
    refine lv_topi (fun v16 ev16 => ?_)
    exact C20 I0 _ _ ls v16 hW hS hF hO  (lv_sub hl [0, 1, 2] rfl)
  ·
    have d17 : dkN [(2, 2)] v13 := dkN_eq1 (dkN_top v13) (dkN_lit (x := 2) (2) rfl) (congrArg Int32.toInt c14) rfl
    refine lv_iconst (v := 0) hx hb dX4_pull_10 (by decide) ?_
    refine lv_goto (tgt := 20) hx hb dX4_pull_11 (by decide) ?_
    exact C20 I0 _ _ ls 0 hW hS hF hO  (lv_sub hl [0, 1, 2] rfl)
set_option maxHeartbeats 4000000 in
set_option maxRecDepth 100000 in
theorem c_X4_favourite_0 (l : Launch) (g : dkG) (z : Nat) (I0 : dkI) (t0 : Nat) (ht0 : dkT t0) (p0 : Int32) (dp0 : dkN [(0, 5)] p0)  (hO : dkOk I0) : Met l yX4_favourite wsX4_favourite (dkR 1) (dkPc g z [.ref (z + t0), .int p0] I0) (dkQi g z (fun r I1 => dkF [] I0 I1 ∧ dkOk I1 ∧ ((dkN [(-1000000, -1000000), (0, 4)] r ∧ True)))) 0 0 (dkA z) := by
  refine Met.ofW (cc := cX4_favourite) (maxL := 4) (ret := (some .int)) (by decide) rfl ?_
  intro p e s m args below meth c s₁ B hml hv
  obtain ⟨ha, hW, hK, hT⟩ := hv
  have hx := B.exec
  have hb := B.bytes
  have hr := B.returns
  have hts := atoms_spec (ws := wsX4_favourite) B.pre
  have hown : s.vm.findClass RX4 = some m.cls := findClass_of_methodNamed B.named
  have hlocks := B.notSynchronized
  have hS : va_S (dkA z) s.heap s.heap [] := va_S.rf
  have hF : dkF [] I0 I0 := dkF_rf _ _
  have hl := lv_entry ([.ref (z + t0), .int p0]) (n := 4) (Nat.le_of_ble_eq_true rfl)
  have hgo : entryFrame m args 4 = entryFrame m ([.ref (z + t0), .int p0] : List Value).toArray 4 := by rw [ha]
  rw [hgo, lg_entry_eq]
  generalize (lg_sl ([.ref (z + t0), .int p0]) ++ List.replicate (4 - (lg_sl ([.ref (z + t0), .int p0])).length) Slot.unset).toArray = ls at hl ⊢
  have hl : lv_has ls 4 [(0, .ref (z + t0)), (1, .int p0)] := hl
  have C21 : ∀ (n : Nat), ∀ (I : dkI) (H : Heap) (locs : List Loc) (ls : Array Slot) (x21_2 : Int32) (x21_3 : Int32), (5 - x21_3.toInt).toNat < n → dkW g z I H → va_S (dkA z) s.heap H locs → dkF [] I0 I → dkOk I → dkN [(-1000000, -1000000), (0, 4)] x21_2 → dkN [(0, 5)] x21_3 → lv_has ls 4 [(0, .ref (z + t0)), (1, .int p0), (2, .int x21_2), (3, .int x21_3)] → W p l e (headSpec wsX4_favourite (dkR 1)).room s m args below meth c H locs 0 0 (MQ below (dkQi g z (fun r I1 => dkF [] I0 I1 ∧ dkOk I1 ∧ ((dkN [(-1000000, -1000000), (0, 4)] r ∧ True)))) args s 0 0 (dkA z)) (F0 m 21 ls []) := by
    intro n
    induction n with
    | zero => intro I H locs ls x21_2 x21_3 hn; exact absurd hn (Nat.not_lt_zero _)
    | succ n ih21 =>
      intro I21_ H locs ls x21_2 x21_3 hn21 hW hS hF_21 hO k21_0 k21_1 hl
      have hF := hF_21
      have C52 : ∀ (I : dkI) (H : Heap) (locs : List Loc) (ls : Array Slot) (x52_2 : Int32), dkW g z I H → va_S (dkA z) s.heap H locs → dkF [] I0 I → dkOk I → dkN [(0, 4)] x52_2 → dkN [(0, 4)] x21_3 → dkN [(1, 5)] (I t0 4) → lv_has ls 4 [(0, .ref (z + t0)), (1, .int p0), (2, .int x52_2), (3, .int x21_3)] → W p l e (headSpec wsX4_favourite (dkR 1)).room s m args below meth c H locs 0 0 (MQ below (dkQi g z (fun r I1 => dkF [] I0 I1 ∧ dkOk I1 ∧ ((dkN [(-1000000, -1000000), (0, 4)] r ∧ True)))) args s 0 0 (dkA z)) (F0 m 52 ls []) := by
        intro I52_ H locs ls x52_2 hW hS hF_52 hO k52_0 r52_0 f52_0 hl
        have hF := hF_52
        obtain ⟨v1, ev1⟩ : ∃ y : Int32, y = x21_3 + 1 := ⟨_, rfl⟩
        have dv1 : dkN [(1, 5)] v1 := by rw [ev1]; exact dkN_add r52_0 (dkN_lit (x := 1) (1) rfl) rfl
        refine lv_iinc (v := v1) (lv' := [(3, .int v1), (0, .ref (z + t0)), (1, .int p0), (2, .int x52_2)]) hx hb dX4_favourite_52 hl (k := 3) rfl (by rw [ev1]; rfl) (by decide) rfl (fun ls hl => ?_)
        refine lv_goto (tgt := 21) hx hb dX4_favourite_55 (by decide) ?_
        exact ih21 I52_ _ _ ls x52_2 v1 (dk_near hn21 (by rw [ev1]; exact dk_inc r52_0 rfl) (dkN_lt r52_0 rfl)) hW hS hF hO (dkN_sub k52_0 rfl) (dkN_sub dv1 rfl) (lv_sub hl [1, 2, 3, 0] rfl)
      have C50 : ∀ (I : dkI) (H : Heap) (locs : List Loc) (ls : Array Slot), dkW g z I H → va_S (dkA z) s.heap H locs → dkF [] I0 I → dkOk I → dkN [(-1000000, -1000000), (0, 4)] x21_2 → dkN [(0, 4)] x21_3 → dkN [(1, 5)] (I t0 4) → lv_has ls 4 [(0, .ref (z + t0)), (1, .int p0), (2, .int x21_2), (3, .int x21_3)] → W p l e (headSpec wsX4_favourite (dkR 1)).room s m args below meth c H locs 0 0 (MQ below (dkQi g z (fun r I1 => dkF [] I0 I1 ∧ dkOk I1 ∧ ((dkN [(-1000000, -1000000), (0, 4)] r ∧ True)))) args s 0 0 (dkA z)) (F0 m 50 ls []) := by
        intro I50_ H locs ls hW hS hF_50 hO r50_0 r50_1 f50_0 hl
        have hF := hF_50
        refine lv_iload_n hx hb dX4_favourite_50 rfl (lv_at hl 3 rfl) ?_
        refine lv_istore_n (lv' := [(2, .int x21_3), (0, .ref (z + t0)), (1, .int p0), (3, .int x21_3)]) hx hb dX4_favourite_51 rfl hl (by decide) rfl (fun ls hl => ?_)
        exact C52 I50_ _ _ ls x21_3 hW hS hF hO (dkN_sub r50_1 rfl) (dkN_sub r50_1 rfl) (show dkN [(1, 5)] (I50_ t0 4) from dkN_sub f50_0 rfl) (lv_sub hl [1, 2, 0, 3] rfl)
      refine lv_iload_n hx hb dX4_favourite_21 rfl (lv_at hl 3 rfl) ?_
      refine lv_aload_n hx hb dX4_favourite_22 rfl (lv_at hl 0 rfl) ?_
      refine dk_get (k := t0) hx hb hts iX4_favourite_4 hown hK (dk_aT0 ht0 hW) rfl 4 (by decide) (hts (.fieldLink RX4 55 "DogKings$Town" "people" "I") (List.mem_of_getElem? (i := 3) rfl)) rfl dX4_favourite_23 ?_
      refine lv_topi (fun v2 ev2 => ?_)
      have dv2 : dkN [(0, 5)] v2 := by rw [ev2]; exact (dkO_at hO ht0 (c := 0) (by decide) 4)
      refine lv_icmp_ge (tgt := 58) hx hb dX4_favourite_26 (by decide) (fun c3 => ?_) (fun c3 => ?_)
      ·
        refine lv_aload_n hx hb dX4_favourite_58 rfl (lv_at hl 0 rfl) ?_
        refine dk_get (k := t0) hx hb hts iX4_favourite_4 hown hK (dk_aT0 ht0 hW) rfl 12 (by decide) (hts (.fieldLink RX4 30 "DogKings$Town" "sort" "[I") (List.mem_of_getElem? (i := 1) rfl)) rfl dX4_favourite_59 ?_
        refine lv_iload_n hx hb dX4_favourite_62 rfl (lv_at hl 1 rfl) ?_
        refine dk_ild (k := (t0 + 7)) hx hb hK (dk_aT7 ht0 hW) (dkN_in (n := 6) dp0 rfl) dX4_favourite_63 ?_
        refine lv_topi (fun v4 ev4 => ?_)
        refine lv_iconst (v := 3) hx hb dX4_favourite_64 (by decide) ?_
        refine lv_icmp_ne (tgt := 88) hx hb dX4_favourite_65 (by decide) (fun c5 => ?_) (fun c5 => ?_)
        ·
          have d6 : dkN [(-2147483648, 2), (4, 2147483647)] v4 := dkN_ne1 (3) (dkN_top v4) (dkN_lit (x := 3) (3) rfl) (dk_ne c5) rfl
          refine lv_iload_n hx hb dX4_favourite_88 rfl (lv_at hl 2 rfl) ?_
          exact W.iret (v := x21_2) hx hb hr (fun t ht hW9 => ⟨⟨x21_2, I21_, rfl, ⟨hF, hO, ⟨dkN_sub k21_0 rfl, trivial⟩⟩, dkW_eq ht hW⟩, hS.F ht⟩) hS.2.2 dX4_favourite_89
        ·
          have d7 : dkN [(3, 3)] v4 := dkN_eq1 (dkN_top v4) (dkN_lit (x := 3) (3) rfl) (congrArg Int32.toInt c5) rfl
          refine lv_iload_n hx hb dX4_favourite_68 rfl (lv_at hl 2 rfl) ?_
          refine lv_ldc (v := (-1000000)) hx hb hown (hts (.constant RX4 89 (-1000000)) (List.mem_of_getElem? (i := 2) rfl)) dX4_favourite_69 ?_
          refine lv_icmp_eq (tgt := 88) hx hb dX4_favourite_71 (by decide) (fun c8 => ?_) (fun c8 => ?_)
          ·
            have d9 : dkN [(-1000000, -1000000)] x21_2 := dkN_eq1 k21_0 (dkN_lit (x := (-1000000)) (-1000000) rfl) (congrArg Int32.toInt c8) rfl
            refine lv_iload_n hx hb dX4_favourite_88 rfl (lv_at hl 2 rfl) ?_
            exact W.iret (v := x21_2) hx hb hr (fun t ht hW9 => ⟨⟨x21_2, I21_, rfl, ⟨hF, hO, ⟨dkN_sub d9 rfl, trivial⟩⟩, dkW_eq ht hW⟩, hS.F ht⟩) hS.2.2 dX4_favourite_89
          ·
            have d10 : dkN [(0, 4)] x21_2 := dkN_ne1 (-1000000) k21_0 (dkN_lit (x := (-1000000)) (-1000000) rfl) (dk_ne c8) rfl
            refine lv_aload_n hx hb dX4_favourite_74 rfl (lv_at hl 0 rfl) ?_
            refine lv_iload_n hx hb dX4_favourite_75 rfl (lv_at hl 2 rfl) ?_
            refine lv_iload_n hx hb dX4_favourite_76 rfl (lv_at hl 1 rfl) ?_
            refine dk_Vi (As := [.int x21_2, .int p0]) (rest := []) ⟨hx, hb, hml, hown, hts⟩ (c_X4_pull_0 l g z I21_ t0 ht0 x21_2 p0 d10 dp0 hO) (cwV 2 hts gX4_favourite_X4_pull rfl rfl rfl (by decide +kernel) ⟨Nat.le_of_ble_eq_true rfl, Nat.le_of_ble_eq_true rfl⟩) (dk_aT0 ht0 hW) rfl hK hT hW hS rfl hl.1 rfl (Nat.le_of_ble_eq_true rfl) dX4_favourite_77 ⟨Nat.zero_le _, Nat.zero_le _⟩ (fun v11 I11 H11 L11 hp11 hW hS => ?_)
            obtain ⟨hF11, hO, hc11⟩ := hp11
            have hF := dkF_call hF hF11 rfl
            obtain ⟨_, -⟩ := hc11
            refine lv_if_gt (tgt := 88) hx hb dX4_favourite_80 (by decide) (fun c12 => ?_) (fun c12 => ?_)
            ·
              have d13 : dkN [(1, 2147483647)] v11 := dkN_le2 1 (dkN_lit (x := 0) (0) rfl) (dkN_top v11) (dkc_lt c12) rfl
              refine lv_iload_n hx hb dX4_favourite_88 rfl (lv_at hl 2 rfl) ?_
              exact W.iret (v := x21_2) hx hb hr (fun t ht hW9 => ⟨⟨x21_2, I11, rfl, ⟨hF, hO, ⟨dkN_sub d10 rfl, trivial⟩⟩, dkW_eq ht hW⟩, hS.F ht⟩) hS.2.2 dX4_favourite_89
            ·
              have d14 : dkN [(-2147483648, 0)] v11 := dkN_le1 0 (dkN_top v11) (dkN_lit (x := 0) (0) rfl) (dkc_nlt c12) rfl
              refine lv_ldc (v := (-1000000)) hx hb hown (hts (.constant RX4 89 (-1000000)) (List.mem_of_getElem? (i := 2) rfl)) dX4_favourite_83 ?_
              refine lv_goto (tgt := 89) hx hb dX4_favourite_85 (by decide) ?_
              exact W.iret (v := (-1000000)) hx hb hr (fun t ht hW9 => ⟨⟨(-1000000), I11, rfl, ⟨hF, hO, ⟨dkN_sub (dkN_lit (x := (-1000000)) (-1000000) rfl) rfl, trivial⟩⟩, dkW_eq ht hW⟩, hS.F ht⟩) hS.2.2 dX4_favourite_89
      ·
        have d15 : dkN [(1, 5)] v2 := dkN_le2 1 k21_1 dv2 (dkc_nle c3) rfl
        have f16 : dkN [(1, 5)] (I21_ t0 4) := by rw [← ev2]; exact d15
        have d17 : dkN [(0, 4)] x21_3 := dkN_le1 1 k21_1 dv2 (dkc_nle c3) rfl
        refine lv_iload_n hx hb dX4_favourite_29 rfl (lv_at hl 2 rfl) ?_
        refine lv_ldc (v := (-1000000)) hx hb hown (hts (.constant RX4 89 (-1000000)) (List.mem_of_getElem? (i := 2) rfl)) dX4_favourite_30 ?_
        refine lv_icmp_eq (tgt := 50) hx hb dX4_favourite_32 (by decide) (fun c18 => ?_) (fun c18 => ?_)
        ·
          have d19 : dkN [(-1000000, -1000000)] x21_2 := dkN_eq1 k21_0 (dkN_lit (x := (-1000000)) (-1000000) rfl) (congrArg Int32.toInt c18) rfl
          exact C50 I21_ _ _ ls  hW hS hF hO (dkN_sub d19 rfl) (dkN_sub d17 rfl) (show dkN [(1, 5)] (I21_ t0 4) from dkN_sub f16 rfl) (lv_sub hl [0, 1, 2, 3] rfl)
        ·
          have d20 : dkN [(0, 4)] x21_2 := dkN_ne1 (-1000000) k21_0 (dkN_lit (x := (-1000000)) (-1000000) rfl) (dk_ne c18) rfl
          refine lv_aload_n hx hb dX4_favourite_35 rfl (lv_at hl 0 rfl) ?_
          refine lv_iload_n hx hb dX4_favourite_36 rfl (lv_at hl 3 rfl) ?_
          refine lv_iload_n hx hb dX4_favourite_37 rfl (lv_at hl 1 rfl) ?_
          refine dk_Vi (As := [.int x21_3, .int p0]) (rest := []) ⟨hx, hb, hml, hown, hts⟩ (c_X4_pull_0 l g z I21_ t0 ht0 x21_3 p0 d17 dp0 hO) (cwV 2 hts gX4_favourite_X4_pull rfl rfl rfl (by decide +kernel) ⟨Nat.le_of_ble_eq_true rfl, Nat.le_of_ble_eq_true rfl⟩) (dk_aT0 ht0 hW) rfl hK hT hW hS rfl hl.1 rfl (Nat.le_of_ble_eq_true rfl) dX4_favourite_38 ⟨Nat.zero_le _, Nat.zero_le _⟩ (fun v21 I21 H21 L21 hp21 hW hS => ?_)
          obtain ⟨hF21, hO, hc21⟩ := hp21
          have hF := dkF_call hF hF21 rfl
          obtain ⟨_, -⟩ := hc21
          refine lv_aload_n hx hb dX4_favourite_41 rfl (lv_at hl 0 rfl) ?_
          refine lv_iload_n hx hb dX4_favourite_42 rfl (lv_at hl 2 rfl) ?_
          refine lv_iload_n hx hb dX4_favourite_43 rfl (lv_at hl 1 rfl) ?_
          refine dk_Vi (As := [.int x21_2, .int p0]) (rest := [.int v21]) ⟨hx, hb, hml, hown, hts⟩ (c_X4_pull_0 l g z I21 t0 ht0 x21_2 p0 d20 dp0 hO) (cwV 2 hts gX4_favourite_X4_pull rfl rfl rfl (by decide +kernel) ⟨Nat.le_of_ble_eq_true rfl, Nat.le_of_ble_eq_true rfl⟩) (dk_aT0 ht0 hW) rfl hK hT hW hS rfl hl.1 rfl (Nat.le_of_ble_eq_true rfl) dX4_favourite_44 ⟨Nat.zero_le _, Nat.zero_le _⟩ (fun v22 I22 H22 L22 hp22 hW hS => ?_)
          obtain ⟨hF22, hO, hc22⟩ := hp22
          have hF := dkF_call hF hF22 rfl
          obtain ⟨_, -⟩ := hc22
          refine lv_icmp_le (tgt := 52) hx hb dX4_favourite_47 (by decide) (fun c23 => ?_) (fun c23 => ?_)
          ·
            exact C52 I22 _ _ ls x21_2 hW hS hF hO (dkN_sub d20 rfl) (dkN_sub d17 rfl) (show dkN [(1, 5)] (I22 t0 4) from dkN_sub (by rw [hF22 t0 4 dkNin_nil]; exact (by rw [hF21 t0 4 dkNin_nil]; exact f16)) rfl) (lv_sub hl [0, 1, 2, 3] rfl)
          ·
            have d24 : dkN [(-2147483647, 2147483647)] v21 := dkN_le2 1 (dkN_top v22) (dkN_top v21) (dkc_nle c23) rfl
            have d25 : dkN [(-2147483648, 2147483646)] v22 := dkN_le1 1 (dkN_top v22) (dkN_top v21) (dkc_nle c23) rfl
            exact C50 I22 _ _ ls  hW hS hF hO (dkN_sub d20 rfl) (dkN_sub d17 rfl) (show dkN [(1, 5)] (I22 t0 4) from dkN_sub (by rw [hF22 t0 4 dkNin_nil]; exact (by rw [hF21 t0 4 dkNin_nil]; exact f16)) rfl) (lv_sub hl [0, 1, 2, 3] rfl)
  refine lv_aload_n hx hb dX4_favourite_0 rfl (lv_at hl 0 rfl) ?_
  refine dk_get (k := t0) hx hb hts iX4_favourite_4 hown hK (dk_aT0 ht0 hW) rfl 12 (by decide) (hts (.fieldLink RX4 30 "DogKings$Town" "sort" "[I") (List.mem_of_getElem? (i := 1) rfl)) rfl dX4_favourite_1 ?_
  refine lv_iload_n hx hb dX4_favourite_4 rfl (lv_at hl 1 rfl) ?_
  refine dk_ild (k := (t0 + 7)) hx hb hK (dk_aT7 ht0 hW) (dkN_in (n := 6) dp0 rfl) dX4_favourite_5 ?_
  refine lv_topi (fun v26 ev26 => ?_)
  refine lv_iconst (v := 1) hx hb dX4_favourite_6 (by decide) ?_
  refine dk_SiN (As := [.int v26, .int 1]) (rest := []) ⟨hx, hb, hml, hown, hts⟩ (c_X5_isA_1 l g z I0 v26 1 (dkN_lit (x := 1) (1) rfl) hO) ⟨va_cnB 2 hts gX4_favourite_X5_isA_n112 rfl rfl rfl (hK.2.1 (RX4, 112, yX5_isA) (by decide)) (hts (.initialized RX5) (List.mem_of_getElem? (i := 5) rfl)) (by decide +kernel) ⟨Nat.le_of_ble_eq_true rfl, Nat.le_of_ble_eq_true rfl⟩, (hts (.static yX5_isA) (List.mem_of_getElem? (i := 4) rfl)), trivial⟩ hK hT hW hS rfl hl.1 rfl (Nat.le_of_ble_eq_true rfl) dX4_favourite_7 ⟨Nat.zero_le _, Nat.zero_le _⟩ (fun v27 I27 H27 L27 hp27 hW hS => ?_)
  obtain ⟨hF27, hO, hc27⟩ := hp27
  have hF := dkF_call hF hF27 rfl
  rcases hc27 with ⟨dv27, a27_0, -⟩ | hc27
  ·
    have d28 : dkN [(-2147483648, 0), (4, 2147483647)] v26 := dkN_eq1 (dkN_top v26) a27_0 rfl rfl
    refine lv_if_ne (tgt := 16) hx hb dX4_favourite_10 (by decide) (fun c29 => ?_) (fun c29 => ?_)
    ·
      exact (dkN_nil (show dkN [] v27 from dkN_ne1 (0) dv27 (dkN_lit (x := 0) (0) rfl) (dk_ne c29) rfl)).elim
    ·
      refine lv_ldc (v := (-1000000)) hx hb hown (hts (.constant RX4 89 (-1000000)) (List.mem_of_getElem? (i := 2) rfl)) dX4_favourite_13 ?_
      exact W.iret (v := (-1000000)) hx hb hr (fun t ht hW9 => ⟨⟨(-1000000), I27, rfl, ⟨hF, hO, ⟨dkN_sub (dkN_lit (x := (-1000000)) (-1000000) rfl) rfl, trivial⟩⟩, dkW_eq ht hW⟩, hS.F ht⟩) hS.2.2 dX4_favourite_15
  ·
    obtain ⟨dv27, a27_0, -⟩ := hc27
    have d30 : dkN [(1, 3)] v26 := dkN_eq1 (dkN_top v26) a27_0 rfl rfl
    refine lv_if_ne (tgt := 16) hx hb dX4_favourite_10 (by decide) (fun c31 => ?_) (fun c31 => ?_)
    ·
      refine lv_ldc (v := (-1000000)) hx hb hown (hts (.constant RX4 89 (-1000000)) (List.mem_of_getElem? (i := 2) rfl)) dX4_favourite_16 ?_
      refine lv_istore_n (lv' := [(2, .int ((-1000000))), (0, .ref (z + t0)), (1, .int p0)]) hx hb dX4_favourite_18 rfl hl (by decide) rfl (fun ls hl => ?_)
      refine lv_iconst (v := 0) hx hb dX4_favourite_19 (by decide) ?_
      refine lv_istore_n (lv' := [(3, .int 0), (2, .int ((-1000000))), (0, .ref (z + t0)), (1, .int p0)]) hx hb dX4_favourite_20 rfl hl (by decide) rfl (fun ls hl => ?_)
      exact C21 _ I27 _ _ ls ((-1000000)) 0 (Nat.lt_succ_self _) hW hS hF hO (dkN_sub (dkN_lit (x := (-1000000)) (-1000000) rfl) rfl) (dkN_sub (dkN_lit (x := 0) (0) rfl) rfl) (lv_sub hl [2, 3, 1, 0] rfl)
    ·
      exact (dkN_nil (show dkN [] v27 from dkN_eq1 dv27 (dkN_lit (x := 0) (0) rfl) (congrArg Int32.toInt c31) rfl)).elim
set_option maxHeartbeats 4000000 in
set_option maxRecDepth 100000 in
theorem c_X4_countOthers_0 (l : Launch) (g : dkG) (z : Nat) (I0 : dkI) (t0 : Nat) (ht0 : dkT t0) (p0 : Int32)  (hO : dkOk I0) : Met l yX4_countOthers wsX4_countOthers (dkR 1) (dkPc g z [.ref (z + t0), .int p0] I0) (dkQv g z (fun I1 => dkF [(t0 + 10, t0 + 10, 0, 8)] I0 I1 ∧ dkOk I1 ∧ ((True)))) 0 0 (dkA z) := by
  refine Met.ofW (cc := cX4_countOthers) (maxL := 4) (ret := none) (by decide) rfl ?_
  intro p e s m args below meth c s₁ B hml hv
  obtain ⟨ha, hW, hK, hT⟩ := hv
  have hx := B.exec
  have hb := B.bytes
  have hr := B.returns
  have hts := atoms_spec (ws := wsX4_countOthers) B.pre
  have hown : s.vm.findClass RX4 = some m.cls := findClass_of_methodNamed B.named
  have hlocks := B.notSynchronized
  have hS : va_S (dkA z) s.heap s.heap [] := va_S.rf
  have hF : dkF [(t0 + 10, t0 + 10, 0, 8)] I0 I0 := dkF_rf _ _
  have hl := lv_entry ([.ref (z + t0), .int p0]) (n := 4) (Nat.le_of_ble_eq_true rfl)
  have hgo : entryFrame m args 4 = entryFrame m ([.ref (z + t0), .int p0] : List Value).toArray 4 := by rw [ha]
  rw [hgo, lg_entry_eq]
  generalize (lg_sl ([.ref (z + t0), .int p0]) ++ List.replicate (4 - (lg_sl ([.ref (z + t0), .int p0])).length) Slot.unset).toArray = ls at hl ⊢
  have hl : lv_has ls 4 [(0, .ref (z + t0)), (1, .int p0)] := hl
  have C25 : ∀ (n : Nat), ∀ (I : dkI) (H : Heap) (locs : List Loc) (ls : Array Slot) (x25_2 : Int32), (6 - x25_2.toInt).toNat < n → dkW g z I H → va_S (dkA z) s.heap H locs → dkF [(t0 + 10, t0 + 10, 0, 8)] I0 I → dkOk I → dkN [(0, 6)] x25_2 → lv_has ls 4 [(0, .ref (z + t0)), (1, .int p0), (2, .int x25_2)] → W p l e (headSpec wsX4_countOthers (dkR 1)).room s m args below meth c H locs 0 0 (MQ below (dkQv g z (fun I1 => dkF [(t0 + 10, t0 + 10, 0, 8)] I0 I1 ∧ dkOk I1 ∧ ((True)))) args s 0 0 (dkA z)) (F0 m 25 ls []) := by
    intro n
    induction n with
    | zero => intro I H locs ls x25_2 hn; exact absurd hn (Nat.not_lt_zero _)
    | succ n ih25 =>
      intro I25_ H locs ls x25_2 hn25 hW hS hF_25 hO k25_0 hl
      have hF := hF_25
      have C78 : ∀ (I : dkI) (H : Heap) (locs : List Loc) (ls : Array Slot) (x78_3 : Int32), dkW g z I H → va_S (dkA z) s.heap H locs → dkF [(t0 + 10, t0 + 10, 0, 8)] I0 I → dkOk I → dkN [(0, 5)] x25_2 → dkN [(1, 6)] (I t0 11) → lv_has ls 4 [(0, .ref (z + t0)), (1, .int p0), (2, .int x25_2), (3, .int x78_3)] → W p l e (headSpec wsX4_countOthers (dkR 1)).room s m args below meth c H locs 0 0 (MQ below (dkQv g z (fun I1 => dkF [(t0 + 10, t0 + 10, 0, 8)] I0 I1 ∧ dkOk I1 ∧ ((True)))) args s 0 0 (dkA z)) (F0 m 78 ls []) := by
        intro I78_ H locs ls x78_3 hW hS hF_78 hO r78_0 f78_0 hl
        have hF := hF_78
        obtain ⟨v1, ev1⟩ : ∃ y : Int32, y = x25_2 + 1 := ⟨_, rfl⟩
        have dv1 : dkN [(1, 6)] v1 := by rw [ev1]; exact dkN_add r78_0 (dkN_lit (x := 1) (1) rfl) rfl
        refine lv_iinc (v := v1) (lv' := [(2, .int v1), (0, .ref (z + t0)), (1, .int p0), (3, .int x78_3)]) hx hb dX4_countOthers_78 hl (k := 2) rfl (by rw [ev1]; rfl) (by decide) rfl (fun ls hl => ?_)
        refine lv_goto (tgt := 25) hx hb dX4_countOthers_81 (by decide) ?_
        exact ih25 I78_ _ _ ls v1 (dk_near hn25 (by rw [ev1]; exact dk_inc r78_0 rfl) (dkN_lt r78_0 rfl)) hW hS hF hO (dkN_sub dv1 rfl) (lv_sub hl [1, 2, 0] rfl)
      refine lv_iload_n hx hb dX4_countOthers_25 rfl (lv_at hl 2 rfl) ?_
      refine lv_aload_n hx hb dX4_countOthers_26 rfl (lv_at hl 0 rfl) ?_
      refine dk_get (k := t0) hx hb hts iX4_countOthers_4 hown hK (dk_aT0 ht0 hW) rfl 11 (by decide) (hts (.fieldLink RX4 58 "DogKings$Town" "dogs" "I") (List.mem_of_getElem? (i := 3) rfl)) rfl dX4_countOthers_27 ?_
      refine lv_topi (fun v2 ev2 => ?_)
      have dv2 : dkN [(0, 6)] v2 := by rw [ev2]; exact (dkO_at hO ht0 (c := 0) (by decide) 11)
      refine lv_icmp_ge (tgt := 84) hx hb dX4_countOthers_30 (by decide) (fun c3 => ?_) (fun c3 => ?_)
      ·
        exact W.vret hx hb hr (fun t ht hW9 => ⟨⟨I25_, rfl, ⟨hF, hO, trivial⟩, dkW_eq ht hW⟩, hS.F ht⟩) hS.2.2 dX4_countOthers_84
      ·
        have d4 : dkN [(1, 6)] v2 := dkN_le2 1 k25_0 dv2 (dkc_nle c3) rfl
        have f5 : dkN [(1, 6)] (I25_ t0 11) := by rw [← ev2]; exact d4
        have d6 : dkN [(0, 5)] x25_2 := dkN_le1 1 k25_0 dv2 (dkc_nle c3) rfl
        refine lv_aload_n hx hb dX4_countOthers_33 rfl (lv_at hl 0 rfl) ?_
        refine dk_get (k := t0) hx hb hts iX4_countOthers_4 hown hK (dk_aT0 ht0 hW) rfl 14 (by decide) (hts (.fieldLink RX4 36 "DogKings$Town" "dogAt" "[I") (List.mem_of_getElem? (i := 4) rfl)) rfl dX4_countOthers_34 ?_
        refine lv_iload_n hx hb dX4_countOthers_37 rfl (lv_at hl 2 rfl) ?_
        refine dk_ild (k := (t0 + 9)) hx hb hK (dk_aT9 ht0 hW) (dkN_in (n := 6) d6 rfl) dX4_countOthers_38 ?_
        refine lv_topi (fun v7 ev7 => ?_)
        refine lv_istore_n (lv' := [(3, .int v7), (0, .ref (z + t0)), (1, .int p0), (2, .int x25_2)]) hx hb dX4_countOthers_39 rfl hl (by decide) rfl (fun ls hl => ?_)
        refine lv_iload_n hx hb dX4_countOthers_40 rfl (lv_at hl 3 rfl) ?_
        refine lv_iload_n hx hb dX4_countOthers_41 rfl (lv_at hl 2 rfl) ?_
        refine lv_icmp_eq (tgt := 78) hx hb dX4_countOthers_42 (by decide) (fun c8 => ?_) (fun c8 => ?_)
        ·
          have d9 : dkN [(0, 5)] p0 := dkN_eq1 (dkN_top p0) d6 (congrArg Int32.toInt c8).symm rfl
          exact C78 I25_ _ _ ls v7 hW hS hF hO (dkN_sub d6 rfl) (show dkN [(1, 6)] (I25_ t0 11) from dkN_sub f5 rfl) (lv_sub hl [1, 2, 3, 0] rfl)
        ·
          refine lv_aload_n hx hb dX4_countOthers_45 rfl (lv_at hl 1 rfl) ?_
          refine dk_get (k := t0) hx hb hts iX4_countOthers_4 hown hK (dk_aT0 ht0 hW) rfl 15 (by decide) (hts (.fieldLink RX4 61 "DogKings$Town" "dogsThere" "I") (List.mem_of_getElem? (i := 5) rfl)) rfl dX4_countOthers_46 ?_
          refine lv_topi (fun v10 ev10 => ?_)
          refine lv_iload_n hx hb dX4_countOthers_49 rfl (lv_at hl 3 rfl) ?_
          refine dk_SiN (As := [.int v10, .int x25_2]) (rest := []) ⟨hx, hb, hml, hown, hts⟩ (c_X5_holds_0 l g z I25_ v10 x25_2 hO) ⟨va_cnB 2 hts gX4_countOthers_X5_holds_n74 rfl rfl rfl (hK.2.1 (RX4, 74, yX5_holds) (by decide)) (hts (.initialized RX5) (List.mem_of_getElem? (i := 7) rfl)) (by decide +kernel) ⟨Nat.le_of_ble_eq_true rfl, Nat.le_of_ble_eq_true rfl⟩, (hts (.static yX5_holds) (List.mem_of_getElem? (i := 6) rfl)), trivial⟩ hK hT hW hS rfl hl.1 rfl (Nat.le_of_ble_eq_true rfl) dX4_countOthers_50 ⟨Nat.zero_le _, Nat.zero_le _⟩ (fun v11 I11 H11 L11 hp11 hW hS => ?_)
          obtain ⟨hF11, hO, hc11⟩ := hp11
          have hF := dkF_callP hF hF11 dkSub_nil
          obtain ⟨dv11, -⟩ := hc11
          refine lv_if_eq (tgt := 78) hx hb dX4_countOthers_53 (by decide) (fun c12 => ?_) (fun c12 => ?_)
          ·
            have d13 : dkN [(0, 0)] v11 := dkN_eq1 dv11 (dkN_lit (x := 0) (0) rfl) (congrArg Int32.toInt c12) rfl
            exact C78 I11 _ _ ls v7 hW hS hF hO (dkN_sub d6 rfl) (show dkN [(1, 6)] (I11 t0 11) from dkN_sub (by rw [hF11 t0 11 dkNin_nil]; exact f5) rfl) (lv_sub hl [1, 2, 3, 0] rfl)
          ·
            have d14 : dkN [(1, 1)] v11 := dkN_ne1 (0) dv11 (dkN_lit (x := 0) (0) rfl) (dk_ne c12) rfl
            refine lv_iload_n hx hb dX4_countOthers_56 rfl (lv_at hl 0 rfl) ?_
            refine lv_if_lt (tgt := 78) hx hb dX4_countOthers_57 (by decide) (fun c15 => ?_) (fun c15 => ?_)
            ·
              have d16 : dkN [(-2147483648, -1)] v7 := dkN_le1 1 (dkN_top v7) (dkN_lit (x := 0) (0) rfl) (dkc_lt c15) rfl
              exact C78 I11 _ _ ls v7 hW hS hF hO (dkN_sub d6 rfl) (show dkN [(1, 6)] (I11 t0 11) from dkN_sub (by rw [hF11 t0 11 dkNin_nil]; exact f5) rfl) (lv_sub hl [1, 2, 3, 0] rfl)
            ·
              have d17 : dkN [(0, 2147483647)] v7 := dkN_le2 0 (dkN_lit (x := 0) (0) rfl) (dkN_top v7) (dkc_nlt c15) rfl
              refine lv_iload_n hx hb dX4_countOthers_60 rfl (lv_at hl 0 rfl) ?_
              refine lv_aload_n hx hb dX4_countOthers_61 rfl (lv_at hl 1 rfl) ?_
              refine dk_get (k := t0) hx hb hts iX4_countOthers_4 hown hK (dk_aT0 ht0 hW) rfl 0 (by decide) (hts (.fieldLink RX4 42 "DogKings$Town" "places" "I") (List.mem_of_getElem? (i := 1) rfl)) rfl dX4_countOthers_62 ?_
              refine lv_topi (fun v18 ev18 => ?_)
              have dv18 : dkN [(0, 9)] v18 := by rw [ev18]; exact (dkO_at hO ht0 (c := 0) (by decide) 0)
              refine lv_icmp_ge (tgt := 78) hx hb dX4_countOthers_65 (by decide) (fun c19 => ?_) (fun c19 => ?_)
              ·
                exact C78 I11 _ _ ls v7 hW hS hF hO (dkN_sub d6 rfl) (show dkN [(1, 6)] (I11 t0 11) from dkN_sub (by rw [hF11 t0 11 dkNin_nil]; exact f5) rfl) (lv_sub hl [1, 2, 3, 0] rfl)
              ·
                have d20 : dkN [(1, 9)] v18 := dkN_le2 1 d17 dv18 (dkc_nle c19) rfl
                have f21 : dkN [(1, 9)] (I11 t0 0) := by rw [← ev18]; exact d20
                have d22 : dkN [(0, 8)] v7 := dkN_le1 1 d17 dv18 (dkc_nle c19) rfl
                refine lv_aload_n hx hb dX4_countOthers_68 rfl (lv_at hl 1 rfl) ?_
                refine dk_get (k := t0) hx hb hts iX4_countOthers_4 hown hK (dk_aT0 ht0 hW) rfl 18 (by decide) (hts (.fieldLink RX4 39 "DogKings$Town" "others" "[I") (List.mem_of_getElem? (i := 2) rfl)) rfl dX4_countOthers_69 ?_
                refine lv_iload_n hx hb dX4_countOthers_72 rfl (lv_at hl 0 rfl) ?_
                refine lv_dup2_11 hx hb dX4_countOthers_73 rfl rfl ?_
                refine dk_ild (k := (t0 + 10)) hx hb hK (dk_aT10 ht0 hW) (dkN_in (n := 9) d22 rfl) dX4_countOthers_74 ?_
                refine lv_topi (fun v23 ev23 => ?_)
                refine lv_iconst (v := 1) hx hb dX4_countOthers_75 (by decide) ?_
                refine lv_iadd hx hb dX4_countOthers_76 ?_
                refine lv_topi (fun v24 ev24 => ?_)
                refine dk_ist (k := (t0 + 10)) hx hb hK hW (fun _ => dkC_T g z ht0 (c := 10) (by decide) _) (by have := dkT_lt ht0; omega) hS (dkN_in (n := 9) d22 rfl) dX4_countOthers_77 (fun I25 H25 L25 eI25 hW hS => ?_)
                have hO := dkO_setT hO ht0 (c := 10) (by decide) eI25 (dkN_sub (dkN_top v24) rfl)
                have hF := dkF_set hF eI25 (dkIn_atv (i := 0) rfl (Nat.le_refl _) (Nat.le_refl _) d22 rfl)
                exact C78 I25 _ _ ls v7 hW hS hF hO (dkN_sub d6 rfl) (show dkN [(1, 6)] (I25 t0 11) from dkN_sub (by rw [eI25, dkU_n (by omega)]; exact (by rw [hF11 t0 11 dkNin_nil]; exact f5)) rfl) (lv_sub hl [1, 2, 3, 0] rfl)
  have C2 : ∀ (n : Nat), ∀ (I : dkI) (H : Heap) (locs : List Loc) (ls : Array Slot) (x2_2 : Int32), (9 - x2_2.toInt).toNat < n → dkW g z I H → va_S (dkA z) s.heap H locs → dkF [(t0 + 10, t0 + 10, 0, 8)] I0 I → dkOk I → dkN [(0, 9)] x2_2 → lv_has ls 4 [(0, .ref (z + t0)), (1, .int p0), (2, .int x2_2)] → W p l e (headSpec wsX4_countOthers (dkR 1)).room s m args below meth c H locs 0 0 (MQ below (dkQv g z (fun I1 => dkF [(t0 + 10, t0 + 10, 0, 8)] I0 I1 ∧ dkOk I1 ∧ ((True)))) args s 0 0 (dkA z)) (F0 m 2 ls []) := by
    intro n
    induction n with
    | zero => intro I H locs ls x2_2 hn; exact absurd hn (Nat.not_lt_zero _)
    | succ n ih2 =>
      intro I2_ H locs ls x2_2 hn2 hW hS hF_2 hO k2_0 hl
      have hF := hF_2
      refine lv_iload_n hx hb dX4_countOthers_2 rfl (lv_at hl 2 rfl) ?_
      refine lv_aload_n hx hb dX4_countOthers_3 rfl (lv_at hl 0 rfl) ?_
      refine dk_get (k := t0) hx hb hts iX4_countOthers_4 hown hK (dk_aT0 ht0 hW) rfl 0 (by decide) (hts (.fieldLink RX4 42 "DogKings$Town" "places" "I") (List.mem_of_getElem? (i := 1) rfl)) rfl dX4_countOthers_4 ?_
      refine lv_topi (fun v26 ev26 => ?_)
      have dv26 : dkN [(0, 9)] v26 := by rw [ev26]; exact (dkO_at hO ht0 (c := 0) (by decide) 0)
      refine lv_icmp_ge (tgt := 23) hx hb dX4_countOthers_7 (by decide) (fun c27 => ?_) (fun c27 => ?_)
      ·
        refine lv_iconst (v := 0) hx hb dX4_countOthers_23 (by decide) ?_
        refine lv_istore_n (lv' := [(2, .int 0), (0, .ref (z + t0)), (1, .int p0)]) hx hb dX4_countOthers_24 rfl hl (by decide) rfl (fun ls hl => ?_)
        exact C25 _ I2_ _ _ ls 0 (Nat.lt_succ_self _) hW hS hF hO (dkN_sub (dkN_lit (x := 0) (0) rfl) rfl) (lv_sub hl [1, 2, 0] rfl)
      ·
        have d28 : dkN [(1, 9)] v26 := dkN_le2 1 k2_0 dv26 (dkc_nle c27) rfl
        have f29 : dkN [(1, 9)] (I2_ t0 0) := by rw [← ev26]; exact d28
        have d30 : dkN [(0, 8)] x2_2 := dkN_le1 1 k2_0 dv26 (dkc_nle c27) rfl
        refine lv_aload_n hx hb dX4_countOthers_10 rfl (lv_at hl 0 rfl) ?_
        refine dk_get (k := t0) hx hb hts iX4_countOthers_4 hown hK (dk_aT0 ht0 hW) rfl 18 (by decide) (hts (.fieldLink RX4 39 "DogKings$Town" "others" "[I") (List.mem_of_getElem? (i := 2) rfl)) rfl dX4_countOthers_11 ?_
        refine lv_iload_n hx hb dX4_countOthers_14 rfl (lv_at hl 2 rfl) ?_
        refine lv_iconst (v := 0) hx hb dX4_countOthers_15 (by decide) ?_
        refine dk_ist (k := (t0 + 10)) hx hb hK hW (fun _ => dkC_T g z ht0 (c := 10) (by decide) _) (by have := dkT_lt ht0; omega) hS (dkN_in (n := 9) d30 rfl) dX4_countOthers_16 (fun I31 H31 L31 eI31 hW hS => ?_)
        have hO := dkO_setT hO ht0 (c := 10) (by decide) eI31 (dkN_sub (dkN_lit (x := 0) (0) rfl) rfl)
        have hF := dkF_set hF eI31 (dkIn_atv (i := 0) rfl (Nat.le_refl _) (Nat.le_refl _) d30 rfl)
        obtain ⟨v32, ev32⟩ : ∃ y : Int32, y = x2_2 + 1 := ⟨_, rfl⟩
        have dv32 : dkN [(1, 9)] v32 := by rw [ev32]; exact dkN_add d30 (dkN_lit (x := 1) (1) rfl) rfl
        refine lv_iinc (v := v32) (lv' := [(2, .int v32), (0, .ref (z + t0)), (1, .int p0)]) hx hb dX4_countOthers_17 hl (k := 2) rfl (by rw [ev32]; rfl) (by decide) rfl (fun ls hl => ?_)
        refine lv_goto (tgt := 2) hx hb dX4_countOthers_20 (by decide) ?_
        exact ih2 I31 _ _ ls v32 (dk_near hn2 (by rw [ev32]; exact dk_inc d30 rfl) (dkN_lt d30 rfl)) hW hS hF hO (dkN_sub dv32 rfl) (lv_sub hl [1, 2, 0] rfl)
  refine lv_iconst (v := 0) hx hb dX4_countOthers_0 (by decide) ?_
  refine lv_istore_n (lv' := [(2, .int 0), (0, .ref (z + t0)), (1, .int p0)]) hx hb dX4_countOthers_1 rfl hl (by decide) rfl (fun ls hl => ?_)
  exact C2 _ I0 _ _ ls 0 (Nat.lt_succ_self _) hW hS hF hO (dkN_sub (dkN_lit (x := 0) (0) rfl) rfl) (lv_sub hl [1, 2, 0] rfl)
