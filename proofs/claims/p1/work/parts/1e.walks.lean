set_option maxHeartbeats 4000000 in
set_option maxRecDepth 100000 in
theorem c_X5_isMissing_0 (l : Launch) (g : dkG) (z : Nat) (I0 : dkI) (p0 : Int32) (dp0 : dkN [(0, 7)] p0) (n11_s : ∀ j, dkN [(-1, -1)] (I0 11 j)) : Met l yX5_isMissing wsX5_isMissing (dkR 0) (dkPc g z [.ref (z + 0), .int p0] I0) (dkQi g z (fun r I1 => dkN [(1, 1)] r ∧ dkF [] I0 I1 ∧ True)) 0 0 (dkA z) := by
  refine Met.ofW (cc := cX5_isMissing) (maxL := 2) (ret := (some .boolean)) (by decide) rfl ?_
  intro p e s m args below meth c s₁ B hml hv
  obtain ⟨ha, hW, hK⟩ := hv
  have hx := B.exec
  have hb := B.bytes
  have hr := B.returns
  have hts := atoms_spec (ws := wsX5_isMissing) B.pre
  have hown : s.vm.findClass RX5 = some m.cls := findClass_of_methodNamed B.named
  have hlocks := B.notSynchronized
  have hS : va_S (dkA z) s.heap s.heap [] := va_S.rf
  have hF : dkF [] I0 I0 := dkF_rf _ _
  have hl := lv_entry ([.ref (z + 0), .int p0]) (n := 2) (Nat.le_of_ble_eq_true rfl)
  have hgo : entryFrame m args 2 = entryFrame m ([.ref (z + 0), .int p0] : List Value).toArray 2 := by rw [ha]
  rw [hgo, lg_entry_eq]
  generalize (lg_sl ([.ref (z + 0), .int p0]) ++ List.replicate (2 - (lg_sl ([.ref (z + 0), .int p0])).length) Slot.unset).toArray = ls at hl ⊢
  have hl : lv_has ls 2 [(0, .ref (z + 0)), (1, .int p0)] := hl
  refine lv_aload_n hx hb dX5_isMissing_0 rfl (lv_at hl 0 rfl) ?_
  refine dk_get hx hb hts iX5_isMissing_5 hown hK (dk_at0 hW) rfl 2 (by decide) (hts (.fieldLink RX5 18 "DogKings" "sizes" "[I") (List.mem_of_getElem? (i := 1) rfl)) rfl dX5_isMissing_1 ?_
  refine lv_iload_n hx hb dX5_isMissing_4 rfl (lv_at hl 1 rfl) ?_
  refine dk_ild hx hb hK (dk_at11 hW) (dkN_in (n := 8) dp0 rfl) dX5_isMissing_5 ?_
  refine lv_topi (fun v1 ev1 => ?_)
  have dv1 : dkN [(-1, -1)] v1 := by rw [ev1]; exact (n11_s _)
  refine lv_iconst (v := (-1)) hx hb dX5_isMissing_6 (by decide) ?_
  refine lv_icmp_ne (tgt := 14) hx hb dX5_isMissing_7 (by decide) (fun c2 => ?_) (fun c2 => ?_)
  ·
    exact (dkN_nil (show dkN [] v1 from dkN_ne1 (-1) dv1 (dkN_lit (x := -1) (-1) rfl) (dk_ne c2) rfl)).elim
  ·
    refine lv_iconst (v := 1) hx hb dX5_isMissing_10 (by decide) ?_
    refine lv_goto (tgt := 15) hx hb dX5_isMissing_11 (by decide) ?_
    exact W.zret (v := 1) (ty := .boolean) hx hb hr rfl (fun t ht hW9 => ⟨⟨1, I0, rfl, ⟨dkN_sub (dkN_lit (x := 1) (1) rfl) rfl, hF, trivial⟩, dkW_eq ht hW⟩, hS.F ht⟩) hS.2.2 dX5_isMissing_15
set_option maxHeartbeats 4000000 in
set_option maxRecDepth 100000 in
theorem c_X5_found_1 (l : Launch) (g : dkG) (z : Nat) (I0 : dkI) (p0 : Int32) (dp0 : dkN [(1, 1)] p0) : Met l yX5_found wsX5_found (dkR 0) (dkPc g z [.ref (z + 0), .int p0] I0) (dkQi g z (fun r I1 => dkN [(-1000011, -1000011)] r ∧ dkF [(0, 0, some 3)] I0 I1 ∧ dkN [(1, 1)] (I1 0 3) ∧ True)) 0 0 (dkA z) := by
  refine Met.ofW (cc := cX5_found) (maxL := 2) (ret := (some .int)) (by decide) rfl ?_
  intro p e s m args below meth c s₁ B hml hv
  obtain ⟨ha, hW, hK⟩ := hv
  have hx := B.exec
  have hb := B.bytes
  have hr := B.returns
  have hts := atoms_spec (ws := wsX5_found) B.pre
  have hown : s.vm.findClass RX5 = some m.cls := findClass_of_methodNamed B.named
  have hlocks := B.notSynchronized
  have hS : va_S (dkA z) s.heap s.heap [] := va_S.rf
  have hF : dkF [(0, 0, some 3)] I0 I0 := dkF_rf _ _
  have hl := lv_entry ([.ref (z + 0), .int p0]) (n := 2) (Nat.le_of_ble_eq_true rfl)
  have hgo : entryFrame m args 2 = entryFrame m ([.ref (z + 0), .int p0] : List Value).toArray 2 := by rw [ha]
  rw [hgo, lg_entry_eq]
  generalize (lg_sl ([.ref (z + 0), .int p0]) ++ List.replicate (2 - (lg_sl ([.ref (z + 0), .int p0])).length) Slot.unset).toArray = ls at hl ⊢
  have hl : lv_has ls 2 [(0, .ref (z + 0)), (1, .int p0)] := hl
  refine lv_aload_n hx hb dX5_found_0 rfl (lv_at hl 0 rfl) ?_
  refine lv_iload_n hx hb dX5_found_1 rfl (lv_at hl 1 rfl) ?_
  refine dk_put hx hb hts iX5_found_5 tyX5 tyX5_ok nmX5 hown hK hW (dk_at0 hW) hS rfl 3 (by decide) (hts (.fieldLink RX5 292 "DogKings" "finding" "I") (List.mem_of_getElem? (i := 1) rfl)) rfl rfl (Nat.le_of_ble_eq_true rfl) rfl dX5_found_2 (fun I1 H1 L1 eI1 hW hS => ?_)
  have eI1 : I1 = dkU I0 0 3 p0 := eI1
  have hF := dkF_set hF eI1 rfl
  refine lv_ldcw (v := (-1000010)) hx hb hown (hts (.constant RX5 295 (-1000010)) (List.mem_of_getElem? (i := 2) rfl)) dX5_found_5 ?_
  refine lv_iload_n hx hb dX5_found_8 rfl (lv_at hl 1 rfl) ?_
  refine lv_isub hx hb dX5_found_9 ?_
  refine lv_topi (fun v2 ev2 => ?_)
  have dv2 : dkN [(-1000011, -1000011)] v2 := by rw [ev2]; exact dkN_subt (dkN_lit (x := -1000010) (-1000010) rfl) dp0 rfl
  exact W.iret (v := v2) hx hb hr (fun t ht hW9 => ⟨⟨v2, I1, rfl, ⟨dkN_sub dv2 rfl, hF, dkN_sub (by rw [eI1, dkU_ss]; exact dp0) rfl, trivial⟩, dkW_eq ht hW⟩, hS.F ht⟩) hS.2.2 dX5_found_10
set_option maxHeartbeats 4000000 in
set_option maxRecDepth 100000 in
theorem c_X5_set_1 (l : Launch) (g : dkG) (z : Nat) (I0 : dkI) (p0 p1 p2 : Int32) (dp0 : dkN [(0, 7)] p0) (n11_s : ∀ j, dkN [(-1, -1)] (I0 11 j)) : Met l yX5_set wsX5_set (dkR 2) (dkPc g z [.ref (z + 0), .int p0, .int p1, .int p2] I0) (dkQi g z (fun r I1 => dkN [(-1000011, -1000011)] r ∧ dkF [(0, 0, some 3)] I0 I1 ∧ dkN [(1, 1)] (I1 0 3) ∧ True)) 0 0 (dkA z) := by
  refine Met.ofW (cc := cX5_set) (maxL := 4) (ret := (some .int)) (by decide) rfl ?_
  intro p e s m args below meth c s₁ B hml hv
  obtain ⟨ha, hW, hK⟩ := hv
  have hx := B.exec
  have hb := B.bytes
  have hr := B.returns
  have hts := atoms_spec (ws := wsX5_set) B.pre
  have hown : s.vm.findClass RX5 = some m.cls := findClass_of_methodNamed B.named
  have hlocks := B.notSynchronized
  have hS : va_S (dkA z) s.heap s.heap [] := va_S.rf
  have hF : dkF [(0, 0, some 3)] I0 I0 := dkF_rf _ _
  have hl := lv_entry ([.ref (z + 0), .int p0, .int p1, .int p2]) (n := 4) (Nat.le_of_ble_eq_true rfl)
  have hgo : entryFrame m args 4 = entryFrame m ([.ref (z + 0), .int p0, .int p1, .int p2] : List Value).toArray 4 := by rw [ha]
  rw [hgo, lg_entry_eq]
  generalize (lg_sl ([.ref (z + 0), .int p0, .int p1, .int p2]) ++ List.replicate (4 - (lg_sl ([.ref (z + 0), .int p0, .int p1, .int p2])).length) Slot.unset).toArray = ls at hl ⊢
  have hl : lv_has ls 4 [(0, .ref (z + 0)), (1, .int p0), (2, .int p1), (3, .int p2)] := hl
  refine lv_iload_n hx hb dX5_set_0 rfl (lv_at hl 1 rfl) ?_
  refine dk_Si (As := [.int p0]) (rest := []) ⟨hx, hb, hml, hown, hts⟩ (c_X5_isRow_1 l g z I0 p0 dp0) (va_cwS 1 hts gX5_set_X5_isRow rfl rfl rfl (by decide +kernel) ⟨Nat.le_of_ble_eq_true rfl, Nat.le_of_ble_eq_true rfl⟩) hK hW hS rfl hl.1 rfl (Nat.le_of_ble_eq_true rfl) dX5_set_1 ⟨Nat.zero_le _, Nat.zero_le _⟩ (fun v1 I1 H1 L1 hp1 hW hS => ?_)
  obtain ⟨dv1, hF1, -⟩ := hp1
  have hF := dkF_call hF hF1 rfl
  refine lv_if_ne (tgt := 10) hx hb dX5_set_4 (by decide) (fun c2 => ?_) (fun c2 => ?_)
  ·
    refine lv_aload_n hx hb dX5_set_10 rfl (lv_at hl 0 rfl) ?_
    refine lv_iload_n hx hb dX5_set_11 rfl (lv_at hl 1 rfl) ?_
    refine dk_Vi (As := [.int p0]) (rest := []) ⟨hx, hb, hml, hown, hts⟩ (c_X5_isMissing_0 l g z I1 p0 dp0 (fun j => by rw [hF1 11 _ rfl]; exact n11_s j)) (cwV 1 hts gX5_set_X5_isMissing rfl rfl rfl (by decide +kernel) ⟨Nat.le_of_ble_eq_true rfl, Nat.le_of_ble_eq_true rfl⟩) (dk_at0 hW) rfl hK hW hS rfl hl.1 rfl (Nat.le_of_ble_eq_true rfl) dX5_set_12 ⟨Nat.zero_le _, Nat.zero_le _⟩ (fun v3 I3 H3 L3 hp3 hW hS => ?_)
    obtain ⟨dv3, hF3, -⟩ := hp3
    have hF := dkF_call hF hF3 rfl
    refine lv_if_eq (tgt := 24) hx hb dX5_set_15 (by decide) (fun c4 => ?_) (fun c4 => ?_)
    ·
      exact (dkN_nil (show dkN [] v3 from dkN_eq1 dv3 (dkN_lit (x := 0) (0) rfl) (congrArg Int32.toInt c4) rfl)).elim
    ·
      refine lv_aload_n hx hb dX5_set_18 rfl (lv_at hl 0 rfl) ?_
      refine lv_iconst (v := 1) hx hb dX5_set_19 (by decide) ?_
      refine dk_Vi (As := [.int 1]) (rest := []) ⟨hx, hb, hml, hown, hts⟩ (c_X5_found_1 l g z I3 1 (dkN_lit (x := 1) (1) rfl)) (cwV 1 hts gX5_set_X5_found rfl rfl rfl (by decide +kernel) ⟨Nat.le_of_ble_eq_true rfl, Nat.le_of_ble_eq_true rfl⟩) (dk_at0 hW) rfl hK hW hS rfl hl.1 rfl (Nat.le_of_ble_eq_true rfl) dX5_set_20 ⟨Nat.zero_le _, Nat.zero_le _⟩ (fun v5 I5 H5 L5 hp5 hW hS => ?_)
      obtain ⟨dv5, hF5, f5_0_3, -⟩ := hp5
      have hF := dkF_call hF hF5 rfl
      exact W.iret (v := v5) hx hb hr (fun t ht hW9 => ⟨⟨v5, I5, rfl, ⟨dkN_sub dv5 rfl, hF, dkN_sub f5_0_3 rfl, trivial⟩, dkW_eq ht hW⟩, hS.F ht⟩) hS.2.2 dX5_set_23
  ·
    exact (dkN_nil (show dkN [] v1 from dkN_eq1 dv1 (dkN_lit (x := 0) (0) rfl) (congrArg Int32.toInt c2) rfl)).elim
set_option maxHeartbeats 4000000 in
set_option maxRecDepth 100000 in
theorem c_X6_isMissing_0 (l : Launch) (g : dkG) (z : Nat) (I0 : dkI) (p0 : Int32) (dp0 : dkN [(0, 7)] p0) (n341_s : ∀ j, dkN [(-1000000, -1000000)] (I0 341 j)) : Met l yX6_isMissing wsX6_isMissing (dkR 0) (dkPc g z [.ref (z + 340), .int p0] I0) (dkQi g z (fun r I1 => dkN [(1, 1)] r ∧ dkF [] I0 I1 ∧ True)) 0 0 (dkA z) := by
  refine Met.ofW (cc := cX6_isMissing) (maxL := 2) (ret := (some .boolean)) (by decide) rfl ?_
  intro p e s m args below meth c s₁ B hml hv
  obtain ⟨ha, hW, hK⟩ := hv
  have hx := B.exec
  have hb := B.bytes
  have hr := B.returns
  have hts := atoms_spec (ws := wsX6_isMissing) B.pre
  have hown : s.vm.findClass RX6 = some m.cls := findClass_of_methodNamed B.named
  have hlocks := B.notSynchronized
  have hS : va_S (dkA z) s.heap s.heap [] := va_S.rf
  have hF : dkF [] I0 I0 := dkF_rf _ _
  have hl := lv_entry ([.ref (z + 340), .int p0]) (n := 2) (Nat.le_of_ble_eq_true rfl)
  have hgo : entryFrame m args 2 = entryFrame m ([.ref (z + 340), .int p0] : List Value).toArray 2 := by rw [ha]
  rw [hgo, lg_entry_eq]
  generalize (lg_sl ([.ref (z + 340), .int p0]) ++ List.replicate (2 - (lg_sl ([.ref (z + 340), .int p0])).length) Slot.unset).toArray = ls at hl ⊢
  have hl : lv_has ls 2 [(0, .ref (z + 340)), (1, .int p0)] := hl
  refine lv_aload_n hx hb dX6_isMissing_0 rfl (lv_at hl 0 rfl) ?_
  refine dk_get hx hb hts iX6_isMissing_6 hown hK (dk_at340 hW) rfl 0 (by decide) (hts (.fieldLink RX6 7 "DogKingsModel" "lane" "[I") (List.mem_of_getElem? (i := 1) rfl)) rfl dX6_isMissing_1 ?_
  refine lv_iload_n hx hb dX6_isMissing_4 rfl (lv_at hl 1 rfl) ?_
  refine dk_ild hx hb hK (dk_at341 hW) (dkN_in (n := 8) dp0 rfl) dX6_isMissing_5 ?_
  refine lv_topi (fun v1 ev1 => ?_)
  have dv1 : dkN [(-1000000, -1000000)] v1 := by rw [ev1]; exact (n341_s _)
  refine lv_ldc (v := (-1000000)) hx hb hown (hts (.constant RX6 50 (-1000000)) (List.mem_of_getElem? (i := 2) rfl)) dX6_isMissing_6 ?_
  refine lv_icmp_ne (tgt := 15) hx hb dX6_isMissing_8 (by decide) (fun c2 => ?_) (fun c2 => ?_)
  ·
    exact (dkN_nil (show dkN [] v1 from dkN_ne1 (-1000000) dv1 (dkN_lit (x := -1000000) (-1000000) rfl) (dk_ne c2) rfl)).elim
  ·
    refine lv_iconst (v := 1) hx hb dX6_isMissing_11 (by decide) ?_
    refine lv_goto (tgt := 16) hx hb dX6_isMissing_12 (by decide) ?_
    exact W.zret (v := 1) (ty := .boolean) hx hb hr rfl (fun t ht hW9 => ⟨⟨1, I0, rfl, ⟨dkN_sub (dkN_lit (x := 1) (1) rfl) rfl, hF, trivial⟩, dkW_eq ht hW⟩, hS.F ht⟩) hS.2.2 dX6_isMissing_16
set_option maxHeartbeats 4000000 in
set_option maxRecDepth 100000 in
theorem c_X6_found_1 (l : Launch) (g : dkG) (z : Nat) (I0 : dkI) (p0 : Int32) (dp0 : dkN [(1, 1)] p0) : Met l yX6_found wsX6_found (dkR 0) (dkPc g z [.ref (z + 340), .int p0] I0) (dkQi g z (fun r I1 => dkN [(-1000011, -1000011)] r ∧ dkF [(340, 340, some 4)] I0 I1 ∧ dkN [(1, 1)] (I1 340 4) ∧ True)) 0 0 (dkA z) := by
  refine Met.ofW (cc := cX6_found) (maxL := 2) (ret := (some .int)) (by decide) rfl ?_
  intro p e s m args below meth c s₁ B hml hv
  obtain ⟨ha, hW, hK⟩ := hv
  have hx := B.exec
  have hb := B.bytes
  have hr := B.returns
  have hts := atoms_spec (ws := wsX6_found) B.pre
  have hown : s.vm.findClass RX6 = some m.cls := findClass_of_methodNamed B.named
  have hlocks := B.notSynchronized
  have hS : va_S (dkA z) s.heap s.heap [] := va_S.rf
  have hF : dkF [(340, 340, some 4)] I0 I0 := dkF_rf _ _
  have hl := lv_entry ([.ref (z + 340), .int p0]) (n := 2) (Nat.le_of_ble_eq_true rfl)
  have hgo : entryFrame m args 2 = entryFrame m ([.ref (z + 340), .int p0] : List Value).toArray 2 := by rw [ha]
  rw [hgo, lg_entry_eq]
  generalize (lg_sl ([.ref (z + 340), .int p0]) ++ List.replicate (2 - (lg_sl ([.ref (z + 340), .int p0])).length) Slot.unset).toArray = ls at hl ⊢
  have hl : lv_has ls 2 [(0, .ref (z + 340)), (1, .int p0)] := hl
  refine lv_aload_n hx hb dX6_found_0 rfl (lv_at hl 0 rfl) ?_
  refine lv_iload_n hx hb dX6_found_1 rfl (lv_at hl 1 rfl) ?_
  refine dk_put hx hb hts iX6_found_6 tyX6 tyX6_ok nmX6 hown hK hW (dk_at340 hW) hS rfl 4 (by decide) (hts (.fieldLink RX6 51 "DogKingsModel" "status" "I") (List.mem_of_getElem? (i := 1) rfl)) rfl rfl (Nat.le_of_ble_eq_true rfl) rfl dX6_found_2 (fun I1 H1 L1 eI1 hW hS => ?_)
  have eI1 : I1 = dkU I0 340 4 p0 := eI1
  have hF := dkF_set hF eI1 rfl
  refine lv_ldc (v := (-1000010)) hx hb hown (hts (.constant RX6 55 (-1000010)) (List.mem_of_getElem? (i := 2) rfl)) dX6_found_5 ?_
  refine lv_iload_n hx hb dX6_found_7 rfl (lv_at hl 1 rfl) ?_
  refine lv_isub hx hb dX6_found_8 ?_
  refine lv_topi (fun v2 ev2 => ?_)
  have dv2 : dkN [(-1000011, -1000011)] v2 := by rw [ev2]; exact dkN_subt (dkN_lit (x := -1000010) (-1000010) rfl) dp0 rfl
  exact W.iret (v := v2) hx hb hr (fun t ht hW9 => ⟨⟨v2, I1, rfl, ⟨dkN_sub dv2 rfl, hF, dkN_sub (by rw [eI1, dkU_ss]; exact dp0) rfl, trivial⟩, dkW_eq ht hW⟩, hS.F ht⟩) hS.2.2 dX6_found_9
set_option maxHeartbeats 4000000 in
set_option maxRecDepth 100000 in
theorem c_X6_set_1 (l : Launch) (g : dkG) (z : Nat) (I0 : dkI) (p0 p1 p2 : Int32) (dp0 : dkN [(0, 7)] p0) (n341_s : ∀ j, dkN [(-1000000, -1000000)] (I0 341 j)) : Met l yX6_set wsX6_set (dkR 2) (dkPc g z [.ref (z + 340), .int p0, .int p1, .int p2] I0) (dkQi g z (fun r I1 => dkN [(-1000011, -1000011)] r ∧ dkF [(340, 340, some 4)] I0 I1 ∧ dkN [(1, 1)] (I1 340 4) ∧ True)) 0 0 (dkA z) := by
  refine Met.ofW (cc := cX6_set) (maxL := 4) (ret := (some .int)) (by decide) rfl ?_
  intro p e s m args below meth c s₁ B hml hv
  obtain ⟨ha, hW, hK⟩ := hv
  have hx := B.exec
  have hb := B.bytes
  have hr := B.returns
  have hts := atoms_spec (ws := wsX6_set) B.pre
  have hown : s.vm.findClass RX6 = some m.cls := findClass_of_methodNamed B.named
  have hlocks := B.notSynchronized
  have hS : va_S (dkA z) s.heap s.heap [] := va_S.rf
  have hF : dkF [(340, 340, some 4)] I0 I0 := dkF_rf _ _
  have hl := lv_entry ([.ref (z + 340), .int p0, .int p1, .int p2]) (n := 4) (Nat.le_of_ble_eq_true rfl)
  have hgo : entryFrame m args 4 = entryFrame m ([.ref (z + 340), .int p0, .int p1, .int p2] : List Value).toArray 4 := by rw [ha]
  rw [hgo, lg_entry_eq]
  generalize (lg_sl ([.ref (z + 340), .int p0, .int p1, .int p2]) ++ List.replicate (4 - (lg_sl ([.ref (z + 340), .int p0, .int p1, .int p2])).length) Slot.unset).toArray = ls at hl ⊢
  have hl : lv_has ls 4 [(0, .ref (z + 340)), (1, .int p0), (2, .int p1), (3, .int p2)] := hl
  refine lv_iload_n hx hb dX6_set_0 rfl (lv_at hl 1 rfl) ?_
  refine dk_Si (As := [.int p0]) (rest := []) ⟨hx, hb, hml, hown, hts⟩ (c_X6_isRow_1 l g z I0 p0 dp0) (va_cwS 1 hts gX6_set_X6_isRow rfl rfl rfl (by decide +kernel) ⟨Nat.le_of_ble_eq_true rfl, Nat.le_of_ble_eq_true rfl⟩) hK hW hS rfl hl.1 rfl (Nat.le_of_ble_eq_true rfl) dX6_set_1 ⟨Nat.zero_le _, Nat.zero_le _⟩ (fun v1 I1 H1 L1 hp1 hW hS => ?_)
  obtain ⟨dv1, hF1, -⟩ := hp1
  have hF := dkF_call hF hF1 rfl
  refine lv_if_ne (tgt := 10) hx hb dX6_set_4 (by decide) (fun c2 => ?_) (fun c2 => ?_)
  ·
    refine lv_aload_n hx hb dX6_set_10 rfl (lv_at hl 0 rfl) ?_
    refine lv_iload_n hx hb dX6_set_11 rfl (lv_at hl 1 rfl) ?_
    refine dk_Vi (As := [.int p0]) (rest := []) ⟨hx, hb, hml, hown, hts⟩ (c_X6_isMissing_0 l g z I1 p0 dp0 (fun j => by rw [hF1 341 _ rfl]; exact n341_s j)) (cwV 1 hts gX6_set_X6_isMissing rfl rfl rfl (by decide +kernel) ⟨Nat.le_of_ble_eq_true rfl, Nat.le_of_ble_eq_true rfl⟩) (dk_at340 hW) rfl hK hW hS rfl hl.1 rfl (Nat.le_of_ble_eq_true rfl) dX6_set_12 ⟨Nat.zero_le _, Nat.zero_le _⟩ (fun v3 I3 H3 L3 hp3 hW hS => ?_)
    obtain ⟨dv3, hF3, -⟩ := hp3
    have hF := dkF_call hF hF3 rfl
    refine lv_if_eq (tgt := 24) hx hb dX6_set_15 (by decide) (fun c4 => ?_) (fun c4 => ?_)
    ·
      exact (dkN_nil (show dkN [] v3 from dkN_eq1 dv3 (dkN_lit (x := 0) (0) rfl) (congrArg Int32.toInt c4) rfl)).elim
    ·
      refine lv_aload_n hx hb dX6_set_18 rfl (lv_at hl 0 rfl) ?_
      refine lv_iconst (v := 1) hx hb dX6_set_19 (by decide) ?_
      refine dk_Vi (As := [.int 1]) (rest := []) ⟨hx, hb, hml, hown, hts⟩ (c_X6_found_1 l g z I3 1 (dkN_lit (x := 1) (1) rfl)) (cwV 1 hts gX6_set_X6_found rfl rfl rfl (by decide +kernel) ⟨Nat.le_of_ble_eq_true rfl, Nat.le_of_ble_eq_true rfl⟩) (dk_at340 hW) rfl hK hW hS rfl hl.1 rfl (Nat.le_of_ble_eq_true rfl) dX6_set_20 ⟨Nat.zero_le _, Nat.zero_le _⟩ (fun v5 I5 H5 L5 hp5 hW hS => ?_)
      obtain ⟨dv5, hF5, f5_340_4, -⟩ := hp5
      have hF := dkF_call hF hF5 rfl
      exact W.iret (v := v5) hx hb hr (fun t ht hW9 => ⟨⟨v5, I5, rfl, ⟨dkN_sub dv5 rfl, hF, dkN_sub f5_340_4 rfl, trivial⟩, dkW_eq ht hW⟩, hS.F ht⟩) hS.2.2 dX6_set_23
  ·
    exact (dkN_nil (show dkN [] v1 from dkN_eq1 dv1 (dkN_lit (x := 0) (0) rfl) (congrArg Int32.toInt c2) rfl)).elim
set_option maxHeartbeats 4000000 in
set_option maxRecDepth 100000 in
theorem c_X5_copy_0 (l : Launch) (g : dkG) (z : Nat) (I0 : dkI) (p0 p1 p2 p3 p4 : Int32) (dp0 : dkN [(-2147483648, -1), (8, 2147483647)] p0) : Met l yX5_copy wsX5_copy (dkR 2) (dkPc g z [.ref (z + 0), .int p0, .int p1, .int p2, .int p3, .int p4] I0) (dkQi g z (fun r I1 => dkN [(-1000001, -1000001)] r ∧ dkF [] I0 I1 ∧ True)) 0 0 (dkA z) := by
  refine Met.ofW (cc := cX5_copy) (maxL := 6) (ret := (some .int)) (by decide) rfl ?_
  intro p e s m args below meth c s₁ B hml hv
  obtain ⟨ha, hW, hK⟩ := hv
  have hx := B.exec
  have hb := B.bytes
  have hr := B.returns
  have hts := atoms_spec (ws := wsX5_copy) B.pre
  have hown : s.vm.findClass RX5 = some m.cls := findClass_of_methodNamed B.named
  have hlocks := B.notSynchronized
  have hS : va_S (dkA z) s.heap s.heap [] := va_S.rf
  have hF : dkF [] I0 I0 := dkF_rf _ _
  have hl := lv_entry ([.ref (z + 0), .int p0, .int p1, .int p2, .int p3, .int p4]) (n := 6) (Nat.le_of_ble_eq_true rfl)
  have hgo : entryFrame m args 6 = entryFrame m ([.ref (z + 0), .int p0, .int p1, .int p2, .int p3, .int p4] : List Value).toArray 6 := by rw [ha]
  rw [hgo, lg_entry_eq]
  generalize (lg_sl ([.ref (z + 0), .int p0, .int p1, .int p2, .int p3, .int p4]) ++ List.replicate (6 - (lg_sl ([.ref (z + 0), .int p0, .int p1, .int p2, .int p3, .int p4])).length) Slot.unset).toArray = ls at hl ⊢
  have hl : lv_has ls 6 [(0, .ref (z + 0)), (1, .int p0), (2, .int p1), (3, .int p2), (4, .int p3), (5, .int p4)] := hl
  refine lv_iload_n hx hb dX5_copy_0 rfl (lv_at hl 1 rfl) ?_
  refine dk_Si (As := [.int p0]) (rest := []) ⟨hx, hb, hml, hown, hts⟩ (c_X5_isRow_0 l g z I0 p0 dp0) (va_cwS 1 hts gX5_copy_X5_isRow rfl rfl rfl (by decide +kernel) ⟨Nat.le_of_ble_eq_true rfl, Nat.le_of_ble_eq_true rfl⟩) hK hW hS rfl hl.1 rfl (Nat.le_of_ble_eq_true rfl) dX5_copy_1 ⟨Nat.zero_le _, Nat.zero_le _⟩ (fun v1 I1 H1 L1 hp1 hW hS => ?_)
  obtain ⟨dv1, hF1, -⟩ := hp1
  have hF := dkF_call hF hF1 rfl
  refine lv_if_eq (tgt := 14) hx hb dX5_copy_4 (by decide) (fun c2 => ?_) (fun c2 => ?_)
  ·
    refine lv_ldc (v := (-1000001)) hx hb hown (hts (.constant RX5 70 (-1000001)) (List.mem_of_getElem? (i := 1) rfl)) dX5_copy_14 ?_
    exact W.iret (v := (-1000001)) hx hb hr (fun t ht hW9 => ⟨⟨(-1000001), I1, rfl, ⟨dkN_sub (dkN_lit (x := -1000001) (-1000001) rfl) rfl, hF, trivial⟩, dkW_eq ht hW⟩, hS.F ht⟩) hS.2.2 dX5_copy_16
  ·
    exact (dkN_nil (show dkN [] v1 from dkN_ne1 (0) dv1 (dkN_lit (x := 0) (0) rfl) (dk_ne c2) rfl)).elim
set_option maxHeartbeats 4000000 in
set_option maxRecDepth 100000 in
theorem c_X6_copy_0 (l : Launch) (g : dkG) (z : Nat) (I0 : dkI) (p0 p1 p2 p3 p4 : Int32) (dp0 : dkN [(-2147483648, -1), (8, 2147483647)] p0) : Met l yX6_copy wsX6_copy (dkR 2) (dkPc g z [.ref (z + 340), .int p0, .int p1, .int p2, .int p3, .int p4] I0) (dkQi g z (fun r I1 => dkN [(-1000001, -1000001)] r ∧ dkF [] I0 I1 ∧ True)) 0 0 (dkA z) := by
  refine Met.ofW (cc := cX6_copy) (maxL := 7) (ret := (some .int)) (by decide) rfl ?_
  intro p e s m args below meth c s₁ B hml hv
  obtain ⟨ha, hW, hK⟩ := hv
  have hx := B.exec
  have hb := B.bytes
  have hr := B.returns
  have hts := atoms_spec (ws := wsX6_copy) B.pre
  have hown : s.vm.findClass RX6 = some m.cls := findClass_of_methodNamed B.named
  have hlocks := B.notSynchronized
  have hS : va_S (dkA z) s.heap s.heap [] := va_S.rf
  have hF : dkF [] I0 I0 := dkF_rf _ _
  have hl := lv_entry ([.ref (z + 340), .int p0, .int p1, .int p2, .int p3, .int p4]) (n := 7) (Nat.le_of_ble_eq_true rfl)
  have hgo : entryFrame m args 7 = entryFrame m ([.ref (z + 340), .int p0, .int p1, .int p2, .int p3, .int p4] : List Value).toArray 7 := by rw [ha]
  rw [hgo, lg_entry_eq]
  generalize (lg_sl ([.ref (z + 340), .int p0, .int p1, .int p2, .int p3, .int p4]) ++ List.replicate (7 - (lg_sl ([.ref (z + 340), .int p0, .int p1, .int p2, .int p3, .int p4])).length) Slot.unset).toArray = ls at hl ⊢
  have hl : lv_has ls 7 [(0, .ref (z + 340)), (1, .int p0), (2, .int p1), (3, .int p2), (4, .int p3), (5, .int p4)] := hl
  refine lv_iload_n hx hb dX6_copy_0 rfl (lv_at hl 1 rfl) ?_
  refine dk_Si (As := [.int p0]) (rest := []) ⟨hx, hb, hml, hown, hts⟩ (c_X6_isRow_0 l g z I0 p0 dp0) (va_cwS 1 hts gX6_copy_X6_isRow rfl rfl rfl (by decide +kernel) ⟨Nat.le_of_ble_eq_true rfl, Nat.le_of_ble_eq_true rfl⟩) hK hW hS rfl hl.1 rfl (Nat.le_of_ble_eq_true rfl) dX6_copy_1 ⟨Nat.zero_le _, Nat.zero_le _⟩ (fun v1 I1 H1 L1 hp1 hW hS => ?_)
  obtain ⟨dv1, hF1, -⟩ := hp1
  have hF := dkF_call hF hF1 rfl
  refine lv_if_eq (tgt := 14) hx hb dX6_copy_4 (by decide) (fun c2 => ?_) (fun c2 => ?_)
  ·
    refine lv_ldc (v := (-1000001)) hx hb hown (hts (.constant RX6 64 (-1000001)) (List.mem_of_getElem? (i := 1) rfl)) dX6_copy_14 ?_
    exact W.iret (v := (-1000001)) hx hb hr (fun t ht hW9 => ⟨⟨(-1000001), I1, rfl, ⟨dkN_sub (dkN_lit (x := -1000001) (-1000001) rfl) rfl, hF, trivial⟩, dkW_eq ht hW⟩, hS.F ht⟩) hS.2.2 dX6_copy_16
  ·
    exact (dkN_nil (show dkN [] v1 from dkN_ne1 (0) dv1 (dkN_lit (x := 0) (0) rfl) (dk_ne c2) rfl)).elim
set_option maxHeartbeats 4000000 in
set_option maxRecDepth 100000 in
theorem c_X5_copy_1 (l : Launch) (g : dkG) (z : Nat) (I0 : dkI) (p0 p1 p2 p3 p4 : Int32) (dp0 : dkN [(0, 7)] p0) (dp2 : dkN [(-2147483648, -1), (8, 2147483647)] p2) : Met l yX5_copy wsX5_copy (dkR 2) (dkPc g z [.ref (z + 0), .int p0, .int p1, .int p2, .int p3, .int p4] I0) (dkQi g z (fun r I1 => dkN [(-1000001, -1000001)] r ∧ dkF [] I0 I1 ∧ True)) 0 0 (dkA z) := by
  refine Met.ofW (cc := cX5_copy) (maxL := 6) (ret := (some .int)) (by decide) rfl ?_
  intro p e s m args below meth c s₁ B hml hv
  obtain ⟨ha, hW, hK⟩ := hv
  have hx := B.exec
  have hb := B.bytes
  have hr := B.returns
  have hts := atoms_spec (ws := wsX5_copy) B.pre
  have hown : s.vm.findClass RX5 = some m.cls := findClass_of_methodNamed B.named
  have hlocks := B.notSynchronized
  have hS : va_S (dkA z) s.heap s.heap [] := va_S.rf
  have hF : dkF [] I0 I0 := dkF_rf _ _
  have hl := lv_entry ([.ref (z + 0), .int p0, .int p1, .int p2, .int p3, .int p4]) (n := 6) (Nat.le_of_ble_eq_true rfl)
  have hgo : entryFrame m args 6 = entryFrame m ([.ref (z + 0), .int p0, .int p1, .int p2, .int p3, .int p4] : List Value).toArray 6 := by rw [ha]
  rw [hgo, lg_entry_eq]
  generalize (lg_sl ([.ref (z + 0), .int p0, .int p1, .int p2, .int p3, .int p4]) ++ List.replicate (6 - (lg_sl ([.ref (z + 0), .int p0, .int p1, .int p2, .int p3, .int p4])).length) Slot.unset).toArray = ls at hl ⊢
  have hl : lv_has ls 6 [(0, .ref (z + 0)), (1, .int p0), (2, .int p1), (3, .int p2), (4, .int p3), (5, .int p4)] := hl
  refine lv_iload_n hx hb dX5_copy_0 rfl (lv_at hl 1 rfl) ?_
  refine dk_Si (As := [.int p0]) (rest := []) ⟨hx, hb, hml, hown, hts⟩ (c_X5_isRow_1 l g z I0 p0 dp0) (va_cwS 1 hts gX5_copy_X5_isRow rfl rfl rfl (by decide +kernel) ⟨Nat.le_of_ble_eq_true rfl, Nat.le_of_ble_eq_true rfl⟩) hK hW hS rfl hl.1 rfl (Nat.le_of_ble_eq_true rfl) dX5_copy_1 ⟨Nat.zero_le _, Nat.zero_le _⟩ (fun v1 I1 H1 L1 hp1 hW hS => ?_)
  obtain ⟨dv1, hF1, -⟩ := hp1
  have hF := dkF_call hF hF1 rfl
  refine lv_if_eq (tgt := 14) hx hb dX5_copy_4 (by decide) (fun c2 => ?_) (fun c2 => ?_)
  ·
    exact (dkN_nil (show dkN [] v1 from dkN_eq1 dv1 (dkN_lit (x := 0) (0) rfl) (congrArg Int32.toInt c2) rfl)).elim
  ·
    refine lv_iload_n hx hb dX5_copy_7 rfl (lv_at hl 3 rfl) ?_
    refine dk_Si (As := [.int p2]) (rest := []) ⟨hx, hb, hml, hown, hts⟩ (c_X5_isRow_0 l g z I1 p2 dp2) (va_cwS 1 hts gX5_copy_X5_isRow rfl rfl rfl (by decide +kernel) ⟨Nat.le_of_ble_eq_true rfl, Nat.le_of_ble_eq_true rfl⟩) hK hW hS rfl hl.1 rfl (Nat.le_of_ble_eq_true rfl) dX5_copy_8 ⟨Nat.zero_le _, Nat.zero_le _⟩ (fun v3 I3 H3 L3 hp3 hW hS => ?_)
    obtain ⟨dv3, hF3, -⟩ := hp3
    have hF := dkF_call hF hF3 rfl
    refine lv_if_ne (tgt := 17) hx hb dX5_copy_11 (by decide) (fun c4 => ?_) (fun c4 => ?_)
    ·
      exact (dkN_nil (show dkN [] v3 from dkN_ne1 (0) dv3 (dkN_lit (x := 0) (0) rfl) (dk_ne c4) rfl)).elim
    ·
      refine lv_ldc (v := (-1000001)) hx hb hown (hts (.constant RX5 70 (-1000001)) (List.mem_of_getElem? (i := 1) rfl)) dX5_copy_14 ?_
      exact W.iret (v := (-1000001)) hx hb hr (fun t ht hW9 => ⟨⟨(-1000001), I3, rfl, ⟨dkN_sub (dkN_lit (x := -1000001) (-1000001) rfl) rfl, hF, trivial⟩, dkW_eq ht hW⟩, hS.F ht⟩) hS.2.2 dX5_copy_16
set_option maxHeartbeats 4000000 in
set_option maxRecDepth 100000 in
theorem c_X6_copy_1 (l : Launch) (g : dkG) (z : Nat) (I0 : dkI) (p0 p1 p2 p3 p4 : Int32) (dp0 : dkN [(0, 7)] p0) (dp2 : dkN [(-2147483648, -1), (8, 2147483647)] p2) : Met l yX6_copy wsX6_copy (dkR 2) (dkPc g z [.ref (z + 340), .int p0, .int p1, .int p2, .int p3, .int p4] I0) (dkQi g z (fun r I1 => dkN [(-1000001, -1000001)] r ∧ dkF [] I0 I1 ∧ True)) 0 0 (dkA z) := by
  refine Met.ofW (cc := cX6_copy) (maxL := 7) (ret := (some .int)) (by decide) rfl ?_
  intro p e s m args below meth c s₁ B hml hv
  obtain ⟨ha, hW, hK⟩ := hv
  have hx := B.exec
  have hb := B.bytes
  have hr := B.returns
  have hts := atoms_spec (ws := wsX6_copy) B.pre
  have hown : s.vm.findClass RX6 = some m.cls := findClass_of_methodNamed B.named
  have hlocks := B.notSynchronized
  have hS : va_S (dkA z) s.heap s.heap [] := va_S.rf
  have hF : dkF [] I0 I0 := dkF_rf _ _
  have hl := lv_entry ([.ref (z + 340), .int p0, .int p1, .int p2, .int p3, .int p4]) (n := 7) (Nat.le_of_ble_eq_true rfl)
  have hgo : entryFrame m args 7 = entryFrame m ([.ref (z + 340), .int p0, .int p1, .int p2, .int p3, .int p4] : List Value).toArray 7 := by rw [ha]
  rw [hgo, lg_entry_eq]
  generalize (lg_sl ([.ref (z + 340), .int p0, .int p1, .int p2, .int p3, .int p4]) ++ List.replicate (7 - (lg_sl ([.ref (z + 340), .int p0, .int p1, .int p2, .int p3, .int p4])).length) Slot.unset).toArray = ls at hl ⊢
  have hl : lv_has ls 7 [(0, .ref (z + 340)), (1, .int p0), (2, .int p1), (3, .int p2), (4, .int p3), (5, .int p4)] := hl
  refine lv_iload_n hx hb dX6_copy_0 rfl (lv_at hl 1 rfl) ?_
  refine dk_Si (As := [.int p0]) (rest := []) ⟨hx, hb, hml, hown, hts⟩ (c_X6_isRow_1 l g z I0 p0 dp0) (va_cwS 1 hts gX6_copy_X6_isRow rfl rfl rfl (by decide +kernel) ⟨Nat.le_of_ble_eq_true rfl, Nat.le_of_ble_eq_true rfl⟩) hK hW hS rfl hl.1 rfl (Nat.le_of_ble_eq_true rfl) dX6_copy_1 ⟨Nat.zero_le _, Nat.zero_le _⟩ (fun v1 I1 H1 L1 hp1 hW hS => ?_)
  obtain ⟨dv1, hF1, -⟩ := hp1
  have hF := dkF_call hF hF1 rfl
  refine lv_if_eq (tgt := 14) hx hb dX6_copy_4 (by decide) (fun c2 => ?_) (fun c2 => ?_)
  ·
    exact (dkN_nil (show dkN [] v1 from dkN_eq1 dv1 (dkN_lit (x := 0) (0) rfl) (congrArg Int32.toInt c2) rfl)).elim
  ·
    refine lv_iload_n hx hb dX6_copy_7 rfl (lv_at hl 3 rfl) ?_
    refine dk_Si (As := [.int p2]) (rest := []) ⟨hx, hb, hml, hown, hts⟩ (c_X6_isRow_0 l g z I1 p2 dp2) (va_cwS 1 hts gX6_copy_X6_isRow rfl rfl rfl (by decide +kernel) ⟨Nat.le_of_ble_eq_true rfl, Nat.le_of_ble_eq_true rfl⟩) hK hW hS rfl hl.1 rfl (Nat.le_of_ble_eq_true rfl) dX6_copy_8 ⟨Nat.zero_le _, Nat.zero_le _⟩ (fun v3 I3 H3 L3 hp3 hW hS => ?_)
    obtain ⟨dv3, hF3, -⟩ := hp3
    have hF := dkF_call hF hF3 rfl
    refine lv_if_ne (tgt := 17) hx hb dX6_copy_11 (by decide) (fun c4 => ?_) (fun c4 => ?_)
    ·
      exact (dkN_nil (show dkN [] v3 from dkN_ne1 (0) dv3 (dkN_lit (x := 0) (0) rfl) (dk_ne c4) rfl)).elim
    ·
      refine lv_ldc (v := (-1000001)) hx hb hown (hts (.constant RX6 64 (-1000001)) (List.mem_of_getElem? (i := 1) rfl)) dX6_copy_14 ?_
      exact W.iret (v := (-1000001)) hx hb hr (fun t ht hW9 => ⟨⟨(-1000001), I3, rfl, ⟨dkN_sub (dkN_lit (x := -1000001) (-1000001) rfl) rfl, hF, trivial⟩, dkW_eq ht hW⟩, hS.F ht⟩) hS.2.2 dX6_copy_16
set_option maxHeartbeats 4000000 in
set_option maxRecDepth 100000 in
theorem c_X5_copy_2 (l : Launch) (g : dkG) (z : Nat) (I0 : dkI) (p0 p1 p2 p3 p4 : Int32) (dp0 : dkN [(0, 7)] p0) (dp2 : dkN [(0, 7)] p2) (n0_3 : dkN [(0, 0)] (I0 0 3)) (n11_s : ∀ j, dkN [(-1, -1)] (I0 11 j)) : Met l yX5_copy wsX5_copy (dkR 2) (dkPc g z [.ref (z + 0), .int p0, .int p1, .int p2, .int p3, .int p4] I0) (dkQi g z (fun r I1 => dkN [(-1000011, -1000011)] r ∧ dkF [(0, 0, some 3)] I0 I1 ∧ dkN [(1, 1)] (I1 0 3) ∧ True)) 0 0 (dkA z) := by
  refine Met.ofW (cc := cX5_copy) (maxL := 6) (ret := (some .int)) (by decide) rfl ?_
  intro p e s m args below meth c s₁ B hml hv
  obtain ⟨ha, hW, hK⟩ := hv
  have hx := B.exec
  have hb := B.bytes
  have hr := B.returns
  have hts := atoms_spec (ws := wsX5_copy) B.pre
  have hown : s.vm.findClass RX5 = some m.cls := findClass_of_methodNamed B.named
  have hlocks := B.notSynchronized
  have hS : va_S (dkA z) s.heap s.heap [] := va_S.rf
  have hF : dkF [(0, 0, some 3)] I0 I0 := dkF_rf _ _
  have hl := lv_entry ([.ref (z + 0), .int p0, .int p1, .int p2, .int p3, .int p4]) (n := 6) (Nat.le_of_ble_eq_true rfl)
  have hgo : entryFrame m args 6 = entryFrame m ([.ref (z + 0), .int p0, .int p1, .int p2, .int p3, .int p4] : List Value).toArray 6 := by rw [ha]
  rw [hgo, lg_entry_eq]
  generalize (lg_sl ([.ref (z + 0), .int p0, .int p1, .int p2, .int p3, .int p4]) ++ List.replicate (6 - (lg_sl ([.ref (z + 0), .int p0, .int p1, .int p2, .int p3, .int p4])).length) Slot.unset).toArray = ls at hl ⊢
  have hl : lv_has ls 6 [(0, .ref (z + 0)), (1, .int p0), (2, .int p1), (3, .int p2), (4, .int p3), (5, .int p4)] := hl
  have C33 : ∀ (I : dkI) (H : Heap) (locs : List Loc) (ls : Array Slot), dkW g z I H → va_S (dkA z) s.heap H locs → dkF [(0, 0, some 3)] I0 I → dkN [(0, 0)] (I 0 3) → lv_has ls 6 [(0, .ref (z + 0)), (1, .int p0), (2, .int p1), (3, .int p2), (4, .int p3), (5, .int p4)] → W p l e (headSpec wsX5_copy (dkR 2)).room s m args below meth c H locs 0 0 (MQ below (dkQi g z (fun r I1 => dkN [(-1000011, -1000011)] r ∧ dkF [(0, 0, some 3)] I0 I1 ∧ dkN [(1, 1)] (I1 0 3) ∧ True)) args s 0 0 (dkA z)) (F0 m 33 ls []) := by
    intro I33_ H locs ls hW hS hF_33 f33_0_3 hl
    have hF := hF_33
    refine lv_aload_n hx hb dX5_copy_33 rfl (lv_at hl 0 rfl) ?_
    refine lv_iconst (v := 1) hx hb dX5_copy_34 (by decide) ?_
    refine dk_Vi (As := [.int 1]) (rest := []) ⟨hx, hb, hml, hown, hts⟩ (c_X5_found_1 l g z I33_ 1 (dkN_lit (x := 1) (1) rfl)) (cwV 1 hts gX5_copy_X5_found rfl rfl rfl (by decide +kernel) ⟨Nat.le_of_ble_eq_true rfl, Nat.le_of_ble_eq_true rfl⟩) (dk_at0 hW) rfl hK hW hS rfl hl.1 rfl (Nat.le_of_ble_eq_true rfl) dX5_copy_35 ⟨Nat.zero_le _, Nat.zero_le _⟩ (fun v1 I1 H1 L1 hp1 hW hS => ?_)
    obtain ⟨dv1, hF1, f1_0_3, -⟩ := hp1
    have hF := dkF_call hF hF1 rfl
    exact W.iret (v := v1) hx hb hr (fun t ht hW9 => ⟨⟨v1, I1, rfl, ⟨dkN_sub dv1 rfl, hF, dkN_sub f1_0_3 rfl, trivial⟩, dkW_eq ht hW⟩, hS.F ht⟩) hS.2.2 dX5_copy_38
  refine lv_iload_n hx hb dX5_copy_0 rfl (lv_at hl 1 rfl) ?_
  refine dk_Si (As := [.int p0]) (rest := []) ⟨hx, hb, hml, hown, hts⟩ (c_X5_isRow_1 l g z I0 p0 dp0) (va_cwS 1 hts gX5_copy_X5_isRow rfl rfl rfl (by decide +kernel) ⟨Nat.le_of_ble_eq_true rfl, Nat.le_of_ble_eq_true rfl⟩) hK hW hS rfl hl.1 rfl (Nat.le_of_ble_eq_true rfl) dX5_copy_1 ⟨Nat.zero_le _, Nat.zero_le _⟩ (fun v2 I2 H2 L2 hp2 hW hS => ?_)
  obtain ⟨dv2, hF2, -⟩ := hp2
  have hF := dkF_call hF hF2 rfl
  refine lv_if_eq (tgt := 14) hx hb dX5_copy_4 (by decide) (fun c3 => ?_) (fun c3 => ?_)
  ·
    exact (dkN_nil (show dkN [] v2 from dkN_eq1 dv2 (dkN_lit (x := 0) (0) rfl) (congrArg Int32.toInt c3) rfl)).elim
  ·
    refine lv_iload_n hx hb dX5_copy_7 rfl (lv_at hl 3 rfl) ?_
    refine dk_Si (As := [.int p2]) (rest := []) ⟨hx, hb, hml, hown, hts⟩ (c_X5_isRow_1 l g z I2 p2 dp2) (va_cwS 1 hts gX5_copy_X5_isRow rfl rfl rfl (by decide +kernel) ⟨Nat.le_of_ble_eq_true rfl, Nat.le_of_ble_eq_true rfl⟩) hK hW hS rfl hl.1 rfl (Nat.le_of_ble_eq_true rfl) dX5_copy_8 ⟨Nat.zero_le _, Nat.zero_le _⟩ (fun v4 I4 H4 L4 hp4 hW hS => ?_)
    obtain ⟨dv4, hF4, -⟩ := hp4
    have hF := dkF_call hF hF4 rfl
    refine lv_if_ne (tgt := 17) hx hb dX5_copy_11 (by decide) (fun c5 => ?_) (fun c5 => ?_)
    ·
      refine lv_aload_n hx hb dX5_copy_17 rfl (lv_at hl 0 rfl) ?_
      refine lv_iload_n hx hb dX5_copy_18 rfl (lv_at hl 1 rfl) ?_
      refine dk_Vi (As := [.int p0]) (rest := []) ⟨hx, hb, hml, hown, hts⟩ (c_X5_isMissing_0 l g z I4 p0 dp0 (fun j => by rw [hF4 11 _ rfl, hF2 11 _ rfl]; exact n11_s j)) (cwV 1 hts gX5_copy_X5_isMissing rfl rfl rfl (by decide +kernel) ⟨Nat.le_of_ble_eq_true rfl, Nat.le_of_ble_eq_true rfl⟩) (dk_at0 hW) rfl hK hW hS rfl hl.1 rfl (Nat.le_of_ble_eq_true rfl) dX5_copy_19 ⟨Nat.zero_le _, Nat.zero_le _⟩ (fun v6 I6 H6 L6 hp6 hW hS => ?_)
      obtain ⟨dv6, hF6, -⟩ := hp6
      have hF := dkF_call hF hF6 rfl
      refine lv_if_ne (tgt := 33) hx hb dX5_copy_22 (by decide) (fun c7 => ?_) (fun c7 => ?_)
      ·
        exact C33 I6 _ _ ls  hW hS hF (dkN_sub (by rw [hF6 0 3 rfl]; exact (by rw [hF4 0 3 rfl]; exact (by rw [hF2 0 3 rfl]; exact n0_3))) rfl) (lv_sub hl [0, 1, 2, 3, 4, 5] rfl)
      ·
        exact (dkN_nil (show dkN [] v6 from dkN_eq1 dv6 (dkN_lit (x := 0) (0) rfl) (congrArg Int32.toInt c7) rfl)).elim
    ·
      exact (dkN_nil (show dkN [] v4 from dkN_eq1 dv4 (dkN_lit (x := 0) (0) rfl) (congrArg Int32.toInt c5) rfl)).elim
set_option maxHeartbeats 4000000 in
set_option maxRecDepth 100000 in
theorem c_X6_copy_2 (l : Launch) (g : dkG) (z : Nat) (I0 : dkI) (p0 p1 p2 p3 p4 : Int32) (dp0 : dkN [(0, 7)] p0) (dp2 : dkN [(0, 7)] p2) (n340_4 : dkN [(0, 0)] (I0 340 4)) (n341_s : ∀ j, dkN [(-1000000, -1000000)] (I0 341 j)) : Met l yX6_copy wsX6_copy (dkR 2) (dkPc g z [.ref (z + 340), .int p0, .int p1, .int p2, .int p3, .int p4] I0) (dkQi g z (fun r I1 => dkN [(-1000011, -1000011)] r ∧ dkF [(340, 340, some 4)] I0 I1 ∧ dkN [(1, 1)] (I1 340 4) ∧ True)) 0 0 (dkA z) := by
  refine Met.ofW (cc := cX6_copy) (maxL := 7) (ret := (some .int)) (by decide) rfl ?_
  intro p e s m args below meth c s₁ B hml hv
  obtain ⟨ha, hW, hK⟩ := hv
  have hx := B.exec
  have hb := B.bytes
  have hr := B.returns
  have hts := atoms_spec (ws := wsX6_copy) B.pre
  have hown : s.vm.findClass RX6 = some m.cls := findClass_of_methodNamed B.named
  have hlocks := B.notSynchronized
  have hS : va_S (dkA z) s.heap s.heap [] := va_S.rf
  have hF : dkF [(340, 340, some 4)] I0 I0 := dkF_rf _ _
  have hl := lv_entry ([.ref (z + 340), .int p0, .int p1, .int p2, .int p3, .int p4]) (n := 7) (Nat.le_of_ble_eq_true rfl)
  have hgo : entryFrame m args 7 = entryFrame m ([.ref (z + 340), .int p0, .int p1, .int p2, .int p3, .int p4] : List Value).toArray 7 := by rw [ha]
  rw [hgo, lg_entry_eq]
  generalize (lg_sl ([.ref (z + 340), .int p0, .int p1, .int p2, .int p3, .int p4]) ++ List.replicate (7 - (lg_sl ([.ref (z + 340), .int p0, .int p1, .int p2, .int p3, .int p4])).length) Slot.unset).toArray = ls at hl ⊢
  have hl : lv_has ls 7 [(0, .ref (z + 340)), (1, .int p0), (2, .int p1), (3, .int p2), (4, .int p3), (5, .int p4)] := hl
  have C33 : ∀ (I : dkI) (H : Heap) (locs : List Loc) (ls : Array Slot), dkW g z I H → va_S (dkA z) s.heap H locs → dkF [(340, 340, some 4)] I0 I → dkN [(0, 0)] (I 340 4) → lv_has ls 7 [(0, .ref (z + 340)), (1, .int p0), (2, .int p1), (3, .int p2), (4, .int p3), (5, .int p4)] → W p l e (headSpec wsX6_copy (dkR 2)).room s m args below meth c H locs 0 0 (MQ below (dkQi g z (fun r I1 => dkN [(-1000011, -1000011)] r ∧ dkF [(340, 340, some 4)] I0 I1 ∧ dkN [(1, 1)] (I1 340 4) ∧ True)) args s 0 0 (dkA z)) (F0 m 33 ls []) := by
    intro I33_ H locs ls hW hS hF_33 f33_340_4 hl
    have hF := hF_33
    refine lv_aload_n hx hb dX6_copy_33 rfl (lv_at hl 0 rfl) ?_
    refine lv_iconst (v := 1) hx hb dX6_copy_34 (by decide) ?_
    refine dk_Vi (As := [.int 1]) (rest := []) ⟨hx, hb, hml, hown, hts⟩ (c_X6_found_1 l g z I33_ 1 (dkN_lit (x := 1) (1) rfl)) (cwV 1 hts gX6_copy_X6_found rfl rfl rfl (by decide +kernel) ⟨Nat.le_of_ble_eq_true rfl, Nat.le_of_ble_eq_true rfl⟩) (dk_at340 hW) rfl hK hW hS rfl hl.1 rfl (Nat.le_of_ble_eq_true rfl) dX6_copy_35 ⟨Nat.zero_le _, Nat.zero_le _⟩ (fun v1 I1 H1 L1 hp1 hW hS => ?_)
    obtain ⟨dv1, hF1, f1_340_4, -⟩ := hp1
    have hF := dkF_call hF hF1 rfl
    exact W.iret (v := v1) hx hb hr (fun t ht hW9 => ⟨⟨v1, I1, rfl, ⟨dkN_sub dv1 rfl, hF, dkN_sub f1_340_4 rfl, trivial⟩, dkW_eq ht hW⟩, hS.F ht⟩) hS.2.2 dX6_copy_38
  refine lv_iload_n hx hb dX6_copy_0 rfl (lv_at hl 1 rfl) ?_
  refine dk_Si (As := [.int p0]) (rest := []) ⟨hx, hb, hml, hown, hts⟩ (c_X6_isRow_1 l g z I0 p0 dp0) (va_cwS 1 hts gX6_copy_X6_isRow rfl rfl rfl (by decide +kernel) ⟨Nat.le_of_ble_eq_true rfl, Nat.le_of_ble_eq_true rfl⟩) hK hW hS rfl hl.1 rfl (Nat.le_of_ble_eq_true rfl) dX6_copy_1 ⟨Nat.zero_le _, Nat.zero_le _⟩ (fun v2 I2 H2 L2 hp2 hW hS => ?_)
  obtain ⟨dv2, hF2, -⟩ := hp2
  have hF := dkF_call hF hF2 rfl
  refine lv_if_eq (tgt := 14) hx hb dX6_copy_4 (by decide) (fun c3 => ?_) (fun c3 => ?_)
  ·
    exact (dkN_nil (show dkN [] v2 from dkN_eq1 dv2 (dkN_lit (x := 0) (0) rfl) (congrArg Int32.toInt c3) rfl)).elim
  ·
    refine lv_iload_n hx hb dX6_copy_7 rfl (lv_at hl 3 rfl) ?_
    refine dk_Si (As := [.int p2]) (rest := []) ⟨hx, hb, hml, hown, hts⟩ (c_X6_isRow_1 l g z I2 p2 dp2) (va_cwS 1 hts gX6_copy_X6_isRow rfl rfl rfl (by decide +kernel) ⟨Nat.le_of_ble_eq_true rfl, Nat.le_of_ble_eq_true rfl⟩) hK hW hS rfl hl.1 rfl (Nat.le_of_ble_eq_true rfl) dX6_copy_8 ⟨Nat.zero_le _, Nat.zero_le _⟩ (fun v4 I4 H4 L4 hp4 hW hS => ?_)
    obtain ⟨dv4, hF4, -⟩ := hp4
    have hF := dkF_call hF hF4 rfl
    refine lv_if_ne (tgt := 17) hx hb dX6_copy_11 (by decide) (fun c5 => ?_) (fun c5 => ?_)
    ·
      refine lv_aload_n hx hb dX6_copy_17 rfl (lv_at hl 0 rfl) ?_
      refine lv_iload_n hx hb dX6_copy_18 rfl (lv_at hl 1 rfl) ?_
      refine dk_Vi (As := [.int p0]) (rest := []) ⟨hx, hb, hml, hown, hts⟩ (c_X6_isMissing_0 l g z I4 p0 dp0 (fun j => by rw [hF4 341 _ rfl, hF2 341 _ rfl]; exact n341_s j)) (cwV 1 hts gX6_copy_X6_isMissing rfl rfl rfl (by decide +kernel) ⟨Nat.le_of_ble_eq_true rfl, Nat.le_of_ble_eq_true rfl⟩) (dk_at340 hW) rfl hK hW hS rfl hl.1 rfl (Nat.le_of_ble_eq_true rfl) dX6_copy_19 ⟨Nat.zero_le _, Nat.zero_le _⟩ (fun v6 I6 H6 L6 hp6 hW hS => ?_)
      obtain ⟨dv6, hF6, -⟩ := hp6
      have hF := dkF_call hF hF6 rfl
      refine lv_if_ne (tgt := 33) hx hb dX6_copy_22 (by decide) (fun c7 => ?_) (fun c7 => ?_)
      ·
        exact C33 I6 _ _ ls  hW hS hF (dkN_sub (by rw [hF6 340 4 rfl]; exact (by rw [hF4 340 4 rfl]; exact (by rw [hF2 340 4 rfl]; exact n340_4))) rfl) (lv_sub hl [0, 1, 2, 3, 4, 5] rfl)
      ·
        exact (dkN_nil (show dkN [] v6 from dkN_eq1 dv6 (dkN_lit (x := 0) (0) rfl) (congrArg Int32.toInt c7) rfl)).elim
    ·
      exact (dkN_nil (show dkN [] v4 from dkN_eq1 dv4 (dkN_lit (x := 0) (0) rfl) (congrArg Int32.toInt c5) rfl)).elim
set_option maxHeartbeats 4000000 in
set_option maxRecDepth 100000 in
theorem c_X5_drop_0 (l : Launch) (g : dkG) (z : Nat) (I0 : dkI) (p0 : Int32) (dp0 : dkN [(-2147483648, -1), (8, 2147483647)] p0) : Met l yX5_drop wsX5_drop (dkR 2) (dkPc g z [.ref (z + 0), .int p0] I0) (dkQi g z (fun r I1 => dkN [(-1000001, -1000001)] r ∧ dkF [] I0 I1 ∧ True)) 0 0 (dkA z) := by
  refine Met.ofW (cc := cX5_drop) (maxL := 3) (ret := (some .int)) (by decide) rfl ?_
  intro p e s m args below meth c s₁ B hml hv
  obtain ⟨ha, hW, hK⟩ := hv
  have hx := B.exec
  have hb := B.bytes
  have hr := B.returns
  have hts := atoms_spec (ws := wsX5_drop) B.pre
  have hown : s.vm.findClass RX5 = some m.cls := findClass_of_methodNamed B.named
  have hlocks := B.notSynchronized
  have hS : va_S (dkA z) s.heap s.heap [] := va_S.rf
  have hF : dkF [] I0 I0 := dkF_rf _ _
  have hl := lv_entry ([.ref (z + 0), .int p0]) (n := 3) (Nat.le_of_ble_eq_true rfl)
  have hgo : entryFrame m args 3 = entryFrame m ([.ref (z + 0), .int p0] : List Value).toArray 3 := by rw [ha]
  rw [hgo, lg_entry_eq]
  generalize (lg_sl ([.ref (z + 0), .int p0]) ++ List.replicate (3 - (lg_sl ([.ref (z + 0), .int p0])).length) Slot.unset).toArray = ls at hl ⊢
  have hl : lv_has ls 3 [(0, .ref (z + 0)), (1, .int p0)] := hl
  refine lv_iload_n hx hb dX5_drop_0 rfl (lv_at hl 1 rfl) ?_
  refine dk_Si (As := [.int p0]) (rest := []) ⟨hx, hb, hml, hown, hts⟩ (c_X5_isRow_0 l g z I0 p0 dp0) (va_cwS 1 hts gX5_drop_X5_isRow rfl rfl rfl (by decide +kernel) ⟨Nat.le_of_ble_eq_true rfl, Nat.le_of_ble_eq_true rfl⟩) hK hW hS rfl hl.1 rfl (Nat.le_of_ble_eq_true rfl) dX5_drop_1 ⟨Nat.zero_le _, Nat.zero_le _⟩ (fun v1 I1 H1 L1 hp1 hW hS => ?_)
  obtain ⟨dv1, hF1, -⟩ := hp1
  have hF := dkF_call hF hF1 rfl
  refine lv_if_ne (tgt := 10) hx hb dX5_drop_4 (by decide) (fun c2 => ?_) (fun c2 => ?_)
  ·
    exact (dkN_nil (show dkN [] v1 from dkN_ne1 (0) dv1 (dkN_lit (x := 0) (0) rfl) (dk_ne c2) rfl)).elim
  ·
    refine lv_ldc (v := (-1000001)) hx hb hown (hts (.constant RX5 70 (-1000001)) (List.mem_of_getElem? (i := 1) rfl)) dX5_drop_7 ?_
    exact W.iret (v := (-1000001)) hx hb hr (fun t ht hW9 => ⟨⟨(-1000001), I1, rfl, ⟨dkN_sub (dkN_lit (x := -1000001) (-1000001) rfl) rfl, hF, trivial⟩, dkW_eq ht hW⟩, hS.F ht⟩) hS.2.2 dX5_drop_9
set_option maxHeartbeats 4000000 in
set_option maxRecDepth 100000 in
theorem c_X6_drop_0 (l : Launch) (g : dkG) (z : Nat) (I0 : dkI) (p0 : Int32) (dp0 : dkN [(-2147483648, -1), (8, 2147483647)] p0) : Met l yX6_drop wsX6_drop (dkR 2) (dkPc g z [.ref (z + 340), .int p0] I0) (dkQi g z (fun r I1 => dkN [(-1000001, -1000001)] r ∧ dkF [] I0 I1 ∧ True)) 0 0 (dkA z) := by
  refine Met.ofW (cc := cX6_drop) (maxL := 2) (ret := (some .int)) (by decide) rfl ?_
  intro p e s m args below meth c s₁ B hml hv
  obtain ⟨ha, hW, hK⟩ := hv
  have hx := B.exec
  have hb := B.bytes
  have hr := B.returns
  have hts := atoms_spec (ws := wsX6_drop) B.pre
  have hown : s.vm.findClass RX6 = some m.cls := findClass_of_methodNamed B.named
  have hlocks := B.notSynchronized
  have hS : va_S (dkA z) s.heap s.heap [] := va_S.rf
  have hF : dkF [] I0 I0 := dkF_rf _ _
  have hl := lv_entry ([.ref (z + 340), .int p0]) (n := 2) (Nat.le_of_ble_eq_true rfl)
  have hgo : entryFrame m args 2 = entryFrame m ([.ref (z + 340), .int p0] : List Value).toArray 2 := by rw [ha]
  rw [hgo, lg_entry_eq]
  generalize (lg_sl ([.ref (z + 340), .int p0]) ++ List.replicate (2 - (lg_sl ([.ref (z + 340), .int p0])).length) Slot.unset).toArray = ls at hl ⊢
  have hl : lv_has ls 2 [(0, .ref (z + 340)), (1, .int p0)] := hl
  refine lv_iload_n hx hb dX6_drop_0 rfl (lv_at hl 1 rfl) ?_
  refine dk_Si (As := [.int p0]) (rest := []) ⟨hx, hb, hml, hown, hts⟩ (c_X6_isRow_0 l g z I0 p0 dp0) (va_cwS 1 hts gX6_drop_X6_isRow rfl rfl rfl (by decide +kernel) ⟨Nat.le_of_ble_eq_true rfl, Nat.le_of_ble_eq_true rfl⟩) hK hW hS rfl hl.1 rfl (Nat.le_of_ble_eq_true rfl) dX6_drop_1 ⟨Nat.zero_le _, Nat.zero_le _⟩ (fun v1 I1 H1 L1 hp1 hW hS => ?_)
  obtain ⟨dv1, hF1, -⟩ := hp1
  have hF := dkF_call hF hF1 rfl
  refine lv_if_ne (tgt := 10) hx hb dX6_drop_4 (by decide) (fun c2 => ?_) (fun c2 => ?_)
  ·
    exact (dkN_nil (show dkN [] v1 from dkN_ne1 (0) dv1 (dkN_lit (x := 0) (0) rfl) (dk_ne c2) rfl)).elim
  ·
    refine lv_ldc (v := (-1000001)) hx hb hown (hts (.constant RX6 64 (-1000001)) (List.mem_of_getElem? (i := 1) rfl)) dX6_drop_7 ?_
    exact W.iret (v := (-1000001)) hx hb hr (fun t ht hW9 => ⟨⟨(-1000001), I1, rfl, ⟨dkN_sub (dkN_lit (x := -1000001) (-1000001) rfl) rfl, hF, trivial⟩, dkW_eq ht hW⟩, hS.F ht⟩) hS.2.2 dX6_drop_9
set_option maxHeartbeats 4000000 in
set_option maxRecDepth 100000 in
theorem c_X5_drop_1 (l : Launch) (g : dkG) (z : Nat) (I0 : dkI) (p0 : Int32) (dp0 : dkN [(0, 7)] p0) (n11_s : ∀ j, dkN [(-1, -1)] (I0 11 j)) : Met l yX5_drop wsX5_drop (dkR 2) (dkPc g z [.ref (z + 0), .int p0] I0) (dkQi g z (fun r I1 => dkN [(-1000011, -1000011)] r ∧ dkF [(0, 0, some 3)] I0 I1 ∧ dkN [(1, 1)] (I1 0 3) ∧ True)) 0 0 (dkA z) := by
  refine Met.ofW (cc := cX5_drop) (maxL := 3) (ret := (some .int)) (by decide) rfl ?_
  intro p e s m args below meth c s₁ B hml hv
  obtain ⟨ha, hW, hK⟩ := hv
  have hx := B.exec
  have hb := B.bytes
  have hr := B.returns
  have hts := atoms_spec (ws := wsX5_drop) B.pre
  have hown : s.vm.findClass RX5 = some m.cls := findClass_of_methodNamed B.named
  have hlocks := B.notSynchronized
  have hS : va_S (dkA z) s.heap s.heap [] := va_S.rf
  have hF : dkF [(0, 0, some 3)] I0 I0 := dkF_rf _ _
  have hl := lv_entry ([.ref (z + 0), .int p0]) (n := 3) (Nat.le_of_ble_eq_true rfl)
  have hgo : entryFrame m args 3 = entryFrame m ([.ref (z + 0), .int p0] : List Value).toArray 3 := by rw [ha]
  rw [hgo, lg_entry_eq]
  generalize (lg_sl ([.ref (z + 0), .int p0]) ++ List.replicate (3 - (lg_sl ([.ref (z + 0), .int p0])).length) Slot.unset).toArray = ls at hl ⊢
  have hl : lv_has ls 3 [(0, .ref (z + 0)), (1, .int p0)] := hl
  refine lv_iload_n hx hb dX5_drop_0 rfl (lv_at hl 1 rfl) ?_
  refine dk_Si (As := [.int p0]) (rest := []) ⟨hx, hb, hml, hown, hts⟩ (c_X5_isRow_1 l g z I0 p0 dp0) (va_cwS 1 hts gX5_drop_X5_isRow rfl rfl rfl (by decide +kernel) ⟨Nat.le_of_ble_eq_true rfl, Nat.le_of_ble_eq_true rfl⟩) hK hW hS rfl hl.1 rfl (Nat.le_of_ble_eq_true rfl) dX5_drop_1 ⟨Nat.zero_le _, Nat.zero_le _⟩ (fun v1 I1 H1 L1 hp1 hW hS => ?_)
  obtain ⟨dv1, hF1, -⟩ := hp1
  have hF := dkF_call hF hF1 rfl
  refine lv_if_ne (tgt := 10) hx hb dX5_drop_4 (by decide) (fun c2 => ?_) (fun c2 => ?_)
  ·
    refine lv_aload_n hx hb dX5_drop_10 rfl (lv_at hl 0 rfl) ?_
    refine lv_iload_n hx hb dX5_drop_11 rfl (lv_at hl 1 rfl) ?_
    refine dk_Vi (As := [.int p0]) (rest := []) ⟨hx, hb, hml, hown, hts⟩ (c_X5_isMissing_0 l g z I1 p0 dp0 (fun j => by rw [hF1 11 _ rfl]; exact n11_s j)) (cwV 1 hts gX5_drop_X5_isMissing rfl rfl rfl (by decide +kernel) ⟨Nat.le_of_ble_eq_true rfl, Nat.le_of_ble_eq_true rfl⟩) (dk_at0 hW) rfl hK hW hS rfl hl.1 rfl (Nat.le_of_ble_eq_true rfl) dX5_drop_12 ⟨Nat.zero_le _, Nat.zero_le _⟩ (fun v3 I3 H3 L3 hp3 hW hS => ?_)
    obtain ⟨dv3, hF3, -⟩ := hp3
    have hF := dkF_call hF hF3 rfl
    refine lv_if_eq (tgt := 24) hx hb dX5_drop_15 (by decide) (fun c4 => ?_) (fun c4 => ?_)
    ·
      exact (dkN_nil (show dkN [] v3 from dkN_eq1 dv3 (dkN_lit (x := 0) (0) rfl) (congrArg Int32.toInt c4) rfl)).elim
    ·
      refine lv_aload_n hx hb dX5_drop_18 rfl (lv_at hl 0 rfl) ?_
      refine lv_iconst (v := 1) hx hb dX5_drop_19 (by decide) ?_
      refine dk_Vi (As := [.int 1]) (rest := []) ⟨hx, hb, hml, hown, hts⟩ (c_X5_found_1 l g z I3 1 (dkN_lit (x := 1) (1) rfl)) (cwV 1 hts gX5_drop_X5_found rfl rfl rfl (by decide +kernel) ⟨Nat.le_of_ble_eq_true rfl, Nat.le_of_ble_eq_true rfl⟩) (dk_at0 hW) rfl hK hW hS rfl hl.1 rfl (Nat.le_of_ble_eq_true rfl) dX5_drop_20 ⟨Nat.zero_le _, Nat.zero_le _⟩ (fun v5 I5 H5 L5 hp5 hW hS => ?_)
      obtain ⟨dv5, hF5, f5_0_3, -⟩ := hp5
      have hF := dkF_call hF hF5 rfl
      exact W.iret (v := v5) hx hb hr (fun t ht hW9 => ⟨⟨v5, I5, rfl, ⟨dkN_sub dv5 rfl, hF, dkN_sub f5_0_3 rfl, trivial⟩, dkW_eq ht hW⟩, hS.F ht⟩) hS.2.2 dX5_drop_23
  ·
    exact (dkN_nil (show dkN [] v1 from dkN_eq1 dv1 (dkN_lit (x := 0) (0) rfl) (congrArg Int32.toInt c2) rfl)).elim
set_option maxHeartbeats 4000000 in
set_option maxRecDepth 100000 in
theorem c_X6_drop_1 (l : Launch) (g : dkG) (z : Nat) (I0 : dkI) (p0 : Int32) (dp0 : dkN [(0, 7)] p0) (n341_s : ∀ j, dkN [(-1000000, -1000000)] (I0 341 j)) : Met l yX6_drop wsX6_drop (dkR 2) (dkPc g z [.ref (z + 340), .int p0] I0) (dkQi g z (fun r I1 => dkN [(-1000011, -1000011)] r ∧ dkF [(340, 340, some 4)] I0 I1 ∧ dkN [(1, 1)] (I1 340 4) ∧ True)) 0 0 (dkA z) := by
  refine Met.ofW (cc := cX6_drop) (maxL := 2) (ret := (some .int)) (by decide) rfl ?_
  intro p e s m args below meth c s₁ B hml hv
  obtain ⟨ha, hW, hK⟩ := hv
  have hx := B.exec
  have hb := B.bytes
  have hr := B.returns
  have hts := atoms_spec (ws := wsX6_drop) B.pre
  have hown : s.vm.findClass RX6 = some m.cls := findClass_of_methodNamed B.named
  have hlocks := B.notSynchronized
  have hS : va_S (dkA z) s.heap s.heap [] := va_S.rf
  have hF : dkF [(340, 340, some 4)] I0 I0 := dkF_rf _ _
  have hl := lv_entry ([.ref (z + 340), .int p0]) (n := 2) (Nat.le_of_ble_eq_true rfl)
  have hgo : entryFrame m args 2 = entryFrame m ([.ref (z + 340), .int p0] : List Value).toArray 2 := by rw [ha]
  rw [hgo, lg_entry_eq]
  generalize (lg_sl ([.ref (z + 340), .int p0]) ++ List.replicate (2 - (lg_sl ([.ref (z + 340), .int p0])).length) Slot.unset).toArray = ls at hl ⊢
  have hl : lv_has ls 2 [(0, .ref (z + 340)), (1, .int p0)] := hl
  refine lv_iload_n hx hb dX6_drop_0 rfl (lv_at hl 1 rfl) ?_
  refine dk_Si (As := [.int p0]) (rest := []) ⟨hx, hb, hml, hown, hts⟩ (c_X6_isRow_1 l g z I0 p0 dp0) (va_cwS 1 hts gX6_drop_X6_isRow rfl rfl rfl (by decide +kernel) ⟨Nat.le_of_ble_eq_true rfl, Nat.le_of_ble_eq_true rfl⟩) hK hW hS rfl hl.1 rfl (Nat.le_of_ble_eq_true rfl) dX6_drop_1 ⟨Nat.zero_le _, Nat.zero_le _⟩ (fun v1 I1 H1 L1 hp1 hW hS => ?_)
  obtain ⟨dv1, hF1, -⟩ := hp1
  have hF := dkF_call hF hF1 rfl
  refine lv_if_ne (tgt := 10) hx hb dX6_drop_4 (by decide) (fun c2 => ?_) (fun c2 => ?_)
  ·
    refine lv_aload_n hx hb dX6_drop_10 rfl (lv_at hl 0 rfl) ?_
    refine lv_iload_n hx hb dX6_drop_11 rfl (lv_at hl 1 rfl) ?_
    refine dk_Vi (As := [.int p0]) (rest := []) ⟨hx, hb, hml, hown, hts⟩ (c_X6_isMissing_0 l g z I1 p0 dp0 (fun j => by rw [hF1 341 _ rfl]; exact n341_s j)) (cwV 1 hts gX6_drop_X6_isMissing rfl rfl rfl (by decide +kernel) ⟨Nat.le_of_ble_eq_true rfl, Nat.le_of_ble_eq_true rfl⟩) (dk_at340 hW) rfl hK hW hS rfl hl.1 rfl (Nat.le_of_ble_eq_true rfl) dX6_drop_12 ⟨Nat.zero_le _, Nat.zero_le _⟩ (fun v3 I3 H3 L3 hp3 hW hS => ?_)
    obtain ⟨dv3, hF3, -⟩ := hp3
    have hF := dkF_call hF hF3 rfl
    refine lv_if_eq (tgt := 24) hx hb dX6_drop_15 (by decide) (fun c4 => ?_) (fun c4 => ?_)
    ·
      exact (dkN_nil (show dkN [] v3 from dkN_eq1 dv3 (dkN_lit (x := 0) (0) rfl) (congrArg Int32.toInt c4) rfl)).elim
    ·
      refine lv_aload_n hx hb dX6_drop_18 rfl (lv_at hl 0 rfl) ?_
      refine lv_iconst (v := 1) hx hb dX6_drop_19 (by decide) ?_
      refine dk_Vi (As := [.int 1]) (rest := []) ⟨hx, hb, hml, hown, hts⟩ (c_X6_found_1 l g z I3 1 (dkN_lit (x := 1) (1) rfl)) (cwV 1 hts gX6_drop_X6_found rfl rfl rfl (by decide +kernel) ⟨Nat.le_of_ble_eq_true rfl, Nat.le_of_ble_eq_true rfl⟩) (dk_at340 hW) rfl hK hW hS rfl hl.1 rfl (Nat.le_of_ble_eq_true rfl) dX6_drop_20 ⟨Nat.zero_le _, Nat.zero_le _⟩ (fun v5 I5 H5 L5 hp5 hW hS => ?_)
      obtain ⟨dv5, hF5, f5_340_4, -⟩ := hp5
      have hF := dkF_call hF hF5 rfl
      exact W.iret (v := v5) hx hb hr (fun t ht hW9 => ⟨⟨v5, I5, rfl, ⟨dkN_sub dv5 rfl, hF, dkN_sub f5_340_4 rfl, trivial⟩, dkW_eq ht hW⟩, hS.F ht⟩) hS.2.2 dX6_drop_23
  ·
    exact (dkN_nil (show dkN [] v1 from dkN_eq1 dv1 (dkN_lit (x := 0) (0) rfl) (congrArg Int32.toInt c2) rfl)).elim
set_option maxHeartbeats 4000000 in
set_option maxRecDepth 100000 in
theorem c_X5_isUpTo_12 (l : Launch) (g : dkG) (z : Nat) (I0 : dkI) (p0 p1 : Int32) (dp0 : dkN [(-2147483648, -1), (256, 2147483647)] p0) (dp1 : dkN [(255, 255)] p1) : Met l yX5_isUpTo wsX5_isUpTo (dkR 0) (dkPc g z [.int p0, .int p1] I0) (dkQi g z (fun r I1 => dkN [(0, 0)] r ∧ dkF [] I0 I1 ∧ True)) 0 0 (dkA z) := by
  refine Met.ofW (cc := cX5_isUpTo) (maxL := 2) (ret := (some .boolean)) (by decide) rfl ?_
  intro p e s m args below meth c s₁ B hml hv
  obtain ⟨ha, hW, hK⟩ := hv
  have hx := B.exec
  have hb := B.bytes
  have hr := B.returns
  have hts := atoms_spec (ws := wsX5_isUpTo) B.pre
  have hown : s.vm.findClass RX5 = some m.cls := findClass_of_methodNamed B.named
  have hlocks := B.notSynchronized
  have hS : va_S (dkA z) s.heap s.heap [] := va_S.rf
  have hF : dkF [] I0 I0 := dkF_rf _ _
  have hl := lv_entry ([.int p0, .int p1]) (n := 2) (Nat.le_of_ble_eq_true rfl)
  have hgo : entryFrame m args 2 = entryFrame m ([.int p0, .int p1] : List Value).toArray 2 := by rw [ha]
  rw [hgo, lg_entry_eq]
  generalize (lg_sl ([.int p0, .int p1]) ++ List.replicate (2 - (lg_sl ([.int p0, .int p1])).length) Slot.unset).toArray = ls at hl ⊢
  have hl : lv_has ls 2 [(0, .int p0), (1, .int p1)] := hl
  refine lv_iload_n hx hb dX5_isUpTo_0 rfl (lv_at hl 0 rfl) ?_
  refine lv_if_lt (tgt := 13) hx hb dX5_isUpTo_1 (by decide) (fun c1 => ?_) (fun c1 => ?_)
  ·
    have d2 : dkN [(-2147483648, -1)] p0 := dkN_le1 1 dp0 (dkN_lit (x := 0) (0) rfl) (dkc_lt c1) rfl
    refine lv_iconst (v := 0) hx hb dX5_isUpTo_13 (by decide) ?_
    exact W.zret (v := 0) (ty := .boolean) hx hb hr rfl (fun t ht hW9 => ⟨⟨0, I0, rfl, ⟨dkN_sub (dkN_lit (x := 0) (0) rfl) rfl, hF, trivial⟩, dkW_eq ht hW⟩, hS.F ht⟩) hS.2.2 dX5_isUpTo_14
  ·
    have d3 : dkN [(256, 2147483647)] p0 := dkN_le2 0 (dkN_lit (x := 0) (0) rfl) dp0 (dkc_nlt c1) rfl
    refine lv_iload_n hx hb dX5_isUpTo_4 rfl (lv_at hl 0 rfl) ?_
    refine lv_iload_n hx hb dX5_isUpTo_5 rfl (lv_at hl 1 rfl) ?_
    refine lv_icmp_gt (tgt := 13) hx hb dX5_isUpTo_6 (by decide) (fun c4 => ?_) (fun c4 => ?_)
    ·
      refine lv_iconst (v := 0) hx hb dX5_isUpTo_13 (by decide) ?_
      exact W.zret (v := 0) (ty := .boolean) hx hb hr rfl (fun t ht hW9 => ⟨⟨0, I0, rfl, ⟨dkN_sub (dkN_lit (x := 0) (0) rfl) rfl, hF, trivial⟩, dkW_eq ht hW⟩, hS.F ht⟩) hS.2.2 dX5_isUpTo_14
    ·
      exact (dkN_nil (show dkN [] p1 from dkN_le2 0 d3 dp1 (dkc_nlt c4) rfl)).elim
set_option maxHeartbeats 4000000 in
set_option maxRecDepth 100000 in
theorem c_X5_feed_0 (l : Launch) (g : dkG) (z : Nat) (I0 : dkI) (p0 : Int32) (dp0 : dkN [(-2147483648, -1), (256, 2147483647)] p0) : Met l yX5_feed wsX5_feed (dkR 1) (dkPc g z [.ref (z + 0), .int p0] I0) (dkQi g z (fun r I1 => dkN [(-1000001, -1000001)] r ∧ dkF [] I0 I1 ∧ True)) 0 0 (dkA z) := by
  refine Met.ofW (cc := cX5_feed) (maxL := 2) (ret := (some .int)) (by decide) rfl ?_
  intro p e s m args below meth c s₁ B hml hv
  obtain ⟨ha, hW, hK⟩ := hv
  have hx := B.exec
  have hb := B.bytes
  have hr := B.returns
  have hts := atoms_spec (ws := wsX5_feed) B.pre
  have hown : s.vm.findClass RX5 = some m.cls := findClass_of_methodNamed B.named
  have hlocks := B.notSynchronized
  have hS : va_S (dkA z) s.heap s.heap [] := va_S.rf
  have hF : dkF [] I0 I0 := dkF_rf _ _
  have hl := lv_entry ([.ref (z + 0), .int p0]) (n := 2) (Nat.le_of_ble_eq_true rfl)
  have hgo : entryFrame m args 2 = entryFrame m ([.ref (z + 0), .int p0] : List Value).toArray 2 := by rw [ha]
  rw [hgo, lg_entry_eq]
  generalize (lg_sl ([.ref (z + 0), .int p0]) ++ List.replicate (2 - (lg_sl ([.ref (z + 0), .int p0])).length) Slot.unset).toArray = ls at hl ⊢
  have hl : lv_has ls 2 [(0, .ref (z + 0)), (1, .int p0)] := hl
  refine lv_iload_n hx hb dX5_feed_0 rfl (lv_at hl 1 rfl) ?_
  refine lv_sipush (v := 255) hx hb dX5_feed_1 (by decide) ?_
  refine dk_Si (As := [.int p0, .int 255]) (rest := []) ⟨hx, hb, hml, hown, hts⟩ (c_X5_isUpTo_12 l g z I0 p0 255 dp0 (dkN_lit (x := 255) (255) rfl)) (va_cwS 2 hts gX5_feed_X5_isUpTo rfl rfl rfl (by decide +kernel) ⟨Nat.le_of_ble_eq_true rfl, Nat.le_of_ble_eq_true rfl⟩) hK hW hS rfl hl.1 rfl (Nat.le_of_ble_eq_true rfl) dX5_feed_4 ⟨Nat.zero_le _, Nat.zero_le _⟩ (fun v1 I1 H1 L1 hp1 hW hS => ?_)
  obtain ⟨dv1, hF1, -⟩ := hp1
  have hF := dkF_call hF hF1 rfl
  refine lv_if_ne (tgt := 13) hx hb dX5_feed_7 (by decide) (fun c2 => ?_) (fun c2 => ?_)
  ·
    exact (dkN_nil (show dkN [] v1 from dkN_ne1 (0) dv1 (dkN_lit (x := 0) (0) rfl) (dk_ne c2) rfl)).elim
  ·
    refine lv_ldc (v := (-1000001)) hx hb hown (hts (.constant RX5 70 (-1000001)) (List.mem_of_getElem? (i := 1) rfl)) dX5_feed_10 ?_
    exact W.iret (v := (-1000001)) hx hb hr (fun t ht hW9 => ⟨⟨(-1000001), I1, rfl, ⟨dkN_sub (dkN_lit (x := -1000001) (-1000001) rfl) rfl, hF, trivial⟩, dkW_eq ht hW⟩, hS.F ht⟩) hS.2.2 dX5_feed_12
set_option maxHeartbeats 4000000 in
set_option maxRecDepth 100000 in
theorem c_X6_in_12 (l : Launch) (g : dkG) (z : Nat) (I0 : dkI) (p0 p1 p2 : Int32) (dp0 : dkN [(-2147483648, -1), (256, 2147483647)] p0) (dp1 : dkN [(0, 0)] p1) (dp2 : dkN [(255, 255)] p2) : Met l yX6_in wsX6_in (dkR 0) (dkPc g z [.int p0, .int p1, .int p2] I0) (dkQi g z (fun r I1 => dkN [(0, 0)] r ∧ dkF [] I0 I1 ∧ True)) 0 0 (dkA z) := by
  refine Met.ofW (cc := cX6_in) (maxL := 3) (ret := (some .boolean)) (by decide) rfl ?_
  intro p e s m args below meth c s₁ B hml hv
  obtain ⟨ha, hW, hK⟩ := hv
  have hx := B.exec
  have hb := B.bytes
  have hr := B.returns
  have hts := atoms_spec (ws := wsX6_in) B.pre
  have hown : s.vm.findClass RX6 = some m.cls := findClass_of_methodNamed B.named
  have hlocks := B.notSynchronized
  have hS : va_S (dkA z) s.heap s.heap [] := va_S.rf
  have hF : dkF [] I0 I0 := dkF_rf _ _
  have hl := lv_entry ([.int p0, .int p1, .int p2]) (n := 3) (Nat.le_of_ble_eq_true rfl)
  have hgo : entryFrame m args 3 = entryFrame m ([.int p0, .int p1, .int p2] : List Value).toArray 3 := by rw [ha]
  rw [hgo, lg_entry_eq]
  generalize (lg_sl ([.int p0, .int p1, .int p2]) ++ List.replicate (3 - (lg_sl ([.int p0, .int p1, .int p2])).length) Slot.unset).toArray = ls at hl ⊢
  have hl : lv_has ls 3 [(0, .int p0), (1, .int p1), (2, .int p2)] := hl
  refine lv_iload_n hx hb dX6_in_0 rfl (lv_at hl 0 rfl) ?_
  refine lv_iload_n hx hb dX6_in_1 rfl (lv_at hl 1 rfl) ?_
  refine lv_icmp_lt (tgt := 14) hx hb dX6_in_2 (by decide) (fun c1 => ?_) (fun c1 => ?_)
  ·
    have d2 : dkN [(-2147483648, -1)] p0 := dkN_le1 1 dp0 dp1 (dkc_lt c1) rfl
    refine lv_iconst (v := 0) hx hb dX6_in_14 (by decide) ?_
    exact W.zret (v := 0) (ty := .boolean) hx hb hr rfl (fun t ht hW9 => ⟨⟨0, I0, rfl, ⟨dkN_sub (dkN_lit (x := 0) (0) rfl) rfl, hF, trivial⟩, dkW_eq ht hW⟩, hS.F ht⟩) hS.2.2 dX6_in_15
  ·
    have d3 : dkN [(256, 2147483647)] p0 := dkN_le2 0 dp1 dp0 (dkc_nlt c1) rfl
    refine lv_iload_n hx hb dX6_in_5 rfl (lv_at hl 0 rfl) ?_
    refine lv_iload_n hx hb dX6_in_6 rfl (lv_at hl 2 rfl) ?_
    refine lv_icmp_gt (tgt := 14) hx hb dX6_in_7 (by decide) (fun c4 => ?_) (fun c4 => ?_)
    ·
      refine lv_iconst (v := 0) hx hb dX6_in_14 (by decide) ?_
      exact W.zret (v := 0) (ty := .boolean) hx hb hr rfl (fun t ht hW9 => ⟨⟨0, I0, rfl, ⟨dkN_sub (dkN_lit (x := 0) (0) rfl) rfl, hF, trivial⟩, dkW_eq ht hW⟩, hS.F ht⟩) hS.2.2 dX6_in_15
    ·
      exact (dkN_nil (show dkN [] p2 from dkN_le2 0 d3 dp2 (dkc_nlt c4) rfl)).elim
set_option maxHeartbeats 4000000 in
set_option maxRecDepth 100000 in
theorem c_X6_feed_0 (l : Launch) (g : dkG) (z : Nat) (I0 : dkI) (p0 : Int32) (dp0 : dkN [(-2147483648, -1), (256, 2147483647)] p0) : Met l yX6_feed wsX6_feed (dkR 1) (dkPc g z [.ref (z + 340), .int p0] I0) (dkQi g z (fun r I1 => dkN [(-1000001, -1000001)] r ∧ dkF [] I0 I1 ∧ True)) 0 0 (dkA z) := by
  refine Met.ofW (cc := cX6_feed) (maxL := 2) (ret := (some .int)) (by decide) rfl ?_
  intro p e s m args below meth c s₁ B hml hv
  obtain ⟨ha, hW, hK⟩ := hv
  have hx := B.exec
  have hb := B.bytes
  have hr := B.returns
  have hts := atoms_spec (ws := wsX6_feed) B.pre
  have hown : s.vm.findClass RX6 = some m.cls := findClass_of_methodNamed B.named
  have hlocks := B.notSynchronized
  have hS : va_S (dkA z) s.heap s.heap [] := va_S.rf
  have hF : dkF [] I0 I0 := dkF_rf _ _
  have hl := lv_entry ([.ref (z + 340), .int p0]) (n := 2) (Nat.le_of_ble_eq_true rfl)
  have hgo : entryFrame m args 2 = entryFrame m ([.ref (z + 340), .int p0] : List Value).toArray 2 := by rw [ha]
  rw [hgo, lg_entry_eq]
  generalize (lg_sl ([.ref (z + 340), .int p0]) ++ List.replicate (2 - (lg_sl ([.ref (z + 340), .int p0])).length) Slot.unset).toArray = ls at hl ⊢
  have hl : lv_has ls 2 [(0, .ref (z + 340)), (1, .int p0)] := hl
  refine lv_iload_n hx hb dX6_feed_0 rfl (lv_at hl 1 rfl) ?_
  refine lv_iconst (v := 0) hx hb dX6_feed_1 (by decide) ?_
  refine lv_sipush (v := 255) hx hb dX6_feed_2 (by decide) ?_
  refine dk_Si (As := [.int p0, .int 0, .int 255]) (rest := []) ⟨hx, hb, hml, hown, hts⟩ (c_X6_in_12 l g z I0 p0 0 255 dp0 (dkN_lit (x := 0) (0) rfl) (dkN_lit (x := 255) (255) rfl)) (va_cwS 3 hts gX6_feed_X6_in rfl rfl rfl (by decide +kernel) ⟨Nat.le_of_ble_eq_true rfl, Nat.le_of_ble_eq_true rfl⟩) hK hW hS rfl hl.1 rfl (Nat.le_of_ble_eq_true rfl) dX6_feed_5 ⟨Nat.zero_le _, Nat.zero_le _⟩ (fun v1 I1 H1 L1 hp1 hW hS => ?_)
  obtain ⟨dv1, hF1, -⟩ := hp1
  have hF := dkF_call hF hF1 rfl
  refine lv_if_ne (tgt := 14) hx hb dX6_feed_8 (by decide) (fun c2 => ?_) (fun c2 => ?_)
  ·
    exact (dkN_nil (show dkN [] v1 from dkN_ne1 (0) dv1 (dkN_lit (x := 0) (0) rfl) (dk_ne c2) rfl)).elim
  ·
    refine lv_ldc (v := (-1000001)) hx hb hown (hts (.constant RX6 64 (-1000001)) (List.mem_of_getElem? (i := 1) rfl)) dX6_feed_11 ?_
    exact W.iret (v := (-1000001)) hx hb hr (fun t ht hW9 => ⟨⟨(-1000001), I1, rfl, ⟨dkN_sub (dkN_lit (x := -1000001) (-1000001) rfl) rfl, hF, trivial⟩, dkW_eq ht hW⟩, hS.F ht⟩) hS.2.2 dX6_feed_13
set_option maxHeartbeats 4000000 in
set_option maxRecDepth 100000 in
theorem c_X5_isUpTo_13 (l : Launch) (g : dkG) (z : Nat) (I0 : dkI) (p0 p1 : Int32) (dp0 : dkN [(0, 255)] p0) (dp1 : dkN [(255, 255)] p1) : Met l yX5_isUpTo wsX5_isUpTo (dkR 0) (dkPc g z [.int p0, .int p1] I0) (dkQi g z (fun r I1 => dkN [(1, 1)] r ∧ dkF [] I0 I1 ∧ True)) 0 0 (dkA z) := by
  refine Met.ofW (cc := cX5_isUpTo) (maxL := 2) (ret := (some .boolean)) (by decide) rfl ?_
  intro p e s m args below meth c s₁ B hml hv
  obtain ⟨ha, hW, hK⟩ := hv
  have hx := B.exec
  have hb := B.bytes
  have hr := B.returns
  have hts := atoms_spec (ws := wsX5_isUpTo) B.pre
  have hown : s.vm.findClass RX5 = some m.cls := findClass_of_methodNamed B.named
  have hlocks := B.notSynchronized
  have hS : va_S (dkA z) s.heap s.heap [] := va_S.rf
  have hF : dkF [] I0 I0 := dkF_rf _ _
  have hl := lv_entry ([.int p0, .int p1]) (n := 2) (Nat.le_of_ble_eq_true rfl)
  have hgo : entryFrame m args 2 = entryFrame m ([.int p0, .int p1] : List Value).toArray 2 := by rw [ha]
  rw [hgo, lg_entry_eq]
  generalize (lg_sl ([.int p0, .int p1]) ++ List.replicate (2 - (lg_sl ([.int p0, .int p1])).length) Slot.unset).toArray = ls at hl ⊢
  have hl : lv_has ls 2 [(0, .int p0), (1, .int p1)] := hl
  refine lv_iload_n hx hb dX5_isUpTo_0 rfl (lv_at hl 0 rfl) ?_
  refine lv_if_lt (tgt := 13) hx hb dX5_isUpTo_1 (by decide) (fun c1 => ?_) (fun c1 => ?_)
  ·
    exact (dkN_nil (show dkN [] p0 from dkN_le1 1 dp0 (dkN_lit (x := 0) (0) rfl) (dkc_lt c1) rfl)).elim
  ·
    refine lv_iload_n hx hb dX5_isUpTo_4 rfl (lv_at hl 0 rfl) ?_
    refine lv_iload_n hx hb dX5_isUpTo_5 rfl (lv_at hl 1 rfl) ?_
    refine lv_icmp_gt (tgt := 13) hx hb dX5_isUpTo_6 (by decide) (fun c2 => ?_) (fun c2 => ?_)
    ·
      exact (dkN_nil (show dkN [] p1 from dkN_le1 1 dp1 dp0 (dkc_lt c2) rfl)).elim
    ·
      refine lv_iconst (v := 1) hx hb dX5_isUpTo_9 (by decide) ?_
      refine lv_goto (tgt := 14) hx hb dX5_isUpTo_10 (by decide) ?_
      exact W.zret (v := 1) (ty := .boolean) hx hb hr rfl (fun t ht hW9 => ⟨⟨1, I0, rfl, ⟨dkN_sub (dkN_lit (x := 1) (1) rfl) rfl, hF, trivial⟩, dkW_eq ht hW⟩, hS.F ht⟩) hS.2.2 dX5_isUpTo_14
set_option maxHeartbeats 4000000 in
set_option maxRecDepth 100000 in
theorem c_X2_isFull_0 (l : Launch) (g : dkG) (z : Nat) (I0 : dkI) (n12_1 : dkN [(0, 0)] (I0 12 1)) : Met l yX2_isFull wsX2_isFull (dkR 0) (dkPc g z [.ref (z + 12)] I0) (dkQi g z (fun r I1 => dkN [(0, 0)] r ∧ dkF [] I0 I1 ∧ True)) 0 0 (dkA z) := by
  refine Met.ofW (cc := cX2_isFull) (maxL := 1) (ret := (some .boolean)) (by decide) rfl ?_
  intro p e s m args below meth c s₁ B hml hv
  obtain ⟨ha, hW, hK⟩ := hv
  have hx := B.exec
  have hb := B.bytes
  have hr := B.returns
  have hts := atoms_spec (ws := wsX2_isFull) B.pre
  have hown : s.vm.findClass RX2 = some m.cls := findClass_of_methodNamed B.named
  have hlocks := B.notSynchronized
  have hS : va_S (dkA z) s.heap s.heap [] := va_S.rf
  have hF : dkF [] I0 I0 := dkF_rf _ _
  have hl := lv_entry ([.ref (z + 12)]) (n := 1) (Nat.le_of_ble_eq_true rfl)
  have hgo : entryFrame m args 1 = entryFrame m ([.ref (z + 12)] : List Value).toArray 1 := by rw [ha]
  rw [hgo, lg_entry_eq]
  generalize (lg_sl ([.ref (z + 12)]) ++ List.replicate (1 - (lg_sl ([.ref (z + 12)])).length) Slot.unset).toArray = ls at hl ⊢
  have hl : lv_has ls 1 [(0, .ref (z + 12))] := hl
  refine lv_aload_n hx hb dX2_isFull_0 rfl (lv_at hl 0 rfl) ?_
  refine dk_get hx hb hts iX2_isFull_2 hown hK (dk_at12 hW) rfl 1 (by decide) (hts (.fieldLink RX2 22 "DogKings$Reader" "bytes" "I") (List.mem_of_getElem? (i := 1) rfl)) rfl dX2_isFull_1 ?_
  refine lv_topi (fun v1 ev1 => ?_)
  have dv1 : dkN [(0, 0)] v1 := by rw [ev1]; exact n12_1
  refine lv_bipush (v := 90) hx hb dX2_isFull_4 (by decide) ?_
  refine lv_icmp_lt (tgt := 13) hx hb dX2_isFull_6 (by decide) (fun c2 => ?_) (fun c2 => ?_)
  ·
    refine lv_iconst (v := 0) hx hb dX2_isFull_13 (by decide) ?_
    exact W.zret (v := 0) (ty := .boolean) hx hb hr rfl (fun t ht hW9 => ⟨⟨0, I0, rfl, ⟨dkN_sub (dkN_lit (x := 0) (0) rfl) rfl, hF, trivial⟩, dkW_eq ht hW⟩, hS.F ht⟩) hS.2.2 dX2_isFull_14
  ·
    exact (dkN_nil (show dkN [] v1 from dkN_le2 0 (dkN_lit (x := 90) (90) rfl) dv1 (dkc_nlt c2) rfl)).elim
set_option maxHeartbeats 4000000 in
set_option maxRecDepth 100000 in
theorem c_X2_append_0 (l : Launch) (g : dkG) (z : Nat) (I0 : dkI) (p0 : Int32) (dp0 : dkN [(0, 255)] p0) (n12_1 : dkN [(0, 0)] (I0 12 1)) : Met l yX2_append wsX2_append (dkR 1) (dkPc g z [.ref (z + 12), .int p0] I0) (dkQi g z (fun r I1 => dkN [(1, 1)] r ∧ dkF [(12, 12, some 1), (13, 13, none)] I0 I1 ∧ dkN [(1, 1)] (I1 12 1) ∧ True)) 0 0 (dkA z) := by
  refine Met.ofW (cc := cX2_append) (maxL := 2) (ret := (some .int)) (by decide) rfl ?_
  intro p e s m args below meth c s₁ B hml hv
  obtain ⟨ha, hW, hK⟩ := hv
  have hx := B.exec
  have hb := B.bytes
  have hr := B.returns
  have hts := atoms_spec (ws := wsX2_append) B.pre
  have hown : s.vm.findClass RX2 = some m.cls := findClass_of_methodNamed B.named
  have hlocks := B.notSynchronized
  have hS : va_S (dkA z) s.heap s.heap [] := va_S.rf
  have hF : dkF [(12, 12, some 1), (13, 13, none)] I0 I0 := dkF_rf _ _
  have hl := lv_entry ([.ref (z + 12), .int p0]) (n := 2) (Nat.le_of_ble_eq_true rfl)
  have hgo : entryFrame m args 2 = entryFrame m ([.ref (z + 12), .int p0] : List Value).toArray 2 := by rw [ha]
  rw [hgo, lg_entry_eq]
  generalize (lg_sl ([.ref (z + 12), .int p0]) ++ List.replicate (2 - (lg_sl ([.ref (z + 12), .int p0])).length) Slot.unset).toArray = ls at hl ⊢
  have hl : lv_has ls 2 [(0, .ref (z + 12)), (1, .int p0)] := hl
  refine lv_aload_n hx hb dX2_append_0 rfl (lv_at hl 0 rfl) ?_
  refine dk_Vi (As := []) (rest := []) ⟨hx, hb, hml, hown, hts⟩ (c_X2_isFull_0 l g z I0 n12_1) (cwV 0 hts gX2_append_X2_isFull rfl rfl rfl (by decide +kernel) ⟨Nat.le_of_ble_eq_true rfl, Nat.le_of_ble_eq_true rfl⟩) (dk_at12 hW) rfl hK hW hS rfl hl.1 rfl (Nat.le_of_ble_eq_true rfl) dX2_append_1 ⟨Nat.zero_le _, Nat.zero_le _⟩ (fun v1 I1 H1 L1 hp1 hW hS => ?_)
  obtain ⟨dv1, hF1, -⟩ := hp1
  have hF := dkF_call hF hF1 rfl
  refine lv_if_ne (tgt := 27) hx hb dX2_append_4 (by decide) (fun c2 => ?_) (fun c2 => ?_)
  ·
    exact (dkN_nil (show dkN [] v1 from dkN_ne1 (0) dv1 (dkN_lit (x := 0) (0) rfl) (dk_ne c2) rfl)).elim
  ·
    refine lv_aload_n hx hb dX2_append_7 rfl (lv_at hl 0 rfl) ?_
    refine dk_get hx hb hts iX2_append_2 hown hK (dk_at12 hW) rfl 0 (by decide) (hts (.fieldLink RX2 11 "DogKings$Reader" "tape" "[I") (List.mem_of_getElem? (i := 1) rfl)) rfl dX2_append_8 ?_
    refine lv_aload_n hx hb dX2_append_11 rfl (lv_at hl 0 rfl) ?_
    refine dk_get hx hb hts iX2_append_2 hown hK (dk_at12 hW) rfl 1 (by decide) (hts (.fieldLink RX2 22 "DogKings$Reader" "bytes" "I") (List.mem_of_getElem? (i := 2) rfl)) rfl dX2_append_12 ?_
    refine lv_topi (fun v3 ev3 => ?_)
    have dv3 : dkN [(0, 0)] v3 := by rw [ev3]; exact (by rw [hF1 12 1 rfl]; exact n12_1)
    refine lv_iload_n hx hb dX2_append_15 rfl (lv_at hl 1 rfl) ?_
    refine dk_ist hx hb hK hW (fun _ => rfl) (by decide) hS (dkN_in (n := 90) dv3 rfl) dX2_append_16 (fun I4 H4 L4 eI4 hW hS => ?_)
    have hF := dkF_set hF eI4 (dkIn_all rfl _)
    refine lv_aload_n hx hb dX2_append_17 rfl (lv_at hl 0 rfl) ?_
    refine lv_dup hx hb dX2_append_18 rfl ?_
    refine dk_get hx hb hts iX2_append_2 hown hK (dk_at12 hW) rfl 1 (by decide) (hts (.fieldLink RX2 22 "DogKings$Reader" "bytes" "I") (List.mem_of_getElem? (i := 2) rfl)) rfl dX2_append_19 ?_
    refine lv_topi (fun v5 ev5 => ?_)
    have dv5 : dkN [(0, 0)] v5 := by rw [ev5]; exact (by rw [eI4, dkU_n (by decide)]; exact (by rw [hF1 12 1 rfl]; exact n12_1))
    refine lv_iconst (v := 1) hx hb dX2_append_22 (by decide) ?_
    refine lv_iadd hx hb dX2_append_23 ?_
    refine lv_topi (fun v6 ev6 => ?_)
    have dv6 : dkN [(1, 1)] v6 := by rw [ev6]; exact dkN_add dv5 (dkN_lit (x := 1) (1) rfl) rfl
    refine dk_put hx hb hts iX2_append_2 tyX2 tyX2_ok nmX2 hown hK hW (dk_at12 hW) hS rfl 1 (by decide) (hts (.fieldLink RX2 22 "DogKings$Reader" "bytes" "I") (List.mem_of_getElem? (i := 2) rfl)) rfl rfl (Nat.le_of_ble_eq_true rfl) rfl dX2_append_24 (fun I7 H7 L7 eI7 hW hS => ?_)
    have eI7 : I7 = dkU I4 12 1 v6 := eI7
    have hF := dkF_set hF eI7 rfl
    refine lv_aload_n hx hb dX2_append_27 rfl (lv_at hl 0 rfl) ?_
    refine dk_get hx hb hts iX2_append_2 hown hK (dk_at12 hW) rfl 1 (by decide) (hts (.fieldLink RX2 22 "DogKings$Reader" "bytes" "I") (List.mem_of_getElem? (i := 2) rfl)) rfl dX2_append_28 ?_
    refine lv_topi (fun v8 ev8 => ?_)
    have dv8 : dkN [(1, 1)] v8 := by rw [ev8]; exact (by rw [eI7, dkU_ss]; exact dv6)
    exact W.iret (v := v8) hx hb hr (fun t ht hW9 => ⟨⟨v8, I7, rfl, ⟨dkN_sub dv8 rfl, hF, dkN_sub (by rw [eI7, dkU_ss]; exact dv6) rfl, trivial⟩, dkW_eq ht hW⟩, hS.F ht⟩) hS.2.2 dX2_append_31
set_option maxHeartbeats 4000000 in
set_option maxRecDepth 100000 in
theorem c_X5_feed_1 (l : Launch) (g : dkG) (z : Nat) (I0 : dkI) (p0 : Int32) (dp0 : dkN [(0, 255)] p0) (n12_1 : dkN [(0, 0)] (I0 12 1)) : Met l yX5_feed wsX5_feed (dkR 2) (dkPc g z [.ref (z + 0), .int p0] I0) (dkQi g z (fun r I1 => dkN [(1, 1)] r ∧ dkF [(12, 12, some 1), (13, 13, none)] I0 I1 ∧ dkN [(1, 1)] (I1 12 1) ∧ True)) 0 0 (dkA z) := by
  refine Met.ofW (cc := cX5_feed) (maxL := 2) (ret := (some .int)) (by decide) rfl ?_
  intro p e s m args below meth c s₁ B hml hv
  obtain ⟨ha, hW, hK⟩ := hv
  have hx := B.exec
  have hb := B.bytes
  have hr := B.returns
  have hts := atoms_spec (ws := wsX5_feed) B.pre
  have hown : s.vm.findClass RX5 = some m.cls := findClass_of_methodNamed B.named
  have hlocks := B.notSynchronized
  have hS : va_S (dkA z) s.heap s.heap [] := va_S.rf
  have hF : dkF [(12, 12, some 1), (13, 13, none)] I0 I0 := dkF_rf _ _
  have hl := lv_entry ([.ref (z + 0), .int p0]) (n := 2) (Nat.le_of_ble_eq_true rfl)
  have hgo : entryFrame m args 2 = entryFrame m ([.ref (z + 0), .int p0] : List Value).toArray 2 := by rw [ha]
  rw [hgo, lg_entry_eq]
  generalize (lg_sl ([.ref (z + 0), .int p0]) ++ List.replicate (2 - (lg_sl ([.ref (z + 0), .int p0])).length) Slot.unset).toArray = ls at hl ⊢
  have hl : lv_has ls 2 [(0, .ref (z + 0)), (1, .int p0)] := hl
  refine lv_iload_n hx hb dX5_feed_0 rfl (lv_at hl 1 rfl) ?_
  refine lv_sipush (v := 255) hx hb dX5_feed_1 (by decide) ?_
  refine dk_Si (As := [.int p0, .int 255]) (rest := []) ⟨hx, hb, hml, hown, hts⟩ (c_X5_isUpTo_13 l g z I0 p0 255 dp0 (dkN_lit (x := 255) (255) rfl)) (va_cwS 2 hts gX5_feed_X5_isUpTo rfl rfl rfl (by decide +kernel) ⟨Nat.le_of_ble_eq_true rfl, Nat.le_of_ble_eq_true rfl⟩) hK hW hS rfl hl.1 rfl (Nat.le_of_ble_eq_true rfl) dX5_feed_4 ⟨Nat.zero_le _, Nat.zero_le _⟩ (fun v1 I1 H1 L1 hp1 hW hS => ?_)
  obtain ⟨dv1, hF1, -⟩ := hp1
  have hF := dkF_call hF hF1 rfl
  refine lv_if_ne (tgt := 13) hx hb dX5_feed_7 (by decide) (fun c2 => ?_) (fun c2 => ?_)
  ·
    refine lv_aload_n hx hb dX5_feed_13 rfl (lv_at hl 0 rfl) ?_
    refine dk_get hx hb hts iX5_feed_5 hown hK (dk_at0 hW) rfl 4 (by decide) (hts (.fieldLink RX5 24 "DogKings" "reader" "LDogKings$Reader;") (List.mem_of_getElem? (i := 2) rfl)) rfl dX5_feed_14 ?_
    refine dk_Vi (As := []) (rest := []) ⟨hx, hb, hml, hown, hts⟩ (c_X2_isFull_0 l g z I1 (by rw [hF1 12 1 rfl]; exact n12_1)) (cwV 0 hts gX5_feed_X2_isFull rfl rfl rfl (by decide +kernel) ⟨Nat.le_of_ble_eq_true rfl, Nat.le_of_ble_eq_true rfl⟩) (dk_at12 hW) rfl hK hW hS rfl hl.1 rfl (Nat.le_of_ble_eq_true rfl) dX5_feed_17 ⟨Nat.zero_le _, Nat.zero_le _⟩ (fun v3 I3 H3 L3 hp3 hW hS => ?_)
    obtain ⟨dv3, hF3, -⟩ := hp3
    have hF := dkF_call hF hF3 rfl
    refine lv_if_eq (tgt := 28) hx hb dX5_feed_20 (by decide) (fun c4 => ?_) (fun c4 => ?_)
    ·
      refine lv_aload_n hx hb dX5_feed_28 rfl (lv_at hl 0 rfl) ?_
      refine dk_get hx hb hts iX5_feed_5 hown hK (dk_at0 hW) rfl 4 (by decide) (hts (.fieldLink RX5 24 "DogKings" "reader" "LDogKings$Reader;") (List.mem_of_getElem? (i := 2) rfl)) rfl dX5_feed_29 ?_
      refine lv_iload_n hx hb dX5_feed_32 rfl (lv_at hl 1 rfl) ?_
      refine dk_Vi (As := [.int p0]) (rest := []) ⟨hx, hb, hml, hown, hts⟩ (c_X2_append_0 l g z I3 p0 dp0 (by rw [hF3 12 1 rfl]; exact (by rw [hF1 12 1 rfl]; exact n12_1))) (cwV 1 hts gX5_feed_X2_append rfl rfl rfl (by decide +kernel) ⟨Nat.le_of_ble_eq_true rfl, Nat.le_of_ble_eq_true rfl⟩) (dk_at12 hW) rfl hK hW hS rfl hl.1 rfl (Nat.le_of_ble_eq_true rfl) dX5_feed_33 ⟨Nat.zero_le _, Nat.zero_le _⟩ (fun v5 I5 H5 L5 hp5 hW hS => ?_)
      obtain ⟨dv5, hF5, f5_12_1, -⟩ := hp5
      have hF := dkF_call hF hF5 rfl
      exact W.iret (v := v5) hx hb hr (fun t ht hW9 => ⟨⟨v5, I5, rfl, ⟨dkN_sub dv5 rfl, hF, dkN_sub f5_12_1 rfl, trivial⟩, dkW_eq ht hW⟩, hS.F ht⟩) hS.2.2 dX5_feed_36
    ·
      exact (dkN_nil (show dkN [] v3 from dkN_ne1 (0) dv3 (dkN_lit (x := 0) (0) rfl) (dk_ne c4) rfl)).elim
  ·
    exact (dkN_nil (show dkN [] v1 from dkN_eq1 dv1 (dkN_lit (x := 0) (0) rfl) (congrArg Int32.toInt c2) rfl)).elim
set_option maxHeartbeats 4000000 in
set_option maxRecDepth 100000 in
theorem c_X6_in_13 (l : Launch) (g : dkG) (z : Nat) (I0 : dkI) (p0 p1 p2 : Int32) (dp0 : dkN [(0, 255)] p0) (dp1 : dkN [(0, 0)] p1) (dp2 : dkN [(255, 255)] p2) : Met l yX6_in wsX6_in (dkR 0) (dkPc g z [.int p0, .int p1, .int p2] I0) (dkQi g z (fun r I1 => dkN [(1, 1)] r ∧ dkF [] I0 I1 ∧ True)) 0 0 (dkA z) := by
  refine Met.ofW (cc := cX6_in) (maxL := 3) (ret := (some .boolean)) (by decide) rfl ?_
  intro p e s m args below meth c s₁ B hml hv
  obtain ⟨ha, hW, hK⟩ := hv
  have hx := B.exec
  have hb := B.bytes
  have hr := B.returns
  have hts := atoms_spec (ws := wsX6_in) B.pre
  have hown : s.vm.findClass RX6 = some m.cls := findClass_of_methodNamed B.named
  have hlocks := B.notSynchronized
  have hS : va_S (dkA z) s.heap s.heap [] := va_S.rf
  have hF : dkF [] I0 I0 := dkF_rf _ _
  have hl := lv_entry ([.int p0, .int p1, .int p2]) (n := 3) (Nat.le_of_ble_eq_true rfl)
  have hgo : entryFrame m args 3 = entryFrame m ([.int p0, .int p1, .int p2] : List Value).toArray 3 := by rw [ha]
  rw [hgo, lg_entry_eq]
  generalize (lg_sl ([.int p0, .int p1, .int p2]) ++ List.replicate (3 - (lg_sl ([.int p0, .int p1, .int p2])).length) Slot.unset).toArray = ls at hl ⊢
  have hl : lv_has ls 3 [(0, .int p0), (1, .int p1), (2, .int p2)] := hl
  refine lv_iload_n hx hb dX6_in_0 rfl (lv_at hl 0 rfl) ?_
  refine lv_iload_n hx hb dX6_in_1 rfl (lv_at hl 1 rfl) ?_
  refine lv_icmp_lt (tgt := 14) hx hb dX6_in_2 (by decide) (fun c1 => ?_) (fun c1 => ?_)
  ·
    exact (dkN_nil (show dkN [] p0 from dkN_le1 1 dp0 dp1 (dkc_lt c1) rfl)).elim
  ·
    refine lv_iload_n hx hb dX6_in_5 rfl (lv_at hl 0 rfl) ?_
    refine lv_iload_n hx hb dX6_in_6 rfl (lv_at hl 2 rfl) ?_
    refine lv_icmp_gt (tgt := 14) hx hb dX6_in_7 (by decide) (fun c2 => ?_) (fun c2 => ?_)
    ·
      exact (dkN_nil (show dkN [] p2 from dkN_le1 1 dp2 dp0 (dkc_lt c2) rfl)).elim
    ·
      refine lv_iconst (v := 1) hx hb dX6_in_10 (by decide) ?_
      refine lv_goto (tgt := 15) hx hb dX6_in_11 (by decide) ?_
      exact W.zret (v := 1) (ty := .boolean) hx hb hr rfl (fun t ht hW9 => ⟨⟨1, I0, rfl, ⟨dkN_sub (dkN_lit (x := 1) (1) rfl) rfl, hF, trivial⟩, dkW_eq ht hW⟩, hS.F ht⟩) hS.2.2 dX6_in_15
