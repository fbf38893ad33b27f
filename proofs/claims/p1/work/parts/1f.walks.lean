set_option maxHeartbeats 4000000 in
set_option maxRecDepth 100000 in
theorem c_X6_feed_1 (l : Launch) (g : dkG) (z : Nat) (I0 : dkI) (p0 : Int32) (dp0 : dkN [(0, 255)] p0) (n340_6 : dkN [(0, 0)] (I0 340 6)) : Met l yX6_feed wsX6_feed (dkR 1) (dkPc g z [.ref (z + 340), .int p0] I0) (dkQi g z (fun r I1 => dkN [(1, 1)] r ∧ dkF [(340, 340, some 6), (345, 345, none)] I0 I1 ∧ dkN [(1, 1)] (I1 340 6) ∧ True)) 0 0 (dkA z) := by
  refine Met.ofW (cc := cX6_feed) (maxL := 2) (ret := (some .int)) (by decide) rfl ?_
  intro p e s m args below meth c s₁ B hml hv
  obtain ⟨ha, hW, hK⟩ := hv
  have hx := B.exec
  have hb := B.bytes
  have hr := B.returns
  have hts := atoms_spec (ws := wsX6_feed) B.pre
  have hown : s.vm.findClass RX6 = some m.cls := findClass_of_methodNamed B.named
  have hlocks := B.notSynchronized
  have hS : va_S (dkA z) s.heap s.heap [] := va_S.rf
  have hF : dkF [(340, 340, some 6), (345, 345, none)] I0 I0 := dkF_rf _ _
  have hl := lv_entry ([.ref (z + 340), .int p0]) (n := 2) (Nat.le_of_ble_eq_true rfl)
  have hgo : entryFrame m args 2 = entryFrame m ([.ref (z + 340), .int p0] : List Value).toArray 2 := by rw [ha]
  rw [hgo, lg_entry_eq]
  generalize (lg_sl ([.ref (z + 340), .int p0]) ++ List.replicate (2 - (lg_sl ([.ref (z + 340), .int p0])).length) Slot.unset).toArray = ls at hl ⊢
  have hl : lv_has ls 2 [(0, .ref (z + 340)), (1, .int p0)] := hl
  refine lv_iload_n hx hb dX6_feed_0 rfl (lv_at hl 1 rfl) ?_
  refine lv_iconst (v := 0) hx hb dX6_feed_1 (by decide) ?_
  refine lv_sipush (v := 255) hx hb dX6_feed_2 (by decide) ?_
  refine dk_Si (As := [.int p0, .int 0, .int 255]) (rest := []) ⟨hx, hb, hml, hown, hts⟩ (c_X6_in_13 l g z I0 p0 0 255 dp0 (dkN_lit (x := 0) (0) rfl) (dkN_lit (x := 255) (255) rfl)) (va_cwS 3 hts gX6_feed_X6_in rfl rfl rfl (by decide +kernel) ⟨Nat.le_of_ble_eq_true rfl, Nat.le_of_ble_eq_true rfl⟩) hK hW hS rfl hl.1 rfl (Nat.le_of_ble_eq_true rfl) dX6_feed_5 ⟨Nat.zero_le _, Nat.zero_le _⟩ (fun v1 I1 H1 L1 hp1 hW hS => ?_)
  obtain ⟨dv1, hF1, -⟩ := hp1
  have hF := dkF_call hF hF1 rfl
  refine lv_if_ne (tgt := 14) hx hb dX6_feed_8 (by decide) (fun c2 => ?_) (fun c2 => ?_)
  ·
    refine lv_aload_n hx hb dX6_feed_14 rfl (lv_at hl 0 rfl) ?_
    refine dk_get hx hb hts iX6_feed_6 hown hK (dk_at340 hW) rfl 6 (by decide) (hts (.fieldLink RX6 82 "DogKingsModel" "taped" "I") (List.mem_of_getElem? (i := 2) rfl)) rfl dX6_feed_15 ?_
    refine lv_topi (fun v3 ev3 => ?_)
    have dv3 : dkN [(0, 0)] v3 := by rw [ev3]; exact (by rw [hF1 340 6 rfl]; exact n340_6)
    refine lv_bipush (v := 90) hx hb dX6_feed_18 (by decide) ?_
    refine lv_icmp_ne (tgt := 26) hx hb dX6_feed_20 (by decide) (fun c4 => ?_) (fun c4 => ?_)
    ·
      refine lv_aload_n hx hb dX6_feed_26 rfl (lv_at hl 0 rfl) ?_
      refine dk_get hx hb hts iX6_feed_6 hown hK (dk_at340 hW) rfl 5 (by decide) (hts (.fieldLink RX6 22 "DogKingsModel" "tape" "[I") (List.mem_of_getElem? (i := 4) rfl)) rfl dX6_feed_27 ?_
      refine lv_aload_n hx hb dX6_feed_30 rfl (lv_at hl 0 rfl) ?_
      refine dk_get hx hb hts iX6_feed_6 hown hK (dk_at340 hW) rfl 6 (by decide) (hts (.fieldLink RX6 82 "DogKingsModel" "taped" "I") (List.mem_of_getElem? (i := 2) rfl)) rfl dX6_feed_31 ?_
      refine lv_topi (fun v5 ev5 => ?_)
      have dv5 : dkN [(0, 0)] v5 := by rw [ev5]; exact (by rw [hF1 340 6 rfl]; exact n340_6)
      refine lv_iload_n hx hb dX6_feed_34 rfl (lv_at hl 1 rfl) ?_
      refine dk_ist hx hb hK hW (fun _ => rfl) (by decide) hS (dkN_in (n := 90) dv5 rfl) dX6_feed_35 (fun I6 H6 L6 eI6 hW hS => ?_)
      have hF := dkF_set hF eI6 (dkIn_all rfl _)
      refine lv_aload_n hx hb dX6_feed_36 rfl (lv_at hl 0 rfl) ?_
      refine lv_dup hx hb dX6_feed_37 rfl ?_
      refine dk_get hx hb hts iX6_feed_6 hown hK (dk_at340 hW) rfl 6 (by decide) (hts (.fieldLink RX6 82 "DogKingsModel" "taped" "I") (List.mem_of_getElem? (i := 2) rfl)) rfl dX6_feed_38 ?_
      refine lv_topi (fun v7 ev7 => ?_)
      have dv7 : dkN [(0, 0)] v7 := by rw [ev7]; exact (by rw [eI6, dkU_n (by decide)]; exact (by rw [hF1 340 6 rfl]; exact n340_6))
      refine lv_iconst (v := 1) hx hb dX6_feed_41 (by decide) ?_
      refine lv_iadd hx hb dX6_feed_42 ?_
      refine lv_topi (fun v8 ev8 => ?_)
      have dv8 : dkN [(1, 1)] v8 := by rw [ev8]; exact dkN_add dv7 (dkN_lit (x := 1) (1) rfl) rfl
      refine dk_put hx hb hts iX6_feed_6 tyX6 tyX6_ok nmX6 hown hK hW (dk_at340 hW) hS rfl 6 (by decide) (hts (.fieldLink RX6 82 "DogKingsModel" "taped" "I") (List.mem_of_getElem? (i := 2) rfl)) rfl rfl (Nat.le_of_ble_eq_true rfl) rfl dX6_feed_43 (fun I9 H9 L9 eI9 hW hS => ?_)
      have eI9 : I9 = dkU I6 340 6 v8 := eI9
      have hF := dkF_set hF eI9 rfl
      refine lv_aload_n hx hb dX6_feed_46 rfl (lv_at hl 0 rfl) ?_
      refine dk_get hx hb hts iX6_feed_6 hown hK (dk_at340 hW) rfl 6 (by decide) (hts (.fieldLink RX6 82 "DogKingsModel" "taped" "I") (List.mem_of_getElem? (i := 2) rfl)) rfl dX6_feed_47 ?_
      refine lv_topi (fun v10 ev10 => ?_)
      have dv10 : dkN [(1, 1)] v10 := by rw [ev10]; exact (by rw [eI9, dkU_ss]; exact dv8)
      exact W.iret (v := v10) hx hb hr (fun t ht hW9 => ⟨⟨v10, I9, rfl, ⟨dkN_sub dv10 rfl, hF, dkN_sub (by rw [eI9, dkU_ss]; exact dv8) rfl, trivial⟩, dkW_eq ht hW⟩, hS.F ht⟩) hS.2.2 dX6_feed_50
    ·
      exact (dkN_nil (show dkN [] v3 from dkN_eq1 dv3 (dkN_lit (x := 90) (90) rfl) (congrArg Int32.toInt c4) rfl)).elim
  ·
    exact (dkN_nil (show dkN [] v1 from dkN_eq1 dv1 (dkN_lit (x := 0) (0) rfl) (congrArg Int32.toInt c2) rfl)).elim
set_option maxHeartbeats 4000000 in
set_option maxRecDepth 100000 in
theorem c_X2_coming_0 (l : Launch) (g : dkG) (z : Nat) (I0 : dkI) (n12_1 : dkN [(0, 0)] (I0 12 1)) (n12_2 : dkN [(0, 0)] (I0 12 2)) : Met l yX2_coming wsX2_coming (dkR 0) (dkPc g z [.ref (z + 12)] I0) (dkQi g z (fun r I1 => dkN [(-1000000, -1000000)] r ∧ dkF [] I0 I1 ∧ True)) 0 0 (dkA z) := by
  refine Met.ofW (cc := cX2_coming) (maxL := 1) (ret := (some .int)) (by decide) rfl ?_
  intro p e s m args below meth c s₁ B hml hv
  obtain ⟨ha, hW, hK⟩ := hv
  have hx := B.exec
  have hb := B.bytes
  have hr := B.returns
  have hts := atoms_spec (ws := wsX2_coming) B.pre
  have hown : s.vm.findClass RX2 = some m.cls := findClass_of_methodNamed B.named
  have hlocks := B.notSynchronized
  have hS : va_S (dkA z) s.heap s.heap [] := va_S.rf
  have hF : dkF [] I0 I0 := dkF_rf _ _
  have hl := lv_entry ([.ref (z + 12)]) (n := 1) (Nat.le_of_ble_eq_true rfl)
  have hgo : entryFrame m args 1 = entryFrame m ([.ref (z + 12)] : List Value).toArray 1 := by rw [ha]
  rw [hgo, lg_entry_eq]
  generalize (lg_sl ([.ref (z + 12)]) ++ List.replicate (1 - (lg_sl ([.ref (z + 12)])).length) Slot.unset).toArray = ls at hl ⊢
  have hl : lv_has ls 1 [(0, .ref (z + 12))] := hl
  refine lv_aload_n hx hb dX2_coming_0 rfl (lv_at hl 0 rfl) ?_
  refine dk_get hx hb hts iX2_coming_2 hown hK (dk_at12 hW) rfl 2 (by decide) (hts (.fieldLink RX2 30 "DogKings$Reader" "at" "I") (List.mem_of_getElem? (i := 1) rfl)) rfl dX2_coming_1 ?_
  refine lv_topi (fun v1 ev1 => ?_)
  have dv1 : dkN [(0, 0)] v1 := by rw [ev1]; exact n12_2
  refine lv_aload_n hx hb dX2_coming_4 rfl (lv_at hl 0 rfl) ?_
  refine dk_get hx hb hts iX2_coming_2 hown hK (dk_at12 hW) rfl 1 (by decide) (hts (.fieldLink RX2 22 "DogKings$Reader" "bytes" "I") (List.mem_of_getElem? (i := 2) rfl)) rfl dX2_coming_5 ?_
  refine lv_topi (fun v2 ev2 => ?_)
  have dv2 : dkN [(0, 0)] v2 := by rw [ev2]; exact n12_1
  refine lv_icmp_ge (tgt := 23) hx hb dX2_coming_8 (by decide) (fun c3 => ?_) (fun c3 => ?_)
  ·
    refine lv_ldc (v := (-1000000)) hx hb hown (hts (.constant RX2 50 (-1000000)) (List.mem_of_getElem? (i := 4) rfl)) dX2_coming_23 ?_
    exact W.iret (v := (-1000000)) hx hb hr (fun t ht hW9 => ⟨⟨(-1000000), I0, rfl, ⟨dkN_sub (dkN_lit (x := -1000000) (-1000000) rfl) rfl, hF, trivial⟩, dkW_eq ht hW⟩, hS.F ht⟩) hS.2.2 dX2_coming_25
  ·
    exact (dkN_nil (show dkN [] v2 from dkN_le2 1 dv1 dv2 (dkc_nle c3) rfl)).elim
set_option maxHeartbeats 4000000 in
set_option maxRecDepth 100000 in
theorem c_X2_meets_0 (l : Launch) (g : dkG) (z : Nat) (I0 : dkI) (p0 : Int32) (dp0 : dkN [(1, 1)] p0) (n12_2 : dkN [(0, 0)] (I0 12 2)) : Met l yX2_meets wsX2_meets (dkR 0) (dkPc g z [.ref (z + 12), .int p0] I0) (dkQi g z (fun r I1 => dkN [(0, 0)] r ∧ dkF [(12, 12, some 4), (12, 12, some 5)] I0 I1 ∧ dkN [(0, 0)] (I1 12 4) ∧ dkN [(1, 1)] (I1 12 5) ∧ True)) 0 0 (dkA z) := by
  refine Met.ofW (cc := cX2_meets) (maxL := 2) (ret := (some .boolean)) (by decide) rfl ?_
  intro p e s m args below meth c s₁ B hml hv
  obtain ⟨ha, hW, hK⟩ := hv
  have hx := B.exec
  have hb := B.bytes
  have hr := B.returns
  have hts := atoms_spec (ws := wsX2_meets) B.pre
  have hown : s.vm.findClass RX2 = some m.cls := findClass_of_methodNamed B.named
  have hlocks := B.notSynchronized
  have hS : va_S (dkA z) s.heap s.heap [] := va_S.rf
  have hF : dkF [(12, 12, some 4), (12, 12, some 5)] I0 I0 := dkF_rf _ _
  have hl := lv_entry ([.ref (z + 12), .int p0]) (n := 2) (Nat.le_of_ble_eq_true rfl)
  have hgo : entryFrame m args 2 = entryFrame m ([.ref (z + 12), .int p0] : List Value).toArray 2 := by rw [ha]
  rw [hgo, lg_entry_eq]
  generalize (lg_sl ([.ref (z + 12), .int p0]) ++ List.replicate (2 - (lg_sl ([.ref (z + 12), .int p0])).length) Slot.unset).toArray = ls at hl ⊢
  have hl : lv_has ls 2 [(0, .ref (z + 12)), (1, .int p0)] := hl
  refine lv_aload_n hx hb dX2_meets_0 rfl (lv_at hl 0 rfl) ?_
  refine lv_aload_n hx hb dX2_meets_1 rfl (lv_at hl 0 rfl) ?_
  refine dk_get hx hb hts iX2_meets_2 hown hK (dk_at12 hW) rfl 2 (by decide) (hts (.fieldLink RX2 30 "DogKings$Reader" "at" "I") (List.mem_of_getElem? (i := 1) rfl)) rfl dX2_meets_2 ?_
  refine lv_topi (fun v1 ev1 => ?_)
  have dv1 : dkN [(0, 0)] v1 := by rw [ev1]; exact n12_2
  refine dk_put hx hb hts iX2_meets_2 tyX2 tyX2_ok nmX2 hown hK hW (dk_at12 hW) hS rfl 4 (by decide) (hts (.fieldLink RX2 88 "DogKings$Reader" "faultPlace" "I") (List.mem_of_getElem? (i := 2) rfl)) rfl rfl (Nat.le_of_ble_eq_true rfl) rfl dX2_meets_5 (fun I2 H2 L2 eI2 hW hS => ?_)
  have eI2 : I2 = dkU I0 12 4 v1 := eI2
  have hF := dkF_set hF eI2 rfl
  refine lv_aload_n hx hb dX2_meets_8 rfl (lv_at hl 0 rfl) ?_
  refine lv_iload_n hx hb dX2_meets_9 rfl (lv_at hl 1 rfl) ?_
  refine dk_put hx hb hts iX2_meets_2 tyX2 tyX2_ok nmX2 hown hK hW (dk_at12 hW) hS rfl 5 (by decide) (hts (.fieldLink RX2 91 "DogKings$Reader" "faultNumber" "I") (List.mem_of_getElem? (i := 3) rfl)) rfl rfl (Nat.le_of_ble_eq_true rfl) rfl dX2_meets_10 (fun I3 H3 L3 eI3 hW hS => ?_)
  have eI3 : I3 = dkU I2 12 5 p0 := eI3
  have hF := dkF_set hF eI3 rfl
  refine lv_iconst (v := 0) hx hb dX2_meets_13 (by decide) ?_
  exact W.zret (v := 0) (ty := .boolean) hx hb hr rfl (fun t ht hW9 => ⟨⟨0, I3, rfl, ⟨dkN_sub (dkN_lit (x := 0) (0) rfl) rfl, hF, dkN_sub (by rw [eI3, dkU_sn (by decide)]; exact (by rw [eI2, dkU_ss]; exact dv1)) rfl, dkN_sub (by rw [eI3, dkU_ss]; exact dp0) rfl, trivial⟩, dkW_eq ht hW⟩, hS.F ht⟩) hS.2.2 dX2_meets_14
set_option maxHeartbeats 4000000 in
set_option maxRecDepth 100000 in
theorem c_X2_takes_0 (l : Launch) (g : dkG) (z : Nat) (I0 : dkI) (p0 : Int32) (dp0 : dkN [(116, 116)] p0) (n12_1 : dkN [(0, 0)] (I0 12 1)) (n12_2 : dkN [(0, 0)] (I0 12 2)) : Met l yX2_takes wsX2_takes (dkR 1) (dkPc g z [.ref (z + 12), .int p0] I0) (dkQi g z (fun r I1 => dkN [(0, 0)] r ∧ dkF [(12, 12, some 4), (12, 12, some 5)] I0 I1 ∧ dkN [(0, 0)] (I1 12 4) ∧ dkN [(1, 1)] (I1 12 5) ∧ True)) 0 0 (dkA z) := by
  refine Met.ofW (cc := cX2_takes) (maxL := 2) (ret := (some .boolean)) (by decide) rfl ?_
  intro p e s m args below meth c s₁ B hml hv
  obtain ⟨ha, hW, hK⟩ := hv
  have hx := B.exec
  have hb := B.bytes
  have hr := B.returns
  have hts := atoms_spec (ws := wsX2_takes) B.pre
  have hown : s.vm.findClass RX2 = some m.cls := findClass_of_methodNamed B.named
  have hlocks := B.notSynchronized
  have hS : va_S (dkA z) s.heap s.heap [] := va_S.rf
  have hF : dkF [(12, 12, some 4), (12, 12, some 5)] I0 I0 := dkF_rf _ _
  have hl := lv_entry ([.ref (z + 12), .int p0]) (n := 2) (Nat.le_of_ble_eq_true rfl)
  have hgo : entryFrame m args 2 = entryFrame m ([.ref (z + 12), .int p0] : List Value).toArray 2 := by rw [ha]
  rw [hgo, lg_entry_eq]
  generalize (lg_sl ([.ref (z + 12), .int p0]) ++ List.replicate (2 - (lg_sl ([.ref (z + 12), .int p0])).length) Slot.unset).toArray = ls at hl ⊢
  have hl : lv_has ls 2 [(0, .ref (z + 12)), (1, .int p0)] := hl
  refine lv_aload_n hx hb dX2_takes_0 rfl (lv_at hl 0 rfl) ?_
  refine dk_Vi (As := []) (rest := []) ⟨hx, hb, hml, hown, hts⟩ (c_X2_coming_0 l g z I0 n12_1 n12_2) (cwV 0 hts gX2_takes_X2_coming rfl rfl rfl (by decide +kernel) ⟨Nat.le_of_ble_eq_true rfl, Nat.le_of_ble_eq_true rfl⟩) (dk_at12 hW) rfl hK hW hS rfl hl.1 rfl (Nat.le_of_ble_eq_true rfl) dX2_takes_1 ⟨Nat.zero_le _, Nat.zero_le _⟩ (fun v1 I1 H1 L1 hp1 hW hS => ?_)
  obtain ⟨dv1, hF1, -⟩ := hp1
  have hF := dkF_call hF hF1 rfl
  refine lv_iload_n hx hb dX2_takes_4 rfl (lv_at hl 1 rfl) ?_
  refine lv_icmp_eq (tgt := 14) hx hb dX2_takes_5 (by decide) (fun c2 => ?_) (fun c2 => ?_)
  ·
    exact (dkN_nil (show dkN [] v1 from dkN_eq1 dv1 dp0 (congrArg Int32.toInt c2) rfl)).elim
  ·
    refine lv_aload_n hx hb dX2_takes_8 rfl (lv_at hl 0 rfl) ?_
    refine lv_iconst (v := 1) hx hb dX2_takes_9 (by decide) ?_
    refine dk_Vi (As := [.int 1]) (rest := []) ⟨hx, hb, hml, hown, hts⟩ (c_X2_meets_0 l g z I1 1 (dkN_lit (x := 1) (1) rfl) (by rw [hF1 12 2 rfl]; exact n12_2)) (cwV 1 hts gX2_takes_X2_meets rfl rfl rfl (by decide +kernel) ⟨Nat.le_of_ble_eq_true rfl, Nat.le_of_ble_eq_true rfl⟩) (dk_at12 hW) rfl hK hW hS rfl hl.1 rfl (Nat.le_of_ble_eq_true rfl) dX2_takes_10 ⟨Nat.zero_le _, Nat.zero_le _⟩ (fun v3 I3 H3 L3 hp3 hW hS => ?_)
    obtain ⟨dv3, hF3, f3_12_4, f3_12_5, -⟩ := hp3
    have hF := dkF_call hF hF3 rfl
    exact W.zret (v := v3) (ty := .boolean) hx hb hr (dkN_zr dv3 rfl) (fun t ht hW9 => ⟨⟨v3, I3, rfl, ⟨dkN_sub dv3 rfl, hF, dkN_sub f3_12_4 rfl, dkN_sub f3_12_5 rfl, trivial⟩, dkW_eq ht hW⟩, hS.F ht⟩) hS.2.2 dX2_takes_13
set_option maxHeartbeats 4000000 in
set_option maxRecDepth 100000 in
theorem c_X2_readsLaw_0 (l : Launch) (g : dkG) (z : Nat) (I0 : dkI) (n12_1 : dkN [(0, 0)] (I0 12 1)) (n12_2 : dkN [(0, 0)] (I0 12 2)) : Met l yX2_readsLaw wsX2_readsLaw (dkR 2) (dkPc g z [.ref (z + 12)] I0) (dkQi g z (fun r I1 => dkN [(0, 0)] r ∧ dkF [(12, 12, some 4), (12, 12, some 5)] I0 I1 ∧ dkN [(0, 0)] (I1 12 4) ∧ dkN [(1, 1)] (I1 12 5) ∧ True)) 0 0 (dkA z) := by
  refine Met.ofW (cc := cX2_readsLaw) (maxL := 3) (ret := (some .boolean)) (by decide) rfl ?_
  intro p e s m args below meth c s₁ B hml hv
  obtain ⟨ha, hW, hK⟩ := hv
  have hx := B.exec
  have hb := B.bytes
  have hr := B.returns
  have hts := atoms_spec (ws := wsX2_readsLaw) B.pre
  have hown : s.vm.findClass RX2 = some m.cls := findClass_of_methodNamed B.named
  have hlocks := B.notSynchronized
  have hS : va_S (dkA z) s.heap s.heap [] := va_S.rf
  have hF : dkF [(12, 12, some 4), (12, 12, some 5)] I0 I0 := dkF_rf _ _
  have hl := lv_entry ([.ref (z + 12)]) (n := 3) (Nat.le_of_ble_eq_true rfl)
  have hgo : entryFrame m args 3 = entryFrame m ([.ref (z + 12)] : List Value).toArray 3 := by rw [ha]
  rw [hgo, lg_entry_eq]
  generalize (lg_sl ([.ref (z + 12)]) ++ List.replicate (3 - (lg_sl ([.ref (z + 12)])).length) Slot.unset).toArray = ls at hl ⊢
  have hl : lv_has ls 3 [(0, .ref (z + 12))] := hl
  refine lv_aload_n hx hb dX2_readsLaw_0 rfl (lv_at hl 0 rfl) ?_
  refine lv_bipush (v := 116) hx hb dX2_readsLaw_1 (by decide) ?_
  refine dk_Vi (As := [.int 116]) (rest := []) ⟨hx, hb, hml, hown, hts⟩ (c_X2_takes_0 l g z I0 116 (dkN_lit (x := 116) (116) rfl) n12_1 n12_2) (cwV 1 hts gX2_readsLaw_X2_takes rfl rfl rfl (by decide +kernel) ⟨Nat.le_of_ble_eq_true rfl, Nat.le_of_ble_eq_true rfl⟩) (dk_at12 hW) rfl hK hW hS rfl hl.1 rfl (Nat.le_of_ble_eq_true rfl) dX2_readsLaw_3 ⟨Nat.zero_le _, Nat.zero_le _⟩ (fun v1 I1 H1 L1 hp1 hW hS => ?_)
  obtain ⟨dv1, hF1, f1_12_4, f1_12_5, -⟩ := hp1
  have hF := dkF_call hF hF1 rfl
  refine lv_if_ne (tgt := 11) hx hb dX2_readsLaw_6 (by decide) (fun c2 => ?_) (fun c2 => ?_)
  ·
    exact (dkN_nil (show dkN [] v1 from dkN_ne1 (0) dv1 (dkN_lit (x := 0) (0) rfl) (dk_ne c2) rfl)).elim
  ·
    refine lv_iconst (v := 0) hx hb dX2_readsLaw_9 (by decide) ?_
    exact W.zret (v := 0) (ty := .boolean) hx hb hr rfl (fun t ht hW9 => ⟨⟨0, I1, rfl, ⟨dkN_sub (dkN_lit (x := 0) (0) rfl) rfl, hF, dkN_sub f1_12_4 rfl, dkN_sub f1_12_5 rfl, trivial⟩, dkW_eq ht hW⟩, hS.F ht⟩) hS.2.2 dX2_readsLaw_10
set_option maxHeartbeats 4000000 in
set_option maxRecDepth 100000 in
theorem c_X2_reads_0 (l : Launch) (g : dkG) (z : Nat) (I0 : dkI) (n12_1 : dkN [(0, 0)] (I0 12 1)) : Met l yX2_reads wsX2_reads (dkR 3) (dkPc g z [.ref (z + 12)] I0) (dkQi g z (fun r I1 => dkN [(0, 0)] r ∧ dkF [(12, 12, some 1), (12, 12, some 2), (12, 12, some 4), (12, 12, some 5)] I0 I1 ∧ dkN [(0, 0)] (I1 12 1) ∧ dkN [(0, 0)] (I1 12 2) ∧ dkN [(0, 0)] (I1 12 4) ∧ dkN [(1, 1)] (I1 12 5) ∧ True)) 0 0 (dkA z) := by
  refine Met.ofW (cc := cX2_reads) (maxL := 2) (ret := (some .boolean)) (by decide) rfl ?_
  intro p e s m args below meth c s₁ B hml hv
  obtain ⟨ha, hW, hK⟩ := hv
  have hx := B.exec
  have hb := B.bytes
  have hr := B.returns
  have hts := atoms_spec (ws := wsX2_reads) B.pre
  have hown : s.vm.findClass RX2 = some m.cls := findClass_of_methodNamed B.named
  have hlocks := B.notSynchronized
  have hS : va_S (dkA z) s.heap s.heap [] := va_S.rf
  have hF : dkF [(12, 12, some 1), (12, 12, some 2), (12, 12, some 4), (12, 12, some 5)] I0 I0 := dkF_rf _ _
  have hl := lv_entry ([.ref (z + 12)]) (n := 2) (Nat.le_of_ble_eq_true rfl)
  have hgo : entryFrame m args 2 = entryFrame m ([.ref (z + 12)] : List Value).toArray 2 := by rw [ha]
  rw [hgo, lg_entry_eq]
  generalize (lg_sl ([.ref (z + 12)]) ++ List.replicate (2 - (lg_sl ([.ref (z + 12)])).length) Slot.unset).toArray = ls at hl ⊢
  have hl : lv_has ls 2 [(0, .ref (z + 12))] := hl
  have C30 : ∀ (I : dkI) (H : Heap) (locs : List Loc) (ls : Array Slot), dkW g z I H → va_S (dkA z) s.heap H locs → dkF [(12, 12, some 1), (12, 12, some 2), (12, 12, some 4), (12, 12, some 5)] I0 I → dkN [(0, 0)] (I 12 1) → dkN [(0, 0)] (I 12 2) → dkN [(0, 0)] (I 12 4) → dkN [(1, 1)] (I 12 5) → lv_has ls 2 [(0, .ref (z + 12))] → W p l e (headSpec wsX2_reads (dkR 3)).room s m args below meth c H locs 0 0 (MQ below (dkQi g z (fun r I1 => dkN [(0, 0)] r ∧ dkF [(12, 12, some 1), (12, 12, some 2), (12, 12, some 4), (12, 12, some 5)] I0 I1 ∧ dkN [(0, 0)] (I1 12 1) ∧ dkN [(0, 0)] (I1 12 2) ∧ dkN [(0, 0)] (I1 12 4) ∧ dkN [(1, 1)] (I1 12 5) ∧ True)) args s 0 0 (dkA z)) (F0 m 30 ls []) := by
    intro I30_ H locs ls hW hS hF_30 f30_12_1 f30_12_2 f30_12_4 f30_12_5 hl
    have hF := hF_30
    refine lv_iconst (v := 0) hx hb dX2_reads_30 (by decide) ?_
    refine lv_istore_n (lv' := [(1, .int 0), (0, .ref (z + 12))]) hx hb dX2_reads_31 rfl hl (by decide) rfl (fun ls hl => ?_)
    refine lv_aload_n hx hb dX2_reads_32 rfl (lv_at hl 1 rfl) ?_
    refine lv_iconst (v := 0) hx hb dX2_reads_33 (by decide) ?_
    refine dk_put hx hb hts iX2_reads_2 tyX2 tyX2_ok nmX2 hown hK hW (dk_at12 hW) hS rfl 1 (by decide) (hts (.fieldLink RX2 22 "DogKings$Reader" "bytes" "I") (List.mem_of_getElem? (i := 2) rfl)) rfl rfl (Nat.le_of_ble_eq_true rfl) rfl dX2_reads_34 (fun I1 H1 L1 eI1 hW hS => ?_)
    have eI1 : I1 = dkU I30_ 12 1 0 := eI1
    have hF := dkF_set hF eI1 rfl
    refine lv_iload_n hx hb dX2_reads_37 rfl (lv_at hl 0 rfl) ?_
    exact W.zret (v := 0) (ty := .boolean) hx hb hr rfl (fun t ht hW9 => ⟨⟨0, I1, rfl, ⟨dkN_sub (dkN_lit (x := 0) (0) rfl) rfl, hF, dkN_sub (by rw [eI1, dkU_ss]; exact (dkN_lit (x := 0) (0) rfl)) rfl, dkN_sub (by rw [eI1, dkU_sn (by decide)]; exact f30_12_2) rfl, dkN_sub (by rw [eI1, dkU_sn (by decide)]; exact f30_12_4) rfl, dkN_sub (by rw [eI1, dkU_sn (by decide)]; exact f30_12_5) rfl, trivial⟩, dkW_eq ht hW⟩, hS.F ht⟩) hS.2.2 dX2_reads_38
  refine lv_aload_n hx hb dX2_reads_0 rfl (lv_at hl 0 rfl) ?_
  refine lv_iconst (v := 0) hx hb dX2_reads_1 (by decide) ?_
  refine dk_put hx hb hts iX2_reads_2 tyX2 tyX2_ok nmX2 hown hK hW (dk_at12 hW) hS rfl 2 (by decide) (hts (.fieldLink RX2 30 "DogKings$Reader" "at" "I") (List.mem_of_getElem? (i := 1) rfl)) rfl rfl (Nat.le_of_ble_eq_true rfl) rfl dX2_reads_2 (fun I2 H2 L2 eI2 hW hS => ?_)
  have eI2 : I2 = dkU I0 12 2 0 := eI2
  have hF := dkF_set hF eI2 rfl
  refine lv_aload_n hx hb dX2_reads_5 rfl (lv_at hl 0 rfl) ?_
  refine dk_Vi (As := []) (rest := []) ⟨hx, hb, hml, hown, hts⟩ (c_X2_readsLaw_0 l g z I2 (by rw [eI2, dkU_sn (by decide)]; exact n12_1) (by rw [eI2, dkU_ss]; exact (dkN_lit (x := 0) (0) rfl))) (cwV 0 hts gX2_reads_X2_readsLaw rfl rfl rfl (by decide +kernel) ⟨Nat.le_of_ble_eq_true rfl, Nat.le_of_ble_eq_true rfl⟩) (dk_at12 hW) rfl hK hW hS rfl hl.1 rfl (Nat.le_of_ble_eq_true rfl) dX2_reads_6 ⟨Nat.zero_le _, Nat.zero_le _⟩ (fun v3 I3 H3 L3 hp3 hW hS => ?_)
  obtain ⟨dv3, hF3, f3_12_4, f3_12_5, -⟩ := hp3
  have hF := dkF_call hF hF3 rfl
  refine lv_if_eq (tgt := 30) hx hb dX2_reads_9 (by decide) (fun c4 => ?_) (fun c4 => ?_)
  ·
    exact C30 I3 _ _ ls  hW hS hF (dkN_sub (by rw [hF3 12 1 rfl]; exact (by rw [eI2, dkU_sn (by decide)]; exact n12_1)) rfl) (dkN_sub (by rw [hF3 12 2 rfl]; exact (by rw [eI2, dkU_ss]; exact (dkN_lit (x := 0) (0) rfl))) rfl) (dkN_sub f3_12_4 rfl) (dkN_sub f3_12_5 rfl) (lv_sub hl [0] rfl)
  ·
    exact (dkN_nil (show dkN [] v3 from dkN_ne1 (0) dv3 (dkN_lit (x := 0) (0) rfl) (dk_ne c4) rfl)).elim
set_option maxHeartbeats 4000000 in
set_option maxRecDepth 100000 in
theorem c_X5_town_0 (l : Launch) (g : dkG) (z : Nat) (I0 : dkI) (n12_1 : dkN [(0, 0)] (I0 12 1)) : Met l yX5_town wsX5_town (dkR 4) (dkPc g z [.ref (z + 0)] I0) (dkQi g z (fun r I1 => dkN [(-1000100, -1000100)] r ∧ dkF [(12, 12, some 1), (12, 12, some 2), (12, 12, some 4), (12, 12, some 5)] I0 I1 ∧ dkN [(0, 0)] (I1 12 1) ∧ dkN [(0, 0)] (I1 12 2) ∧ dkN [(0, 0)] (I1 12 4) ∧ dkN [(1, 1)] (I1 12 5) ∧ True)) 0 0 (dkA z) := by
  refine Met.ofW (cc := cX5_town) (maxL := 1) (ret := (some .int)) (by decide) rfl ?_
  intro p e s m args below meth c s₁ B hml hv
  obtain ⟨ha, hW, hK⟩ := hv
  have hx := B.exec
  have hb := B.bytes
  have hr := B.returns
  have hts := atoms_spec (ws := wsX5_town) B.pre
  have hown : s.vm.findClass RX5 = some m.cls := findClass_of_methodNamed B.named
  have hlocks := B.notSynchronized
  have hS : va_S (dkA z) s.heap s.heap [] := va_S.rf
  have hF : dkF [(12, 12, some 1), (12, 12, some 2), (12, 12, some 4), (12, 12, some 5)] I0 I0 := dkF_rf _ _
  have hl := lv_entry ([.ref (z + 0)]) (n := 1) (Nat.le_of_ble_eq_true rfl)
  have hgo : entryFrame m args 1 = entryFrame m ([.ref (z + 0)] : List Value).toArray 1 := by rw [ha]
  rw [hgo, lg_entry_eq]
  generalize (lg_sl ([.ref (z + 0)]) ++ List.replicate (1 - (lg_sl ([.ref (z + 0)])).length) Slot.unset).toArray = ls at hl ⊢
  have hl : lv_has ls 1 [(0, .ref (z + 0))] := hl
  refine lv_aload_n hx hb dX5_town_0 rfl (lv_at hl 0 rfl) ?_
  refine dk_get hx hb hts iX5_town_5 hown hK (dk_at0 hW) rfl 4 (by decide) (hts (.fieldLink RX5 24 "DogKings" "reader" "LDogKings$Reader;") (List.mem_of_getElem? (i := 1) rfl)) rfl dX5_town_1 ?_
  refine dk_Vi (As := []) (rest := []) ⟨hx, hb, hml, hown, hts⟩ (c_X2_reads_0 l g z I0 n12_1) (cwV 0 hts gX5_town_X2_reads rfl rfl rfl (by decide +kernel) ⟨Nat.le_of_ble_eq_true rfl, Nat.le_of_ble_eq_true rfl⟩) (dk_at12 hW) rfl hK hW hS rfl hl.1 rfl (Nat.le_of_ble_eq_true rfl) dX5_town_4 ⟨Nat.zero_le _, Nat.zero_le _⟩ (fun v1 I1 H1 L1 hp1 hW hS => ?_)
  obtain ⟨dv1, hF1, f1_12_1, f1_12_2, f1_12_4, f1_12_5, -⟩ := hp1
  have hF := dkF_call hF hF1 rfl
  refine lv_if_ne (tgt := 21) hx hb dX5_town_7 (by decide) (fun c2 => ?_) (fun c2 => ?_)
  ·
    exact (dkN_nil (show dkN [] v1 from dkN_ne1 (0) dv1 (dkN_lit (x := 0) (0) rfl) (dk_ne c2) rfl)).elim
  ·
    refine lv_ldc (v := (-1000100)) hx hb hown (hts (.constant RX5 106 (-1000100)) (List.mem_of_getElem? (i := 2) rfl)) dX5_town_10 ?_
    refine lv_aload_n hx hb dX5_town_12 rfl (lv_at hl 0 rfl) ?_
    refine dk_get hx hb hts iX5_town_5 hown hK (dk_at0 hW) rfl 4 (by decide) (hts (.fieldLink RX5 24 "DogKings" "reader" "LDogKings$Reader;") (List.mem_of_getElem? (i := 1) rfl)) rfl dX5_town_13 ?_
    refine dk_get hx hb hts iX5_town_2 hown hK (dk_at12 hW) rfl 4 (by decide) (hts (.fieldLink RX5 107 "DogKings$Reader" "faultPlace" "I") (List.mem_of_getElem? (i := 3) rfl)) rfl dX5_town_16 ?_
    refine lv_topi (fun v3 ev3 => ?_)
    have dv3 : dkN [(0, 0)] v3 := by rw [ev3]; exact f1_12_4
    refine lv_isub hx hb dX5_town_19 ?_
    refine lv_topi (fun v4 ev4 => ?_)
    have dv4 : dkN [(-1000100, -1000100)] v4 := by rw [ev4]; exact dkN_subt (dkN_lit (x := -1000100) (-1000100) rfl) dv3 rfl
    exact W.iret (v := v4) hx hb hr (fun t ht hW9 => ⟨⟨v4, I1, rfl, ⟨dkN_sub dv4 rfl, hF, dkN_sub f1_12_1 rfl, dkN_sub f1_12_2 rfl, dkN_sub f1_12_4 rfl, dkN_sub f1_12_5 rfl, trivial⟩, dkW_eq ht hW⟩, hS.F ht⟩) hS.2.2 dX5_town_20
set_option maxHeartbeats 4000000 in
set_option maxRecDepth 100000 in
theorem c_X6_byteAt_0 (l : Launch) (g : dkG) (z : Nat) (I0 : dkI) (p0 : Int32) (dp0 : dkN [(0, 0)] p0) (n340_6 : dkN [(0, 0)] (I0 340 6)) : Met l yX6_byteAt wsX6_byteAt (dkR 0) (dkPc g z [.ref (z + 340), .int p0] I0) (dkQi g z (fun r I1 => dkN [(-1, -1)] r ∧ dkF [] I0 I1 ∧ True)) 0 0 (dkA z) := by
  refine Met.ofW (cc := cX6_byteAt) (maxL := 2) (ret := (some .int)) (by decide) rfl ?_
  intro p e s m args below meth c s₁ B hml hv
  obtain ⟨ha, hW, hK⟩ := hv
  have hx := B.exec
  have hb := B.bytes
  have hr := B.returns
  have hts := atoms_spec (ws := wsX6_byteAt) B.pre
  have hown : s.vm.findClass RX6 = some m.cls := findClass_of_methodNamed B.named
  have hlocks := B.notSynchronized
  have hS : va_S (dkA z) s.heap s.heap [] := va_S.rf
  have hF : dkF [] I0 I0 := dkF_rf _ _
  have hl := lv_entry ([.ref (z + 340), .int p0]) (n := 2) (Nat.le_of_ble_eq_true rfl)
  have hgo : entryFrame m args 2 = entryFrame m ([.ref (z + 340), .int p0] : List Value).toArray 2 := by rw [ha]
  rw [hgo, lg_entry_eq]
  generalize (lg_sl ([.ref (z + 340), .int p0]) ++ List.replicate (2 - (lg_sl ([.ref (z + 340), .int p0])).length) Slot.unset).toArray = ls at hl ⊢
  have hl : lv_has ls 2 [(0, .ref (z + 340)), (1, .int p0)] := hl
  refine lv_iload_n hx hb dX6_byteAt_0 rfl (lv_at hl 1 rfl) ?_
  refine lv_aload_n hx hb dX6_byteAt_1 rfl (lv_at hl 0 rfl) ?_
  refine dk_get hx hb hts iX6_byteAt_6 hown hK (dk_at340 hW) rfl 6 (by decide) (hts (.fieldLink RX6 82 "DogKingsModel" "taped" "I") (List.mem_of_getElem? (i := 1) rfl)) rfl dX6_byteAt_2 ?_
  refine lv_topi (fun v1 ev1 => ?_)
  have dv1 : dkN [(0, 0)] v1 := by rw [ev1]; exact n340_6
  refine lv_icmp_ge (tgt := 17) hx hb dX6_byteAt_5 (by decide) (fun c2 => ?_) (fun c2 => ?_)
  ·
    refine lv_iconst (v := (-1)) hx hb dX6_byteAt_17 (by decide) ?_
    exact W.iret (v := (-1)) hx hb hr (fun t ht hW9 => ⟨⟨(-1), I0, rfl, ⟨dkN_sub (dkN_lit (x := -1) (-1) rfl) rfl, hF, trivial⟩, dkW_eq ht hW⟩, hS.F ht⟩) hS.2.2 dX6_byteAt_18
  ·
    exact (dkN_nil (show dkN [] v1 from dkN_le2 1 dp0 dv1 (dkc_nle c2) rfl)).elim
set_option maxHeartbeats 4000000 in
set_option maxRecDepth 100000 in
theorem c_X6_in_14 (l : Launch) (g : dkG) (z : Nat) (I0 : dkI) (p0 p1 p2 : Int32) (dp0 : dkN [(-1, -1)] p0) (dp1 : dkN [(48, 48)] p1) (dp2 : dkN [(57, 57)] p2) : Met l yX6_in wsX6_in (dkR 0) (dkPc g z [.int p0, .int p1, .int p2] I0) (dkQi g z (fun r I1 => dkN [(0, 0)] r ∧ dkF [] I0 I1 ∧ True)) 0 0 (dkA z) := by
  refine Met.ofW (cc := cX6_in) (maxL := 3) (ret := (some .boolean)) (by decide) rfl ?_
  intro p e s m args below meth c s₁ B hml hv
  obtain ⟨ha, hW, hK⟩ := hv
  have hx := B.exec
  have hb := B.bytes
  have hr := B.returns
  have hts := atoms_spec (ws := wsX6_in) B.pre
  have hown : s.vm.findClass RX6 = some m.cls := findClass_of_methodNamed B.named
  have hlocks := B.notSynchronized
  have hS : va_S (dkA z) s.heap s.heap [] := va_S.rf
  have hF : dkF [] I0 I0 := dkF_rf _ _
  have hl := lv_entry ([.int p0, .int p1, .int p2]) (n := 3) (Nat.le_of_ble_eq_true rfl)
  have hgo : entryFrame m args 3 = entryFrame m ([.int p0, .int p1, .int p2] : List Value).toArray 3 := by rw [ha]
  rw [hgo, lg_entry_eq]
  generalize (lg_sl ([.int p0, .int p1, .int p2]) ++ List.replicate (3 - (lg_sl ([.int p0, .int p1, .int p2])).length) Slot.unset).toArray = ls at hl ⊢
  have hl : lv_has ls 3 [(0, .int p0), (1, .int p1), (2, .int p2)] := hl
  refine lv_iload_n hx hb dX6_in_0 rfl (lv_at hl 0 rfl) ?_
  refine lv_iload_n hx hb dX6_in_1 rfl (lv_at hl 1 rfl) ?_
  refine lv_icmp_lt (tgt := 14) hx hb dX6_in_2 (by decide) (fun c1 => ?_) (fun c1 => ?_)
  ·
    refine lv_iconst (v := 0) hx hb dX6_in_14 (by decide) ?_
    exact W.zret (v := 0) (ty := .boolean) hx hb hr rfl (fun t ht hW9 => ⟨⟨0, I0, rfl, ⟨dkN_sub (dkN_lit (x := 0) (0) rfl) rfl, hF, trivial⟩, dkW_eq ht hW⟩, hS.F ht⟩) hS.2.2 dX6_in_15
  ·
    exact (dkN_nil (show dkN [] p0 from dkN_le2 0 dp1 dp0 (dkc_nlt c1) rfl)).elim
set_option maxHeartbeats 4000000 in
set_option maxRecDepth 100000 in
theorem c_X6_advances_0 (l : Launch) (g : dkG) (z : Nat) (I0 : dkI) (n340_11 : dkN [(0, 0)] (I0 340 11)) (n340_6 : dkN [(0, 0)] (I0 340 6)) (n340_9 : dkN [(0, 0)] (I0 340 9)) : Met l yX6_advances wsX6_advances (dkR 1) (dkPc g z [.ref (z + 340)] I0) (dkQv g z (fun I1 => dkF [(340, 340, some 10), (340, 340, some 11), (340, 340, some 12), (340, 340, some 9)] I0 I1 ∧ dkN [(0, 0)] (I1 340 9) ∧ dkN [(0, 0)] (I1 340 10) ∧ dkN [(0, 0)] (I1 340 11) ∧ dkN [(-1, -1)] (I1 340 12) ∧ True)) 0 0 (dkA z) := by
  refine Met.ofW (cc := cX6_advances) (maxL := 2) (ret := none) (by decide) rfl ?_
  intro p e s m args below meth c s₁ B hml hv
  obtain ⟨ha, hW, hK⟩ := hv
  have hx := B.exec
  have hb := B.bytes
  have hr := B.returns
  have hts := atoms_spec (ws := wsX6_advances) B.pre
  have hown : s.vm.findClass RX6 = some m.cls := findClass_of_methodNamed B.named
  have hlocks := B.notSynchronized
  have hS : va_S (dkA z) s.heap s.heap [] := va_S.rf
  have hF : dkF [(340, 340, some 10), (340, 340, some 11), (340, 340, some 12), (340, 340, some 9)] I0 I0 := dkF_rf _ _
  have hl := lv_entry ([.ref (z + 340)]) (n := 2) (Nat.le_of_ble_eq_true rfl)
  have hgo : entryFrame m args 2 = entryFrame m ([.ref (z + 340)] : List Value).toArray 2 := by rw [ha]
  rw [hgo, lg_entry_eq]
  generalize (lg_sl ([.ref (z + 340)]) ++ List.replicate (2 - (lg_sl ([.ref (z + 340)])).length) Slot.unset).toArray = ls at hl ⊢
  have hl : lv_has ls 2 [(0, .ref (z + 340))] := hl
  have C180 : ∀ (I : dkI) (H : Heap) (locs : List Loc) (ls : Array Slot) (x180_1 : Int32) (x180_s0 : Int32), dkW g z I H → va_S (dkA z) s.heap H locs → dkF [(340, 340, some 10), (340, 340, some 11), (340, 340, some 12), (340, 340, some 9)] I0 I → dkN [(-1, -1)] x180_1 → dkN [(0, 0)] x180_s0 → dkN [(0, 0)] (I 340 10) → dkN [(0, 0)] (I 340 11) → dkN [(-1, -1)] (I 340 12) → dkN [(0, 0)] (I 340 9) → lv_has ls 2 [(0, .ref (z + 340)), (1, .int x180_1)] → W p l e (headSpec wsX6_advances (dkR 1)).room s m args below meth c H locs 0 0 (MQ below (dkQv g z (fun I1 => dkF [(340, 340, some 10), (340, 340, some 11), (340, 340, some 12), (340, 340, some 9)] I0 I1 ∧ dkN [(0, 0)] (I1 340 9) ∧ dkN [(0, 0)] (I1 340 10) ∧ dkN [(0, 0)] (I1 340 11) ∧ dkN [(-1, -1)] (I1 340 12) ∧ True)) args s 0 0 (dkA z)) (F0 m 180 ls [.int x180_s0, .ref (z + 340)]) := by
    intro I180_ H locs ls x180_1 x180_s0 hW hS hF_180 k180_0 k180_1 f180_340_10 f180_340_11 f180_340_12 f180_340_9 hl
    have hF := hF_180
    refine dk_put hx hb hts iX6_advances_6 tyX6 tyX6_ok nmX6 hown hK hW (dk_at340 hW) hS rfl 11 (by decide) (hts (.fieldLink RX6 98 "DogKingsModel" "token" "I") (List.mem_of_getElem? (i := 4) rfl)) rfl rfl (Nat.le_of_ble_eq_true rfl) rfl dX6_advances_180 (fun I1 H1 L1 eI1 hW hS => ?_)
    have eI1 : I1 = dkU I180_ 340 11 x180_s0 := eI1
    have hF := dkF_set hF eI1 rfl
    refine lv_aload_n hx hb dX6_advances_183 rfl (lv_at hl 0 rfl) ?_
    refine lv_dup hx hb dX6_advances_184 rfl ?_
    refine dk_get hx hb hts iX6_advances_6 hown hK (dk_at340 hW) rfl 9 (by decide) (hts (.fieldLink RX6 86 "DogKingsModel" "at" "I") (List.mem_of_getElem? (i := 1) rfl)) rfl dX6_advances_185 ?_
    refine lv_topi (fun v2 ev2 => ?_)
    have dv2 : dkN [(0, 0)] v2 := by rw [ev2]; exact (by rw [eI1, dkU_sn (by decide)]; exact f180_340_9)
    refine lv_aload_n hx hb dX6_advances_188 rfl (lv_at hl 0 rfl) ?_
    refine dk_get hx hb hts iX6_advances_6 hown hK (dk_at340 hW) rfl 11 (by decide) (hts (.fieldLink RX6 98 "DogKingsModel" "token" "I") (List.mem_of_getElem? (i := 4) rfl)) rfl dX6_advances_189 ?_
    refine lv_topi (fun v3 ev3 => ?_)
    have dv3 : dkN [(0, 0)] v3 := by rw [ev3]; exact (by rw [eI1, dkU_ss]; exact k180_1)
    refine lv_if_ne (tgt := 199) hx hb dX6_advances_192 (by decide) (fun c4 => ?_) (fun c4 => ?_)
    ·
      exact (dkN_nil (show dkN [] v3 from dkN_ne1 (0) dv3 (dkN_lit (x := 0) (0) rfl) (dk_ne c4) rfl)).elim
    ·
      refine lv_iconst (v := 0) hx hb dX6_advances_195 (by decide) ?_
      refine lv_goto (tgt := 200) hx hb dX6_advances_196 (by decide) ?_
      refine lv_iadd hx hb dX6_advances_200 ?_
      refine lv_topi (fun v5 ev5 => ?_)
      have dv5 : dkN [(0, 0)] v5 := by rw [ev5]; exact dkN_add dv2 (dkN_lit (x := 0) (0) rfl) rfl
      refine dk_put hx hb hts iX6_advances_6 tyX6 tyX6_ok nmX6 hown hK hW (dk_at340 hW) hS rfl 9 (by decide) (hts (.fieldLink RX6 86 "DogKingsModel" "at" "I") (List.mem_of_getElem? (i := 1) rfl)) rfl rfl (Nat.le_of_ble_eq_true rfl) rfl dX6_advances_201 (fun I6 H6 L6 eI6 hW hS => ?_)
      have eI6 : I6 = dkU I1 340 9 v5 := eI6
      have hF := dkF_set hF eI6 rfl
      exact W.vret hx hb hr (fun t ht hW9 => ⟨⟨I6, rfl, ⟨hF, dkN_sub (by rw [eI6, dkU_ss]; exact dv5) rfl, dkN_sub (by rw [eI6, dkU_sn (by decide)]; exact (by rw [eI1, dkU_sn (by decide)]; exact f180_340_10)) rfl, dkN_sub (by rw [eI6, dkU_sn (by decide)]; exact (by rw [eI1, dkU_ss]; exact k180_1)) rfl, dkN_sub (by rw [eI6, dkU_sn (by decide)]; exact (by rw [eI1, dkU_sn (by decide)]; exact f180_340_12)) rfl, trivial⟩, dkW_eq ht hW⟩, hS.F ht⟩) hS.2.2 dX6_advances_204
  refine lv_aload_n hx hb dX6_advances_0 rfl (lv_at hl 0 rfl) ?_
  refine lv_aload_n hx hb dX6_advances_1 rfl (lv_at hl 0 rfl) ?_
  refine dk_get hx hb hts iX6_advances_6 hown hK (dk_at340 hW) rfl 9 (by decide) (hts (.fieldLink RX6 86 "DogKingsModel" "at" "I") (List.mem_of_getElem? (i := 1) rfl)) rfl dX6_advances_2 ?_
  refine lv_topi (fun v7 ev7 => ?_)
  have dv7 : dkN [(0, 0)] v7 := by rw [ev7]; exact n340_9
  refine dk_put hx hb hts iX6_advances_6 tyX6 tyX6_ok nmX6 hown hK hW (dk_at340 hW) hS rfl 10 (by decide) (hts (.fieldLink RX6 89 "DogKingsModel" "start" "I") (List.mem_of_getElem? (i := 2) rfl)) rfl rfl (Nat.le_of_ble_eq_true rfl) rfl dX6_advances_5 (fun I8 H8 L8 eI8 hW hS => ?_)
  have eI8 : I8 = dkU I0 340 10 v7 := eI8
  have hF := dkF_set hF eI8 rfl
  refine lv_aload_n hx hb dX6_advances_8 rfl (lv_at hl 0 rfl) ?_
  refine lv_aload_n hx hb dX6_advances_9 rfl (lv_at hl 0 rfl) ?_
  refine dk_get hx hb hts iX6_advances_6 hown hK (dk_at340 hW) rfl 9 (by decide) (hts (.fieldLink RX6 86 "DogKingsModel" "at" "I") (List.mem_of_getElem? (i := 1) rfl)) rfl dX6_advances_10 ?_
  refine lv_topi (fun v9 ev9 => ?_)
  have dv9 : dkN [(0, 0)] v9 := by rw [ev9]; exact (by rw [eI8, dkU_sn (by decide)]; exact n340_9)
  refine dk_Vi (As := [.int v9]) (rest := []) ⟨hx, hb, hml, hown, hts⟩ (c_X6_byteAt_0 l g z I8 v9 dv9 (by rw [eI8, dkU_sn (by decide)]; exact n340_6)) (cwV 1 hts gX6_advances_X6_byteAt rfl rfl rfl (by decide +kernel) ⟨Nat.le_of_ble_eq_true rfl, Nat.le_of_ble_eq_true rfl⟩) (dk_at340 hW) rfl hK hW hS rfl hl.1 rfl (Nat.le_of_ble_eq_true rfl) dX6_advances_13 ⟨Nat.zero_le _, Nat.zero_le _⟩ (fun v10 I10 H10 L10 hp10 hW hS => ?_)
  obtain ⟨dv10, hF10, -⟩ := hp10
  have hF := dkF_call hF hF10 rfl
  refine lv_istore_n (lv' := [(1, .int v10), (0, .ref (z + 340))]) hx hb dX6_advances_16 rfl hl (by decide) rfl (fun ls hl => ?_)
  refine lv_aload_n hx hb dX6_advances_17 rfl (lv_at hl 1 rfl) ?_
  refine lv_iload_n hx hb dX6_advances_18 rfl (lv_at hl 0 rfl) ?_
  refine dk_put hx hb hts iX6_advances_6 tyX6 tyX6_ok nmX6 hown hK hW (dk_at340 hW) hS rfl 12 (by decide) (hts (.fieldLink RX6 95 "DogKingsModel" "value" "I") (List.mem_of_getElem? (i := 3) rfl)) rfl rfl (Nat.le_of_ble_eq_true rfl) rfl dX6_advances_19 (fun I11 H11 L11 eI11 hW hS => ?_)
  have eI11 : I11 = dkU I10 340 12 v10 := eI11
  have hF := dkF_set hF eI11 rfl
  refine lv_iload_n hx hb dX6_advances_22 rfl (lv_at hl 0 rfl) ?_
  refine lv_bipush (v := 48) hx hb dX6_advances_23 (by decide) ?_
  refine lv_bipush (v := 57) hx hb dX6_advances_25 (by decide) ?_
  refine dk_Si (As := [.int v10, .int 48, .int 57]) (rest := []) ⟨hx, hb, hml, hown, hts⟩ (c_X6_in_14 l g z I11 v10 48 57 dv10 (dkN_lit (x := 48) (48) rfl) (dkN_lit (x := 57) (57) rfl)) (va_cwS 3 hts gX6_advances_X6_in rfl rfl rfl (by decide +kernel) ⟨Nat.le_of_ble_eq_true rfl, Nat.le_of_ble_eq_true rfl⟩) hK hW hS rfl hl.1 rfl (Nat.le_of_ble_eq_true rfl) dX6_advances_27 ⟨Nat.zero_le _, Nat.zero_le _⟩ (fun v12 I12 H12 L12 hp12 hW hS => ?_)
  obtain ⟨dv12, hF12, -⟩ := hp12
  have hF := dkF_call hF hF12 rfl
  refine lv_if_eq (tgt := 135) hx hb dX6_advances_30 (by decide) (fun c13 => ?_) (fun c13 => ?_)
  ·
    refine lv_aload_n hx hb dX6_advances_135 rfl (lv_at hl 1 rfl) ?_
    refine lv_iload_n hx hb dX6_advances_136 rfl (lv_at hl 0 rfl) ?_
    refine lv_if_ge (tgt := 144) hx hb dX6_advances_137 (by decide) (fun c14 => ?_) (fun c14 => ?_)
    ·
      exact (dkN_nil (show dkN [] 0 from dkN_le1 0 (dkN_lit (x := 0) (0) rfl) dv10 (dkc_le c14) rfl)).elim
    ·
      refine lv_iconst (v := 0) hx hb dX6_advances_140 (by decide) ?_
      refine lv_goto (tgt := 180) hx hb dX6_advances_141 (by decide) ?_
      exact C180 I12 _ _ ls v10 0 hW hS hF (dkN_sub dv10 rfl) (dkN_sub (dkN_lit (x := 0) (0) rfl) rfl) (dkN_sub (by rw [hF12 340 10 rfl]; exact (by rw [eI11, dkU_sn (by decide)]; exact (by rw [hF10 340 10 rfl]; exact (by rw [eI8, dkU_ss]; exact dv7)))) rfl) (dkN_sub (by rw [hF12 340 11 rfl]; exact (by rw [eI11, dkU_sn (by decide)]; exact (by rw [hF10 340 11 rfl]; exact (by rw [eI8, dkU_sn (by decide)]; exact n340_11)))) rfl) (dkN_sub (by rw [hF12 340 12 rfl]; exact (by rw [eI11, dkU_ss]; exact dv10)) rfl) (dkN_sub (by rw [hF12 340 9 rfl]; exact (by rw [eI11, dkU_sn (by decide)]; exact (by rw [hF10 340 9 rfl]; exact (by rw [eI8, dkU_sn (by decide)]; exact n340_9)))) rfl) (lv_sub hl [1, 0] rfl)
  ·
    exact (dkN_nil (show dkN [] v12 from dkN_ne1 (0) dv12 (dkN_lit (x := 0) (0) rfl) (dk_ne c13) rfl)).elim
set_option maxHeartbeats 4000000 in
set_option maxRecDepth 100000 in
theorem c_X6_isWell_0 (l : Launch) (g : dkG) (z : Nat) (I0 : dkI) (n340_8 : dkN [(-1, -1)] (I0 340 8)) : Met l yX6_isWell wsX6_isWell (dkR 0) (dkPc g z [.ref (z + 340)] I0) (dkQi g z (fun r I1 => dkN [(1, 1)] r ∧ dkF [] I0 I1 ∧ True)) 0 0 (dkA z) := by
  refine Met.ofW (cc := cX6_isWell) (maxL := 1) (ret := (some .boolean)) (by decide) rfl ?_
  intro p e s m args below meth c s₁ B hml hv
  obtain ⟨ha, hW, hK⟩ := hv
  have hx := B.exec
  have hb := B.bytes
  have hr := B.returns
  have hts := atoms_spec (ws := wsX6_isWell) B.pre
  have hown : s.vm.findClass RX6 = some m.cls := findClass_of_methodNamed B.named
  have hlocks := B.notSynchronized
  have hS : va_S (dkA z) s.heap s.heap [] := va_S.rf
  have hF : dkF [] I0 I0 := dkF_rf _ _
  have hl := lv_entry ([.ref (z + 340)]) (n := 1) (Nat.le_of_ble_eq_true rfl)
  have hgo : entryFrame m args 1 = entryFrame m ([.ref (z + 340)] : List Value).toArray 1 := by rw [ha]
  rw [hgo, lg_entry_eq]
  generalize (lg_sl ([.ref (z + 340)]) ++ List.replicate (1 - (lg_sl ([.ref (z + 340)])).length) Slot.unset).toArray = ls at hl ⊢
  have hl : lv_has ls 1 [(0, .ref (z + 340))] := hl
  refine lv_aload_n hx hb dX6_isWell_0 rfl (lv_at hl 0 rfl) ?_
  refine dk_get hx hb hts iX6_isWell_6 hown hK (dk_at340 hW) rfl 8 (by decide) (hts (.fieldLink RX6 101 "DogKingsModel" "faultPlace" "I") (List.mem_of_getElem? (i := 1) rfl)) rfl dX6_isWell_1 ?_
  refine lv_topi (fun v1 ev1 => ?_)
  have dv1 : dkN [(-1, -1)] v1 := by rw [ev1]; exact n340_8
  refine lv_if_ge (tgt := 11) hx hb dX6_isWell_4 (by decide) (fun c2 => ?_) (fun c2 => ?_)
  ·
    exact (dkN_nil (show dkN [] 0 from dkN_le1 0 (dkN_lit (x := 0) (0) rfl) dv1 (dkc_le c2) rfl)).elim
  ·
    refine lv_iconst (v := 1) hx hb dX6_isWell_7 (by decide) ?_
    refine lv_goto (tgt := 12) hx hb dX6_isWell_8 (by decide) ?_
    exact W.zret (v := 1) (ty := .boolean) hx hb hr rfl (fun t ht hW9 => ⟨⟨1, I0, rfl, ⟨dkN_sub (dkN_lit (x := 1) (1) rfl) rfl, hF, trivial⟩, dkW_eq ht hW⟩, hS.F ht⟩) hS.2.2 dX6_isWell_12
set_option maxHeartbeats 4000000 in
set_option maxRecDepth 100000 in
theorem c_X6_takes_0 (l : Launch) (g : dkG) (z : Nat) (I0 : dkI) (p0 p1 : Int32) (dp0 : dkN [(0, 0)] p0) (dp1 : dkN [(1, 1)] p1) (n340_10 : dkN [(0, 0)] (I0 340 10)) (n340_8 : dkN [(-1, -1)] (I0 340 8)) : Met l yX6_takes wsX6_takes (dkR 1) (dkPc g z [.ref (z + 340), .int p0, .int p1] I0) (dkQi g z (fun r I1 => dkN [(0, 0)] r ∧ dkF [(340, 340, some 7), (340, 340, some 8)] I0 I1 ∧ dkN [(1, 1)] (I1 340 7) ∧ dkN [(0, 0)] (I1 340 8) ∧ True)) 0 0 (dkA z) := by
  refine Met.ofW (cc := cX6_takes) (maxL := 4) (ret := (some .int)) (by decide) rfl ?_
  intro p e s m args below meth c s₁ B hml hv
  obtain ⟨ha, hW, hK⟩ := hv
  have hx := B.exec
  have hb := B.bytes
  have hr := B.returns
  have hts := atoms_spec (ws := wsX6_takes) B.pre
  have hown : s.vm.findClass RX6 = some m.cls := findClass_of_methodNamed B.named
  have hlocks := B.notSynchronized
  have hS : va_S (dkA z) s.heap s.heap [] := va_S.rf
  have hF : dkF [(340, 340, some 7), (340, 340, some 8)] I0 I0 := dkF_rf _ _
  have hl := lv_entry ([.ref (z + 340), .int p0, .int p1]) (n := 4) (Nat.le_of_ble_eq_true rfl)
  have hgo : entryFrame m args 4 = entryFrame m ([.ref (z + 340), .int p0, .int p1] : List Value).toArray 4 := by rw [ha]
  rw [hgo, lg_entry_eq]
  generalize (lg_sl ([.ref (z + 340), .int p0, .int p1]) ++ List.replicate (4 - (lg_sl ([.ref (z + 340), .int p0, .int p1])).length) Slot.unset).toArray = ls at hl ⊢
  have hl : lv_has ls 4 [(0, .ref (z + 340)), (1, .int p0), (2, .int p1)] := hl
  refine lv_aload_n hx hb dX6_takes_0 rfl (lv_at hl 0 rfl) ?_
  refine dk_Vi (As := []) (rest := []) ⟨hx, hb, hml, hown, hts⟩ (c_X6_isWell_0 l g z I0 n340_8) (cwV 0 hts gX6_takes_X6_isWell rfl rfl rfl (by decide +kernel) ⟨Nat.le_of_ble_eq_true rfl, Nat.le_of_ble_eq_true rfl⟩) (dk_at340 hW) rfl hK hW hS rfl hl.1 rfl (Nat.le_of_ble_eq_true rfl) dX6_takes_1 ⟨Nat.zero_le _, Nat.zero_le _⟩ (fun v1 I1 H1 L1 hp1 hW hS => ?_)
  obtain ⟨dv1, hF1, -⟩ := hp1
  have hF := dkF_call hF hF1 rfl
  refine lv_if_ne (tgt := 9) hx hb dX6_takes_4 (by decide) (fun c2 => ?_) (fun c2 => ?_)
  ·
    refine lv_iload_n hx hb dX6_takes_9 rfl (lv_at hl 1 rfl) ?_
    refine lv_if_ne (tgt := 28) hx hb dX6_takes_10 (by decide) (fun c3 => ?_) (fun c3 => ?_)
    ·
      exact (dkN_nil (show dkN [] p0 from dkN_ne1 (0) dp0 (dkN_lit (x := 0) (0) rfl) (dk_ne c3) rfl)).elim
    ·
      refine lv_aload_n hx hb dX6_takes_13 rfl (lv_at hl 0 rfl) ?_
      refine lv_aload_n hx hb dX6_takes_14 rfl (lv_at hl 0 rfl) ?_
      refine dk_get hx hb hts iX6_takes_6 hown hK (dk_at340 hW) rfl 10 (by decide) (hts (.fieldLink RX6 89 "DogKingsModel" "start" "I") (List.mem_of_getElem? (i := 1) rfl)) rfl dX6_takes_15 ?_
      refine lv_topi (fun v4 ev4 => ?_)
      have dv4 : dkN [(0, 0)] v4 := by rw [ev4]; exact (by rw [hF1 340 10 rfl]; exact n340_10)
      refine dk_put hx hb hts iX6_takes_6 tyX6 tyX6_ok nmX6 hown hK hW (dk_at340 hW) hS rfl 8 (by decide) (hts (.fieldLink RX6 101 "DogKingsModel" "faultPlace" "I") (List.mem_of_getElem? (i := 2) rfl)) rfl rfl (Nat.le_of_ble_eq_true rfl) rfl dX6_takes_18 (fun I5 H5 L5 eI5 hW hS => ?_)
      have eI5 : I5 = dkU I1 340 8 v4 := eI5
      have hF := dkF_set hF eI5 rfl
      refine lv_aload_n hx hb dX6_takes_21 rfl (lv_at hl 0 rfl) ?_
      refine lv_iload_n hx hb dX6_takes_22 rfl (lv_at hl 2 rfl) ?_
      refine dk_put hx hb hts iX6_takes_6 tyX6 tyX6_ok nmX6 hown hK hW (dk_at340 hW) hS rfl 7 (by decide) (hts (.fieldLink RX6 108 "DogKingsModel" "faultKind" "I") (List.mem_of_getElem? (i := 3) rfl)) rfl rfl (Nat.le_of_ble_eq_true rfl) rfl dX6_takes_23 (fun I6 H6 L6 eI6 hW hS => ?_)
      have eI6 : I6 = dkU I5 340 7 p1 := eI6
      have hF := dkF_set hF eI6 rfl
      refine lv_iconst (v := 0) hx hb dX6_takes_26 (by decide) ?_
      exact W.iret (v := 0) hx hb hr (fun t ht hW9 => ⟨⟨0, I6, rfl, ⟨dkN_sub (dkN_lit (x := 0) (0) rfl) rfl, hF, dkN_sub (by rw [eI6, dkU_ss]; exact dp1) rfl, dkN_sub (by rw [eI6, dkU_sn (by decide)]; exact (by rw [eI5, dkU_ss]; exact dv4)) rfl, trivial⟩, dkW_eq ht hW⟩, hS.F ht⟩) hS.2.2 dX6_takes_27
  ·
    exact (dkN_nil (show dkN [] v1 from dkN_eq1 dv1 (dkN_lit (x := 0) (0) rfl) (congrArg Int32.toInt c2) rfl)).elim
set_option maxHeartbeats 4000000 in
set_option maxRecDepth 100000 in
theorem c_X6_isWell_1 (l : Launch) (g : dkG) (z : Nat) (I0 : dkI) (n340_8 : dkN [(0, 0)] (I0 340 8)) : Met l yX6_isWell wsX6_isWell (dkR 0) (dkPc g z [.ref (z + 340)] I0) (dkQi g z (fun r I1 => dkN [(0, 0)] r ∧ dkF [] I0 I1 ∧ True)) 0 0 (dkA z) := by
  refine Met.ofW (cc := cX6_isWell) (maxL := 1) (ret := (some .boolean)) (by decide) rfl ?_
  intro p e s m args below meth c s₁ B hml hv
  obtain ⟨ha, hW, hK⟩ := hv
  have hx := B.exec
  have hb := B.bytes
  have hr := B.returns
  have hts := atoms_spec (ws := wsX6_isWell) B.pre
  have hown : s.vm.findClass RX6 = some m.cls := findClass_of_methodNamed B.named
  have hlocks := B.notSynchronized
  have hS : va_S (dkA z) s.heap s.heap [] := va_S.rf
  have hF : dkF [] I0 I0 := dkF_rf _ _
  have hl := lv_entry ([.ref (z + 340)]) (n := 1) (Nat.le_of_ble_eq_true rfl)
  have hgo : entryFrame m args 1 = entryFrame m ([.ref (z + 340)] : List Value).toArray 1 := by rw [ha]
  rw [hgo, lg_entry_eq]
  generalize (lg_sl ([.ref (z + 340)]) ++ List.replicate (1 - (lg_sl ([.ref (z + 340)])).length) Slot.unset).toArray = ls at hl ⊢
  have hl : lv_has ls 1 [(0, .ref (z + 340))] := hl
  refine lv_aload_n hx hb dX6_isWell_0 rfl (lv_at hl 0 rfl) ?_
  refine dk_get hx hb hts iX6_isWell_6 hown hK (dk_at340 hW) rfl 8 (by decide) (hts (.fieldLink RX6 101 "DogKingsModel" "faultPlace" "I") (List.mem_of_getElem? (i := 1) rfl)) rfl dX6_isWell_1 ?_
  refine lv_topi (fun v1 ev1 => ?_)
  have dv1 : dkN [(0, 0)] v1 := by rw [ev1]; exact n340_8
  refine lv_if_ge (tgt := 11) hx hb dX6_isWell_4 (by decide) (fun c2 => ?_) (fun c2 => ?_)
  ·
    refine lv_iconst (v := 0) hx hb dX6_isWell_11 (by decide) ?_
    exact W.zret (v := 0) (ty := .boolean) hx hb hr rfl (fun t ht hW9 => ⟨⟨0, I0, rfl, ⟨dkN_sub (dkN_lit (x := 0) (0) rfl) rfl, hF, trivial⟩, dkW_eq ht hW⟩, hS.F ht⟩) hS.2.2 dX6_isWell_12
  ·
    exact (dkN_nil (show dkN [] 0 from dkN_le2 1 dv1 (dkN_lit (x := 0) (0) rfl) (dkc_nle c2) rfl)).elim
set_option maxHeartbeats 4000000 in
set_option maxRecDepth 100000 in
theorem c_X6_in_15 (l : Launch) (g : dkG) (z : Nat) (I0 : dkI) (p0 p1 p2 : Int32) (dp0 : dkN [(-1, -1)] p0) (dp1 : dkN [(3, 3)] p1) (dp2 : dkN [(9, 9)] p2) : Met l yX6_in wsX6_in (dkR 0) (dkPc g z [.int p0, .int p1, .int p2] I0) (dkQi g z (fun r I1 => dkN [(0, 0)] r ∧ dkF [] I0 I1 ∧ True)) 0 0 (dkA z) := by
  refine Met.ofW (cc := cX6_in) (maxL := 3) (ret := (some .boolean)) (by decide) rfl ?_
  intro p e s m args below meth c s₁ B hml hv
  obtain ⟨ha, hW, hK⟩ := hv
  have hx := B.exec
  have hb := B.bytes
  have hr := B.returns
  have hts := atoms_spec (ws := wsX6_in) B.pre
  have hown : s.vm.findClass RX6 = some m.cls := findClass_of_methodNamed B.named
  have hlocks := B.notSynchronized
  have hS : va_S (dkA z) s.heap s.heap [] := va_S.rf
  have hF : dkF [] I0 I0 := dkF_rf _ _
  have hl := lv_entry ([.int p0, .int p1, .int p2]) (n := 3) (Nat.le_of_ble_eq_true rfl)
  have hgo : entryFrame m args 3 = entryFrame m ([.int p0, .int p1, .int p2] : List Value).toArray 3 := by rw [ha]
  rw [hgo, lg_entry_eq]
  generalize (lg_sl ([.int p0, .int p1, .int p2]) ++ List.replicate (3 - (lg_sl ([.int p0, .int p1, .int p2])).length) Slot.unset).toArray = ls at hl ⊢
  have hl : lv_has ls 3 [(0, .int p0), (1, .int p1), (2, .int p2)] := hl
  refine lv_iload_n hx hb dX6_in_0 rfl (lv_at hl 0 rfl) ?_
  refine lv_iload_n hx hb dX6_in_1 rfl (lv_at hl 1 rfl) ?_
  refine lv_icmp_lt (tgt := 14) hx hb dX6_in_2 (by decide) (fun c1 => ?_) (fun c1 => ?_)
  ·
    refine lv_iconst (v := 0) hx hb dX6_in_14 (by decide) ?_
    exact W.zret (v := 0) (ty := .boolean) hx hb hr rfl (fun t ht hW9 => ⟨⟨0, I0, rfl, ⟨dkN_sub (dkN_lit (x := 0) (0) rfl) rfl, hF, trivial⟩, dkW_eq ht hW⟩, hS.F ht⟩) hS.2.2 dX6_in_15
  ·
    exact (dkN_nil (show dkN [] p0 from dkN_le2 0 dp1 dp0 (dkc_nlt c1) rfl)).elim
set_option maxHeartbeats 4000000 in
set_option maxRecDepth 100000 in
theorem c_X6_takes_1 (l : Launch) (g : dkG) (z : Nat) (I0 : dkI) (p0 p1 : Int32) (dp0 : dkN [(0, 0)] p0) (dp1 : dkN [(2, 2)] p1) (n340_8 : dkN [(0, 0)] (I0 340 8)) : Met l yX6_takes wsX6_takes (dkR 1) (dkPc g z [.ref (z + 340), .int p0, .int p1] I0) (dkQi g z (fun r I1 => dkN [(0, 0)] r ∧ dkF [] I0 I1 ∧ True)) 0 0 (dkA z) := by
  refine Met.ofW (cc := cX6_takes) (maxL := 4) (ret := (some .int)) (by decide) rfl ?_
  intro p e s m args below meth c s₁ B hml hv
  obtain ⟨ha, hW, hK⟩ := hv
  have hx := B.exec
  have hb := B.bytes
  have hr := B.returns
  have hts := atoms_spec (ws := wsX6_takes) B.pre
  have hown : s.vm.findClass RX6 = some m.cls := findClass_of_methodNamed B.named
  have hlocks := B.notSynchronized
  have hS : va_S (dkA z) s.heap s.heap [] := va_S.rf
  have hF : dkF [] I0 I0 := dkF_rf _ _
  have hl := lv_entry ([.ref (z + 340), .int p0, .int p1]) (n := 4) (Nat.le_of_ble_eq_true rfl)
  have hgo : entryFrame m args 4 = entryFrame m ([.ref (z + 340), .int p0, .int p1] : List Value).toArray 4 := by rw [ha]
  rw [hgo, lg_entry_eq]
  generalize (lg_sl ([.ref (z + 340), .int p0, .int p1]) ++ List.replicate (4 - (lg_sl ([.ref (z + 340), .int p0, .int p1])).length) Slot.unset).toArray = ls at hl ⊢
  have hl : lv_has ls 4 [(0, .ref (z + 340)), (1, .int p0), (2, .int p1)] := hl
  refine lv_aload_n hx hb dX6_takes_0 rfl (lv_at hl 0 rfl) ?_
  refine dk_Vi (As := []) (rest := []) ⟨hx, hb, hml, hown, hts⟩ (c_X6_isWell_1 l g z I0 n340_8) (cwV 0 hts gX6_takes_X6_isWell rfl rfl rfl (by decide +kernel) ⟨Nat.le_of_ble_eq_true rfl, Nat.le_of_ble_eq_true rfl⟩) (dk_at340 hW) rfl hK hW hS rfl hl.1 rfl (Nat.le_of_ble_eq_true rfl) dX6_takes_1 ⟨Nat.zero_le _, Nat.zero_le _⟩ (fun v1 I1 H1 L1 hp1 hW hS => ?_)
  obtain ⟨dv1, hF1, -⟩ := hp1
  have hF := dkF_call hF hF1 rfl
  refine lv_if_ne (tgt := 9) hx hb dX6_takes_4 (by decide) (fun c2 => ?_) (fun c2 => ?_)
  ·
    exact (dkN_nil (show dkN [] v1 from dkN_ne1 (0) dv1 (dkN_lit (x := 0) (0) rfl) (dk_ne c2) rfl)).elim
  ·
    refine lv_iconst (v := 0) hx hb dX6_takes_7 (by decide) ?_
    exact W.iret (v := 0) hx hb hr (fun t ht hW9 => ⟨⟨0, I1, rfl, ⟨dkN_sub (dkN_lit (x := 0) (0) rfl) rfl, hF, trivial⟩, dkW_eq ht hW⟩, hS.F ht⟩) hS.2.2 dX6_takes_8
set_option maxHeartbeats 4000000 in
set_option maxRecDepth 100000 in
theorem c_X6_figure_0 (l : Launch) (g : dkG) (z : Nat) (I0 : dkI) (p0 p1 : Int32) (dp0 : dkN [(3, 3)] p0) (dp1 : dkN [(9, 9)] p1) (n340_12 : dkN [(-1, -1)] (I0 340 12)) (n340_8 : dkN [(0, 0)] (I0 340 8)) : Met l yX6_figure wsX6_figure (dkR 2) (dkPc g z [.ref (z + 340), .int p0, .int p1] I0) (dkQi g z (fun r I1 => dkN [(0, 0)] r ∧ dkF [] I0 I1 ∧ True)) 0 0 (dkA z) := by
  refine Met.ofW (cc := cX6_figure) (maxL := 3) (ret := (some .int)) (by decide) rfl ?_
  intro p e s m args below meth c s₁ B hml hv
  obtain ⟨ha, hW, hK⟩ := hv
  have hx := B.exec
  have hb := B.bytes
  have hr := B.returns
  have hts := atoms_spec (ws := wsX6_figure) B.pre
  have hown : s.vm.findClass RX6 = some m.cls := findClass_of_methodNamed B.named
  have hlocks := B.notSynchronized
  have hS : va_S (dkA z) s.heap s.heap [] := va_S.rf
  have hF : dkF [] I0 I0 := dkF_rf _ _
  have hl := lv_entry ([.ref (z + 340), .int p0, .int p1]) (n := 3) (Nat.le_of_ble_eq_true rfl)
  have hgo : entryFrame m args 3 = entryFrame m ([.ref (z + 340), .int p0, .int p1] : List Value).toArray 3 := by rw [ha]
  rw [hgo, lg_entry_eq]
  generalize (lg_sl ([.ref (z + 340), .int p0, .int p1]) ++ List.replicate (3 - (lg_sl ([.ref (z + 340), .int p0, .int p1])).length) Slot.unset).toArray = ls at hl ⊢
  have hl : lv_has ls 3 [(0, .ref (z + 340)), (1, .int p0), (2, .int p1)] := hl
  have C22 : ∀ (I : dkI) (H : Heap) (locs : List Loc) (ls : Array Slot), dkW g z I H → va_S (dkA z) s.heap H locs → dkF [] I0 I → lv_has ls 3 [(0, .ref (z + 340)), (1, .int p0), (2, .int p1)] → W p l e (headSpec wsX6_figure (dkR 2)).room s m args below meth c H locs 0 0 (MQ below (dkQi g z (fun r I1 => dkN [(0, 0)] r ∧ dkF [] I0 I1 ∧ True)) args s 0 0 (dkA z)) (F0 m 22 ls []) := by
    intro I22_ H locs ls hW hS hF_22 hl
    have hF := hF_22
    refine lv_aload_n hx hb dX6_figure_22 rfl (lv_at hl 0 rfl) ?_
    refine lv_aload_n hx hb dX6_figure_23 rfl (lv_at hl 0 rfl) ?_
    refine dk_get hx hb hts iX6_figure_6 hown hK (dk_at340 hW) rfl 12 (by decide) (hts (.fieldLink RX6 95 "DogKingsModel" "value" "I") (List.mem_of_getElem? (i := 2) rfl)) rfl dX6_figure_24 ?_
    refine lv_topi (fun v1 ev1 => ?_)
    have dv1 : dkN [(-1, -1)] v1 := by rw [ev1]; exact (by rw [hF_22 340 12 rfl]; exact n340_12)
    refine lv_iload_n hx hb dX6_figure_27 rfl (lv_at hl 1 rfl) ?_
    refine lv_iload_n hx hb dX6_figure_28 rfl (lv_at hl 2 rfl) ?_
    refine dk_Si (As := [.int v1, .int p0, .int p1]) (rest := [.ref (z + 340)]) ⟨hx, hb, hml, hown, hts⟩ (c_X6_in_15 l g z I22_ v1 p0 p1 dv1 dp0 dp1) (va_cwS 3 hts gX6_figure_X6_in rfl rfl rfl (by decide +kernel) ⟨Nat.le_of_ble_eq_true rfl, Nat.le_of_ble_eq_true rfl⟩) hK hW hS rfl hl.1 rfl (Nat.le_of_ble_eq_true rfl) dX6_figure_29 ⟨Nat.zero_le _, Nat.zero_le _⟩ (fun v2 I2 H2 L2 hp2 hW hS => ?_)
    obtain ⟨dv2, hF2, -⟩ := hp2
    have hF := dkF_call hF hF2 rfl
    refine lv_iconst (v := 2) hx hb dX6_figure_32 (by decide) ?_
    refine dk_Vi (As := [.int v2, .int 2]) (rest := []) ⟨hx, hb, hml, hown, hts⟩ (c_X6_takes_1 l g z I2 v2 2 dv2 (dkN_lit (x := 2) (2) rfl) (by rw [hF2 340 8 rfl]; exact (by rw [hF_22 340 8 rfl]; exact n340_8))) (cwV 2 hts gX6_figure_X6_takes rfl rfl rfl (by decide +kernel) ⟨Nat.le_of_ble_eq_true rfl, Nat.le_of_ble_eq_true rfl⟩) (dk_at340 hW) rfl hK hW hS rfl hl.1 rfl (Nat.le_of_ble_eq_true rfl) dX6_figure_33 ⟨Nat.zero_le _, Nat.zero_le _⟩ (fun v3 I3 H3 L3 hp3 hW hS => ?_)
    obtain ⟨dv3, hF3, -⟩ := hp3
    have hF := dkF_call hF hF3 rfl
    exact W.iret (v := v3) hx hb hr (fun t ht hW9 => ⟨⟨v3, I3, rfl, ⟨dkN_sub dv3 rfl, hF, trivial⟩, dkW_eq ht hW⟩, hS.F ht⟩) hS.2.2 dX6_figure_36
  refine lv_aload_n hx hb dX6_figure_0 rfl (lv_at hl 0 rfl) ?_
  refine dk_Vi (As := []) (rest := []) ⟨hx, hb, hml, hown, hts⟩ (c_X6_isWell_1 l g z I0 n340_8) (cwV 0 hts gX6_figure_X6_isWell rfl rfl rfl (by decide +kernel) ⟨Nat.le_of_ble_eq_true rfl, Nat.le_of_ble_eq_true rfl⟩) (dk_at340 hW) rfl hK hW hS rfl hl.1 rfl (Nat.le_of_ble_eq_true rfl) dX6_figure_1 ⟨Nat.zero_le _, Nat.zero_le _⟩ (fun v4 I4 H4 L4 hp4 hW hS => ?_)
  obtain ⟨dv4, hF4, -⟩ := hp4
  have hF := dkF_call hF hF4 rfl
  refine lv_if_eq (tgt := 22) hx hb dX6_figure_4 (by decide) (fun c5 => ?_) (fun c5 => ?_)
  ·
    exact C22 I4 _ _ ls  hW hS hF  (lv_sub hl [0, 1, 2] rfl)
  ·
    exact (dkN_nil (show dkN [] v4 from dkN_ne1 (0) dv4 (dkN_lit (x := 0) (0) rfl) (dk_ne c5) rfl)).elim
set_option maxHeartbeats 4000000 in
set_option maxRecDepth 100000 in
theorem c_X6_takes_2 (l : Launch) (g : dkG) (z : Nat) (I0 : dkI) (p0 p1 : Int32) (dp0 : dkN [(0, 0)] p0) (dp1 : dkN [(1, 1)] p1) (n340_8 : dkN [(0, 0)] (I0 340 8)) : Met l yX6_takes wsX6_takes (dkR 1) (dkPc g z [.ref (z + 340), .int p0, .int p1] I0) (dkQi g z (fun r I1 => dkN [(0, 0)] r ∧ dkF [] I0 I1 ∧ True)) 0 0 (dkA z) := by
  refine Met.ofW (cc := cX6_takes) (maxL := 4) (ret := (some .int)) (by decide) rfl ?_
  intro p e s m args below meth c s₁ B hml hv
  obtain ⟨ha, hW, hK⟩ := hv
  have hx := B.exec
  have hb := B.bytes
  have hr := B.returns
  have hts := atoms_spec (ws := wsX6_takes) B.pre
  have hown : s.vm.findClass RX6 = some m.cls := findClass_of_methodNamed B.named
  have hlocks := B.notSynchronized
  have hS : va_S (dkA z) s.heap s.heap [] := va_S.rf
  have hF : dkF [] I0 I0 := dkF_rf _ _
  have hl := lv_entry ([.ref (z + 340), .int p0, .int p1]) (n := 4) (Nat.le_of_ble_eq_true rfl)
  have hgo : entryFrame m args 4 = entryFrame m ([.ref (z + 340), .int p0, .int p1] : List Value).toArray 4 := by rw [ha]
  rw [hgo, lg_entry_eq]
  generalize (lg_sl ([.ref (z + 340), .int p0, .int p1]) ++ List.replicate (4 - (lg_sl ([.ref (z + 340), .int p0, .int p1])).length) Slot.unset).toArray = ls at hl ⊢
  have hl : lv_has ls 4 [(0, .ref (z + 340)), (1, .int p0), (2, .int p1)] := hl
  refine lv_aload_n hx hb dX6_takes_0 rfl (lv_at hl 0 rfl) ?_
  refine dk_Vi (As := []) (rest := []) ⟨hx, hb, hml, hown, hts⟩ (c_X6_isWell_1 l g z I0 n340_8) (cwV 0 hts gX6_takes_X6_isWell rfl rfl rfl (by decide +kernel) ⟨Nat.le_of_ble_eq_true rfl, Nat.le_of_ble_eq_true rfl⟩) (dk_at340 hW) rfl hK hW hS rfl hl.1 rfl (Nat.le_of_ble_eq_true rfl) dX6_takes_1 ⟨Nat.zero_le _, Nat.zero_le _⟩ (fun v1 I1 H1 L1 hp1 hW hS => ?_)
  obtain ⟨dv1, hF1, -⟩ := hp1
  have hF := dkF_call hF hF1 rfl
  refine lv_if_ne (tgt := 9) hx hb dX6_takes_4 (by decide) (fun c2 => ?_) (fun c2 => ?_)
  ·
    exact (dkN_nil (show dkN [] v1 from dkN_ne1 (0) dv1 (dkN_lit (x := 0) (0) rfl) (dk_ne c2) rfl)).elim
  ·
    refine lv_iconst (v := 0) hx hb dX6_takes_7 (by decide) ?_
    exact W.iret (v := 0) hx hb hr (fun t ht hW9 => ⟨⟨0, I1, rfl, ⟨dkN_sub (dkN_lit (x := 0) (0) rfl) rfl, hF, trivial⟩, dkW_eq ht hW⟩, hS.F ht⟩) hS.2.2 dX6_takes_8
set_option maxHeartbeats 4000000 in
set_option maxRecDepth 100000 in
theorem c_X6_in_16 (l : Launch) (g : dkG) (z : Nat) (I0 : dkI) (p0 p1 p2 : Int32) (dp0 : dkN [(-1, -1)] p0) (dp1 : dkN [(1, 1)] p1) (dp2 : dkN [(30, 30)] p2) : Met l yX6_in wsX6_in (dkR 0) (dkPc g z [.int p0, .int p1, .int p2] I0) (dkQi g z (fun r I1 => dkN [(0, 0)] r ∧ dkF [] I0 I1 ∧ True)) 0 0 (dkA z) := by
  refine Met.ofW (cc := cX6_in) (maxL := 3) (ret := (some .boolean)) (by decide) rfl ?_
  intro p e s m args below meth c s₁ B hml hv
  obtain ⟨ha, hW, hK⟩ := hv
  have hx := B.exec
  have hb := B.bytes
  have hr := B.returns
  have hts := atoms_spec (ws := wsX6_in) B.pre
  have hown : s.vm.findClass RX6 = some m.cls := findClass_of_methodNamed B.named
  have hlocks := B.notSynchronized
  have hS : va_S (dkA z) s.heap s.heap [] := va_S.rf
  have hF : dkF [] I0 I0 := dkF_rf _ _
  have hl := lv_entry ([.int p0, .int p1, .int p2]) (n := 3) (Nat.le_of_ble_eq_true rfl)
  have hgo : entryFrame m args 3 = entryFrame m ([.int p0, .int p1, .int p2] : List Value).toArray 3 := by rw [ha]
  rw [hgo, lg_entry_eq]
  generalize (lg_sl ([.int p0, .int p1, .int p2]) ++ List.replicate (3 - (lg_sl ([.int p0, .int p1, .int p2])).length) Slot.unset).toArray = ls at hl ⊢
  have hl : lv_has ls 3 [(0, .int p0), (1, .int p1), (2, .int p2)] := hl
  refine lv_iload_n hx hb dX6_in_0 rfl (lv_at hl 0 rfl) ?_
  refine lv_iload_n hx hb dX6_in_1 rfl (lv_at hl 1 rfl) ?_
  refine lv_icmp_lt (tgt := 14) hx hb dX6_in_2 (by decide) (fun c1 => ?_) (fun c1 => ?_)
  ·
    refine lv_iconst (v := 0) hx hb dX6_in_14 (by decide) ?_
    exact W.zret (v := 0) (ty := .boolean) hx hb hr rfl (fun t ht hW9 => ⟨⟨0, I0, rfl, ⟨dkN_sub (dkN_lit (x := 0) (0) rfl) rfl, hF, trivial⟩, dkW_eq ht hW⟩, hS.F ht⟩) hS.2.2 dX6_in_15
  ·
    exact (dkN_nil (show dkN [] p0 from dkN_le2 0 dp1 dp0 (dkc_nlt c1) rfl)).elim
set_option maxHeartbeats 4000000 in
set_option maxRecDepth 100000 in
theorem c_X6_figure_1 (l : Launch) (g : dkG) (z : Nat) (I0 : dkI) (p0 p1 : Int32) (dp0 : dkN [(1, 1)] p0) (dp1 : dkN [(30, 30)] p1) (n340_12 : dkN [(-1, -1)] (I0 340 12)) (n340_8 : dkN [(0, 0)] (I0 340 8)) : Met l yX6_figure wsX6_figure (dkR 2) (dkPc g z [.ref (z + 340), .int p0, .int p1] I0) (dkQi g z (fun r I1 => dkN [(0, 0)] r ∧ dkF [] I0 I1 ∧ True)) 0 0 (dkA z) := by
  refine Met.ofW (cc := cX6_figure) (maxL := 3) (ret := (some .int)) (by decide) rfl ?_
  intro p e s m args below meth c s₁ B hml hv
  obtain ⟨ha, hW, hK⟩ := hv
  have hx := B.exec
  have hb := B.bytes
  have hr := B.returns
  have hts := atoms_spec (ws := wsX6_figure) B.pre
  have hown : s.vm.findClass RX6 = some m.cls := findClass_of_methodNamed B.named
  have hlocks := B.notSynchronized
  have hS : va_S (dkA z) s.heap s.heap [] := va_S.rf
  have hF : dkF [] I0 I0 := dkF_rf _ _
  have hl := lv_entry ([.ref (z + 340), .int p0, .int p1]) (n := 3) (Nat.le_of_ble_eq_true rfl)
  have hgo : entryFrame m args 3 = entryFrame m ([.ref (z + 340), .int p0, .int p1] : List Value).toArray 3 := by rw [ha]
  rw [hgo, lg_entry_eq]
  generalize (lg_sl ([.ref (z + 340), .int p0, .int p1]) ++ List.replicate (3 - (lg_sl ([.ref (z + 340), .int p0, .int p1])).length) Slot.unset).toArray = ls at hl ⊢
  have hl : lv_has ls 3 [(0, .ref (z + 340)), (1, .int p0), (2, .int p1)] := hl
  have C22 : ∀ (I : dkI) (H : Heap) (locs : List Loc) (ls : Array Slot), dkW g z I H → va_S (dkA z) s.heap H locs → dkF [] I0 I → lv_has ls 3 [(0, .ref (z + 340)), (1, .int p0), (2, .int p1)] → W p l e (headSpec wsX6_figure (dkR 2)).room s m args below meth c H locs 0 0 (MQ below (dkQi g z (fun r I1 => dkN [(0, 0)] r ∧ dkF [] I0 I1 ∧ True)) args s 0 0 (dkA z)) (F0 m 22 ls []) := by
    intro I22_ H locs ls hW hS hF_22 hl
    have hF := hF_22
    refine lv_aload_n hx hb dX6_figure_22 rfl (lv_at hl 0 rfl) ?_
    refine lv_aload_n hx hb dX6_figure_23 rfl (lv_at hl 0 rfl) ?_
    refine dk_get hx hb hts iX6_figure_6 hown hK (dk_at340 hW) rfl 12 (by decide) (hts (.fieldLink RX6 95 "DogKingsModel" "value" "I") (List.mem_of_getElem? (i := 2) rfl)) rfl dX6_figure_24 ?_
    refine lv_topi (fun v1 ev1 => ?_)
    have dv1 : dkN [(-1, -1)] v1 := by rw [ev1]; exact (by rw [hF_22 340 12 rfl]; exact n340_12)
    refine lv_iload_n hx hb dX6_figure_27 rfl (lv_at hl 1 rfl) ?_
    refine lv_iload_n hx hb dX6_figure_28 rfl (lv_at hl 2 rfl) ?_
    refine dk_Si (As := [.int v1, .int p0, .int p1]) (rest := [.ref (z + 340)]) ⟨hx, hb, hml, hown, hts⟩ (c_X6_in_16 l g z I22_ v1 p0 p1 dv1 dp0 dp1) (va_cwS 3 hts gX6_figure_X6_in rfl rfl rfl (by decide +kernel) ⟨Nat.le_of_ble_eq_true rfl, Nat.le_of_ble_eq_true rfl⟩) hK hW hS rfl hl.1 rfl (Nat.le_of_ble_eq_true rfl) dX6_figure_29 ⟨Nat.zero_le _, Nat.zero_le _⟩ (fun v2 I2 H2 L2 hp2 hW hS => ?_)
    obtain ⟨dv2, hF2, -⟩ := hp2
    have hF := dkF_call hF hF2 rfl
    refine lv_iconst (v := 2) hx hb dX6_figure_32 (by decide) ?_
    refine dk_Vi (As := [.int v2, .int 2]) (rest := []) ⟨hx, hb, hml, hown, hts⟩ (c_X6_takes_1 l g z I2 v2 2 dv2 (dkN_lit (x := 2) (2) rfl) (by rw [hF2 340 8 rfl]; exact (by rw [hF_22 340 8 rfl]; exact n340_8))) (cwV 2 hts gX6_figure_X6_takes rfl rfl rfl (by decide +kernel) ⟨Nat.le_of_ble_eq_true rfl, Nat.le_of_ble_eq_true rfl⟩) (dk_at340 hW) rfl hK hW hS rfl hl.1 rfl (Nat.le_of_ble_eq_true rfl) dX6_figure_33 ⟨Nat.zero_le _, Nat.zero_le _⟩ (fun v3 I3 H3 L3 hp3 hW hS => ?_)
    obtain ⟨dv3, hF3, -⟩ := hp3
    have hF := dkF_call hF hF3 rfl
    exact W.iret (v := v3) hx hb hr (fun t ht hW9 => ⟨⟨v3, I3, rfl, ⟨dkN_sub dv3 rfl, hF, trivial⟩, dkW_eq ht hW⟩, hS.F ht⟩) hS.2.2 dX6_figure_36
  refine lv_aload_n hx hb dX6_figure_0 rfl (lv_at hl 0 rfl) ?_
  refine dk_Vi (As := []) (rest := []) ⟨hx, hb, hml, hown, hts⟩ (c_X6_isWell_1 l g z I0 n340_8) (cwV 0 hts gX6_figure_X6_isWell rfl rfl rfl (by decide +kernel) ⟨Nat.le_of_ble_eq_true rfl, Nat.le_of_ble_eq_true rfl⟩) (dk_at340 hW) rfl hK hW hS rfl hl.1 rfl (Nat.le_of_ble_eq_true rfl) dX6_figure_1 ⟨Nat.zero_le _, Nat.zero_le _⟩ (fun v4 I4 H4 L4 hp4 hW hS => ?_)
  obtain ⟨dv4, hF4, -⟩ := hp4
  have hF := dkF_call hF hF4 rfl
  refine lv_if_eq (tgt := 22) hx hb dX6_figure_4 (by decide) (fun c5 => ?_) (fun c5 => ?_)
  ·
    exact C22 I4 _ _ ls  hW hS hF  (lv_sub hl [0, 1, 2] rfl)
  ·
    exact (dkN_nil (show dkN [] v4 from dkN_ne1 (0) dv4 (dkN_lit (x := 0) (0) rfl) (dk_ne c5) rfl)).elim
set_option maxHeartbeats 4000000 in
set_option maxRecDepth 100000 in
theorem c_X6_follows_0 (l : Launch) (g : dkG) (z : Nat) (I0 : dkI) (p0 p1 : Int32) (dp0 : dkN [(1, 1)] p0) (dp1 : dkN [(30, 30)] p1) (n340_11 : dkN [(0, 0)] (I0 340 11)) (n340_12 : dkN [(-1, -1)] (I0 340 12)) (n340_8 : dkN [(0, 0)] (I0 340 8)) : Met l yX6_follows wsX6_follows (dkR 3) (dkPc g z [.ref (z + 340), .int p0, .int p1] I0) (dkQi g z (fun r I1 => dkN [(0, 0)] r ∧ dkF [] I0 I1 ∧ True)) 0 0 (dkA z) := by
  refine Met.ofW (cc := cX6_follows) (maxL := 3) (ret := (some .int)) (by decide) rfl ?_
  intro p e s m args below meth c s₁ B hml hv
  obtain ⟨ha, hW, hK⟩ := hv
  have hx := B.exec
  have hb := B.bytes
  have hr := B.returns
  have hts := atoms_spec (ws := wsX6_follows) B.pre
  have hown : s.vm.findClass RX6 = some m.cls := findClass_of_methodNamed B.named
  have hlocks := B.notSynchronized
  have hS : va_S (dkA z) s.heap s.heap [] := va_S.rf
  have hF : dkF [] I0 I0 := dkF_rf _ _
  have hl := lv_entry ([.ref (z + 340), .int p0, .int p1]) (n := 3) (Nat.le_of_ble_eq_true rfl)
  have hgo : entryFrame m args 3 = entryFrame m ([.ref (z + 340), .int p0, .int p1] : List Value).toArray 3 := by rw [ha]
  rw [hgo, lg_entry_eq]
  generalize (lg_sl ([.ref (z + 340), .int p0, .int p1]) ++ List.replicate (3 - (lg_sl ([.ref (z + 340), .int p0, .int p1])).length) Slot.unset).toArray = ls at hl ⊢
  have hl : lv_has ls 3 [(0, .ref (z + 340)), (1, .int p0), (2, .int p1)] := hl
  have C14 : ∀ (I : dkI) (H : Heap) (locs : List Loc) (ls : Array Slot) (x14_s0 : Int32), dkW g z I H → va_S (dkA z) s.heap H locs → dkF [] I0 I → dkN [(0, 0)] x14_s0 → lv_has ls 3 [(0, .ref (z + 340)), (1, .int p0), (2, .int p1)] → W p l e (headSpec wsX6_follows (dkR 3)).room s m args below meth c H locs 0 0 (MQ below (dkQi g z (fun r I1 => dkN [(0, 0)] r ∧ dkF [] I0 I1 ∧ True)) args s 0 0 (dkA z)) (F0 m 14 ls [.int x14_s0, .ref (z + 340)]) := by
    intro I14_ H locs ls x14_s0 hW hS hF_14 k14_0 hl
    have hF := hF_14
    refine lv_iconst (v := 1) hx hb dX6_follows_14 (by decide) ?_
    refine dk_Vi (As := [.int x14_s0, .int 1]) (rest := []) ⟨hx, hb, hml, hown, hts⟩ (c_X6_takes_2 l g z I14_ x14_s0 1 k14_0 (dkN_lit (x := 1) (1) rfl) (by rw [hF_14 340 8 rfl]; exact n340_8)) (cwV 2 hts gX6_follows_X6_takes rfl rfl rfl (by decide +kernel) ⟨Nat.le_of_ble_eq_true rfl, Nat.le_of_ble_eq_true rfl⟩) (dk_at340 hW) rfl hK hW hS rfl hl.1 rfl (Nat.le_of_ble_eq_true rfl) dX6_follows_15 ⟨Nat.zero_le _, Nat.zero_le _⟩ (fun v1 I1 H1 L1 hp1 hW hS => ?_)
    obtain ⟨dv1, hF1, -⟩ := hp1
    have hF := dkF_call hF hF1 rfl
    refine lv_pop hx hb dX6_follows_18 rfl ?_
    refine lv_aload_n hx hb dX6_follows_19 rfl (lv_at hl 0 rfl) ?_
    refine lv_iload_n hx hb dX6_follows_20 rfl (lv_at hl 1 rfl) ?_
    refine lv_iload_n hx hb dX6_follows_21 rfl (lv_at hl 2 rfl) ?_
    refine dk_Vi (As := [.int p0, .int p1]) (rest := []) ⟨hx, hb, hml, hown, hts⟩ (c_X6_figure_1 l g z I1 p0 p1 dp0 dp1 (by rw [hF1 340 12 rfl]; exact (by rw [hF_14 340 12 rfl]; exact n340_12)) (by rw [hF1 340 8 rfl]; exact (by rw [hF_14 340 8 rfl]; exact n340_8))) (cwV 2 hts gX6_follows_X6_figure rfl rfl rfl (by decide +kernel) ⟨Nat.le_of_ble_eq_true rfl, Nat.le_of_ble_eq_true rfl⟩) (dk_at340 hW) rfl hK hW hS rfl hl.1 rfl (Nat.le_of_ble_eq_true rfl) dX6_follows_22 ⟨Nat.zero_le _, Nat.zero_le _⟩ (fun v2 I2 H2 L2 hp2 hW hS => ?_)
    obtain ⟨dv2, hF2, -⟩ := hp2
    have hF := dkF_call hF hF2 rfl
    exact W.iret (v := v2) hx hb hr (fun t ht hW9 => ⟨⟨v2, I2, rfl, ⟨dkN_sub dv2 rfl, hF, trivial⟩, dkW_eq ht hW⟩, hS.F ht⟩) hS.2.2 dX6_follows_25
  refine lv_aload_n hx hb dX6_follows_0 rfl (lv_at hl 0 rfl) ?_
  refine lv_aload_n hx hb dX6_follows_1 rfl (lv_at hl 0 rfl) ?_
  refine dk_get hx hb hts iX6_follows_6 hown hK (dk_at340 hW) rfl 11 (by decide) (hts (.fieldLink RX6 98 "DogKingsModel" "token" "I") (List.mem_of_getElem? (i := 1) rfl)) rfl dX6_follows_2 ?_
  refine lv_topi (fun v3 ev3 => ?_)
  have dv3 : dkN [(0, 0)] v3 := by rw [ev3]; exact n340_11
  refine lv_iconst (v := 3) hx hb dX6_follows_5 (by decide) ?_
  refine lv_icmp_ne (tgt := 13) hx hb dX6_follows_6 (by decide) (fun c4 => ?_) (fun c4 => ?_)
  ·
    refine lv_iconst (v := 0) hx hb dX6_follows_13 (by decide) ?_
    exact C14 I0 _ _ ls 0 hW hS hF (dkN_sub (dkN_lit (x := 0) (0) rfl) rfl) (lv_sub hl [0, 1, 2] rfl)
  ·
    exact (dkN_nil (show dkN [] v3 from dkN_eq1 dv3 (dkN_lit (x := 3) (3) rfl) (congrArg Int32.toInt c4) rfl)).elim
set_option maxHeartbeats 4000000 in
set_option maxRecDepth 100000 in
theorem c_X6_must_0 (l : Launch) (g : dkG) (z : Nat) (I0 : dkI) (p0 : Int32) (dp0 : dkN [(0, 0)] p0) (n340_8 : dkN [(0, 0)] (I0 340 8)) : Met l yX6_must wsX6_must (dkR 1) (dkPc g z [.ref (z + 340), .int p0] I0) (dkQv g z (fun I1 => dkF [] I0 I1 ∧ True)) 0 0 (dkA z) := by
  refine Met.ofW (cc := cX6_must) (maxL := 2) (ret := none) (by decide) rfl ?_
  intro p e s m args below meth c s₁ B hml hv
  obtain ⟨ha, hW, hK⟩ := hv
  have hx := B.exec
  have hb := B.bytes
  have hr := B.returns
  have hts := atoms_spec (ws := wsX6_must) B.pre
  have hown : s.vm.findClass RX6 = some m.cls := findClass_of_methodNamed B.named
  have hlocks := B.notSynchronized
  have hS : va_S (dkA z) s.heap s.heap [] := va_S.rf
  have hF : dkF [] I0 I0 := dkF_rf _ _
  have hl := lv_entry ([.ref (z + 340), .int p0]) (n := 2) (Nat.le_of_ble_eq_true rfl)
  have hgo : entryFrame m args 2 = entryFrame m ([.ref (z + 340), .int p0] : List Value).toArray 2 := by rw [ha]
  rw [hgo, lg_entry_eq]
  generalize (lg_sl ([.ref (z + 340), .int p0]) ++ List.replicate (2 - (lg_sl ([.ref (z + 340), .int p0])).length) Slot.unset).toArray = ls at hl ⊢
  have hl : lv_has ls 2 [(0, .ref (z + 340)), (1, .int p0)] := hl
  refine lv_aload_n hx hb dX6_must_0 rfl (lv_at hl 0 rfl) ?_
  refine dk_Vi (As := []) (rest := []) ⟨hx, hb, hml, hown, hts⟩ (c_X6_isWell_1 l g z I0 n340_8) (cwV 0 hts gX6_must_X6_isWell rfl rfl rfl (by decide +kernel) ⟨Nat.le_of_ble_eq_true rfl, Nat.le_of_ble_eq_true rfl⟩) (dk_at340 hW) rfl hK hW hS rfl hl.1 rfl (Nat.le_of_ble_eq_true rfl) dX6_must_1 ⟨Nat.zero_le _, Nat.zero_le _⟩ (fun v1 I1 H1 L1 hp1 hW hS => ?_)
  obtain ⟨dv1, hF1, -⟩ := hp1
  have hF := dkF_call hF hF1 rfl
  refine lv_if_eq (tgt := 18) hx hb dX6_must_4 (by decide) (fun c2 => ?_) (fun c2 => ?_)
  ·
    exact W.vret hx hb hr (fun t ht hW9 => ⟨⟨I1, rfl, ⟨hF, trivial⟩, dkW_eq ht hW⟩, hS.F ht⟩) hS.2.2 dX6_must_18
  ·
    exact (dkN_nil (show dkN [] v1 from dkN_ne1 (0) dv1 (dkN_lit (x := 0) (0) rfl) (dk_ne c2) rfl)).elim
set_option maxHeartbeats 4000000 in
set_option maxRecDepth 100000 in
theorem c_X6_must_1 (l : Launch) (g : dkG) (z : Nat) (I0 : dkI) (p0 : Int32) (dp0 : dkN [(1, 1)] p0) (n340_8 : dkN [(0, 0)] (I0 340 8)) : Met l yX6_must wsX6_must (dkR 1) (dkPc g z [.ref (z + 340), .int p0] I0) (dkQv g z (fun I1 => dkF [] I0 I1 ∧ True)) 0 0 (dkA z) := by
  refine Met.ofW (cc := cX6_must) (maxL := 2) (ret := none) (by decide) rfl ?_
  intro p e s m args below meth c s₁ B hml hv
  obtain ⟨ha, hW, hK⟩ := hv
  have hx := B.exec
  have hb := B.bytes
  have hr := B.returns
  have hts := atoms_spec (ws := wsX6_must) B.pre
  have hown : s.vm.findClass RX6 = some m.cls := findClass_of_methodNamed B.named
  have hlocks := B.notSynchronized
  have hS : va_S (dkA z) s.heap s.heap [] := va_S.rf
  have hF : dkF [] I0 I0 := dkF_rf _ _
  have hl := lv_entry ([.ref (z + 340), .int p0]) (n := 2) (Nat.le_of_ble_eq_true rfl)
  have hgo : entryFrame m args 2 = entryFrame m ([.ref (z + 340), .int p0] : List Value).toArray 2 := by rw [ha]
  rw [hgo, lg_entry_eq]
  generalize (lg_sl ([.ref (z + 340), .int p0]) ++ List.replicate (2 - (lg_sl ([.ref (z + 340), .int p0])).length) Slot.unset).toArray = ls at hl ⊢
  have hl : lv_has ls 2 [(0, .ref (z + 340)), (1, .int p0)] := hl
  refine lv_aload_n hx hb dX6_must_0 rfl (lv_at hl 0 rfl) ?_
  refine dk_Vi (As := []) (rest := []) ⟨hx, hb, hml, hown, hts⟩ (c_X6_isWell_1 l g z I0 n340_8) (cwV 0 hts gX6_must_X6_isWell rfl rfl rfl (by decide +kernel) ⟨Nat.le_of_ble_eq_true rfl, Nat.le_of_ble_eq_true rfl⟩) (dk_at340 hW) rfl hK hW hS rfl hl.1 rfl (Nat.le_of_ble_eq_true rfl) dX6_must_1 ⟨Nat.zero_le _, Nat.zero_le _⟩ (fun v1 I1 H1 L1 hp1 hW hS => ?_)
  obtain ⟨dv1, hF1, -⟩ := hp1
  have hF := dkF_call hF hF1 rfl
  refine lv_if_eq (tgt := 18) hx hb dX6_must_4 (by decide) (fun c2 => ?_) (fun c2 => ?_)
  ·
    exact W.vret hx hb hr (fun t ht hW9 => ⟨⟨I1, rfl, ⟨hF, trivial⟩, dkW_eq ht hW⟩, hS.F ht⟩) hS.2.2 dX6_must_18
  ·
    exact (dkN_nil (show dkN [] v1 from dkN_ne1 (0) dv1 (dkN_lit (x := 0) (0) rfl) (dk_ne c2) rfl)).elim
set_option maxHeartbeats 4000000 in
set_option maxRecDepth 100000 in
theorem c_X6_town_0 (l : Launch) (g : dkG) (z : Nat) (I0 : dkI) (n340_10 : dkN [(0, 0)] (I0 340 10)) (n340_11 : dkN [(0, 0)] (I0 340 11)) (n340_12 : dkN [(0, 0)] (I0 340 12)) (n340_6 : dkN [(0, 0)] (I0 340 6)) (n340_7 : dkN [(0, 0)] (I0 340 7)) (n340_8 : dkN [(0, 0)] (I0 340 8)) (n340_9 : dkN [(0, 0)] (I0 340 9)) : Met l yX6_town wsX6_town (dkR 4) (dkPc g z [.ref (z + 340)] I0) (dkQi g z (fun r I1 => dkN [(-1000100, -1000100)] r ∧ dkF [(340, 340, some 10), (340, 340, some 11), (340, 340, some 12), (340, 340, some 6), (340, 340, some 7), (340, 340, some 8), (340, 340, some 9), (347, 347, none)] I0 I1 ∧ dkN [(0, 0)] (I1 340 6) ∧ dkN [(1, 1)] (I1 340 7) ∧ dkN [(0, 0)] (I1 340 8) ∧ dkN [(0, 0)] (I1 340 9) ∧ dkN [(0, 0)] (I1 340 10) ∧ dkN [(0, 0)] (I1 340 11) ∧ dkN [(-1, -1)] (I1 340 12) ∧ True)) 0 0 (dkA z) := by
  refine Met.ofW (cc := cX6_town) (maxL := 2) (ret := (some .int)) (by decide) rfl ?_
  intro p e s m args below meth c s₁ B hml hv
  obtain ⟨ha, hW, hK⟩ := hv
  have hx := B.exec
  have hb := B.bytes
  have hr := B.returns
  have hts := atoms_spec (ws := wsX6_town) B.pre
  have hown : s.vm.findClass RX6 = some m.cls := findClass_of_methodNamed B.named
  have hlocks := B.notSynchronized
  have hS : va_S (dkA z) s.heap s.heap [] := va_S.rf
  have hF : dkF [(340, 340, some 10), (340, 340, some 11), (340, 340, some 12), (340, 340, some 6), (340, 340, some 7), (340, 340, some 8), (340, 340, some 9), (347, 347, none)] I0 I0 := dkF_rf _ _
  have hl := lv_entry ([.ref (z + 340)]) (n := 2) (Nat.le_of_ble_eq_true rfl)
  have hgo : entryFrame m args 2 = entryFrame m ([.ref (z + 340)] : List Value).toArray 2 := by rw [ha]
  rw [hgo, lg_entry_eq]
  generalize (lg_sl ([.ref (z + 340)]) ++ List.replicate (2 - (lg_sl ([.ref (z + 340)])).length) Slot.unset).toArray = ls at hl ⊢
  have hl : lv_has ls 2 [(0, .ref (z + 340))] := hl
  have C210 : ∀ (I : dkI) (H : Heap) (locs : List Loc) (ls : Array Slot) (x210_1 : Int32) (x210_s0 : Int32), dkW g z I H → va_S (dkA z) s.heap H locs → dkF [(340, 340, some 10), (340, 340, some 11), (340, 340, some 12), (340, 340, some 6), (340, 340, some 7), (340, 340, some 8), (340, 340, some 9), (347, 347, none)] I0 I → dkN [(54, 54)] x210_1 → dkN [(1, 1)] x210_s0 → dkN [(0, 0)] (I 340 10) → dkN [(0, 0)] (I 340 11) → dkN [(-1, -1)] (I 340 12) → dkN [(0, 0)] (I 340 6) → dkN [(1, 1)] (I 340 7) → dkN [(0, 0)] (I 340 8) → dkN [(0, 0)] (I 340 9) → lv_has ls 2 [(0, .ref (z + 340)), (1, .int x210_1)] → W p l e (headSpec wsX6_town (dkR 4)).room s m args below meth c H locs 0 0 (MQ below (dkQi g z (fun r I1 => dkN [(-1000100, -1000100)] r ∧ dkF [(340, 340, some 10), (340, 340, some 11), (340, 340, some 12), (340, 340, some 6), (340, 340, some 7), (340, 340, some 8), (340, 340, some 9), (347, 347, none)] I0 I1 ∧ dkN [(0, 0)] (I1 340 6) ∧ dkN [(1, 1)] (I1 340 7) ∧ dkN [(0, 0)] (I1 340 8) ∧ dkN [(0, 0)] (I1 340 9) ∧ dkN [(0, 0)] (I1 340 10) ∧ dkN [(0, 0)] (I1 340 11) ∧ dkN [(-1, -1)] (I1 340 12) ∧ True)) args s 0 0 (dkA z)) (F0 m 210 ls [.int x210_s0, .ref (z + 340)]) := by
    intro I210_ H locs ls x210_1 x210_s0 hW hS hF_210 k210_0 k210_1 f210_340_10 f210_340_11 f210_340_12 f210_340_6 f210_340_7 f210_340_8 f210_340_9 hl
    have hF := hF_210
    refine dk_Vv (As := [.int x210_s0]) (rest := []) ⟨hx, hb, hml, hown, hts⟩ (c_X6_must_1 l g z I210_ x210_s0 k210_1 f210_340_8) (cwV 1 hts gX6_town_X6_must rfl rfl rfl (by decide +kernel) ⟨Nat.le_of_ble_eq_true rfl, Nat.le_of_ble_eq_true rfl⟩) (dk_at340 hW) rfl hK hW hS rfl hl.1 rfl (Nat.le_of_ble_eq_true rfl) dX6_town_210 ⟨Nat.zero_le _, Nat.zero_le _⟩ (fun I1 H1 L1 hp1 hW hS => ?_)
    obtain ⟨hF1, -⟩ := hp1
    have hF := dkF_call hF hF1 rfl
    refine lv_aload_n hx hb dX6_town_213 rfl (lv_at hl 0 rfl) ?_
    refine lv_iconst (v := 0) hx hb dX6_town_214 (by decide) ?_
    refine dk_put hx hb hts iX6_town_6 tyX6 tyX6_ok nmX6 hown hK hW (dk_at340 hW) hS rfl 6 (by decide) (hts (.fieldLink RX6 82 "DogKingsModel" "taped" "I") (List.mem_of_getElem? (i := 6) rfl)) rfl rfl (Nat.le_of_ble_eq_true rfl) rfl dX6_town_215 (fun I2 H2 L2 eI2 hW hS => ?_)
    have eI2 : I2 = dkU I1 340 6 0 := eI2
    have hF := dkF_set hF eI2 rfl
    refine lv_aload_n hx hb dX6_town_218 rfl (lv_at hl 0 rfl) ?_
    refine dk_Vi (As := []) (rest := []) ⟨hx, hb, hml, hown, hts⟩ (c_X6_isWell_1 l g z I2 (by rw [eI2, dkU_sn (by decide)]; exact (by rw [hF1 340 8 rfl]; exact f210_340_8))) (cwV 0 hts gX6_town_X6_isWell rfl rfl rfl (by decide +kernel) ⟨Nat.le_of_ble_eq_true rfl, Nat.le_of_ble_eq_true rfl⟩) (dk_at340 hW) rfl hK hW hS rfl hl.1 rfl (Nat.le_of_ble_eq_true rfl) dX6_town_219 ⟨Nat.zero_le _, Nat.zero_le _⟩ (fun v3 I3 H3 L3 hp3 hW hS => ?_)
    obtain ⟨dv3, hF3, -⟩ := hp3
    have hF := dkF_call hF hF3 rfl
    refine lv_if_ne (tgt := 233) hx hb dX6_town_222 (by decide) (fun c4 => ?_) (fun c4 => ?_)
    ·
      exact (dkN_nil (show dkN [] v3 from dkN_ne1 (0) dv3 (dkN_lit (x := 0) (0) rfl) (dk_ne c4) rfl)).elim
    ·
      refine lv_ldc (v := (-1000100)) hx hb hown (hts (.constant RX6 137 (-1000100)) (List.mem_of_getElem? (i := 7) rfl)) dX6_town_225 ?_
      refine lv_aload_n hx hb dX6_town_227 rfl (lv_at hl 0 rfl) ?_
      refine dk_get hx hb hts iX6_town_6 hown hK (dk_at340 hW) rfl 8 (by decide) (hts (.fieldLink RX6 101 "DogKingsModel" "faultPlace" "I") (List.mem_of_getElem? (i := 3) rfl)) rfl dX6_town_228 ?_
      refine lv_topi (fun v5 ev5 => ?_)
      have dv5 : dkN [(0, 0)] v5 := by rw [ev5]; exact (by rw [hF3 340 8 rfl]; exact (by rw [eI2, dkU_sn (by decide)]; exact (by rw [hF1 340 8 rfl]; exact f210_340_8)))
      refine lv_isub hx hb dX6_town_231 ?_
      refine lv_topi (fun v6 ev6 => ?_)
      have dv6 : dkN [(-1000100, -1000100)] v6 := by rw [ev6]; exact dkN_subt (dkN_lit (x := -1000100) (-1000100) rfl) dv5 rfl
      exact W.iret (v := v6) hx hb hr (fun t ht hW9 => ⟨⟨v6, I3, rfl, ⟨dkN_sub dv6 rfl, hF, dkN_sub (by rw [hF3 340 6 rfl]; exact (by rw [eI2, dkU_ss]; exact (dkN_lit (x := 0) (0) rfl))) rfl, dkN_sub (by rw [hF3 340 7 rfl]; exact (by rw [eI2, dkU_sn (by decide)]; exact (by rw [hF1 340 7 rfl]; exact f210_340_7))) rfl, dkN_sub (by rw [hF3 340 8 rfl]; exact (by rw [eI2, dkU_sn (by decide)]; exact (by rw [hF1 340 8 rfl]; exact f210_340_8))) rfl, dkN_sub (by rw [hF3 340 9 rfl]; exact (by rw [eI2, dkU_sn (by decide)]; exact (by rw [hF1 340 9 rfl]; exact f210_340_9))) rfl, dkN_sub (by rw [hF3 340 10 rfl]; exact (by rw [eI2, dkU_sn (by decide)]; exact (by rw [hF1 340 10 rfl]; exact f210_340_10))) rfl, dkN_sub (by rw [hF3 340 11 rfl]; exact (by rw [eI2, dkU_sn (by decide)]; exact (by rw [hF1 340 11 rfl]; exact f210_340_11))) rfl, dkN_sub (by rw [hF3 340 12 rfl]; exact (by rw [eI2, dkU_sn (by decide)]; exact (by rw [hF1 340 12 rfl]; exact f210_340_12))) rfl, trivial⟩, dkW_eq ht hW⟩, hS.F ht⟩) hS.2.2 dX6_town_232
  have C197 : ∀ (I : dkI) (H : Heap) (locs : List Loc) (ls : Array Slot) (x197_1 : Int32), dkW g z I H → va_S (dkA z) s.heap H locs → dkF [(340, 340, some 10), (340, 340, some 11), (340, 340, some 12), (340, 340, some 6), (340, 340, some 7), (340, 340, some 8), (340, 340, some 9), (347, 347, none)] I0 I → dkN [(54, 54)] x197_1 → dkN [(0, 0)] (I 340 10) → dkN [(0, 0)] (I 340 11) → dkN [(-1, -1)] (I 340 12) → dkN [(0, 0)] (I 340 6) → dkN [(1, 1)] (I 340 7) → dkN [(0, 0)] (I 340 8) → dkN [(0, 0)] (I 340 9) → lv_has ls 2 [(0, .ref (z + 340)), (1, .int x197_1)] → W p l e (headSpec wsX6_town (dkR 4)).room s m args below meth c H locs 0 0 (MQ below (dkQi g z (fun r I1 => dkN [(-1000100, -1000100)] r ∧ dkF [(340, 340, some 10), (340, 340, some 11), (340, 340, some 12), (340, 340, some 6), (340, 340, some 7), (340, 340, some 8), (340, 340, some 9), (347, 347, none)] I0 I1 ∧ dkN [(0, 0)] (I1 340 6) ∧ dkN [(1, 1)] (I1 340 7) ∧ dkN [(0, 0)] (I1 340 8) ∧ dkN [(0, 0)] (I1 340 9) ∧ dkN [(0, 0)] (I1 340 10) ∧ dkN [(0, 0)] (I1 340 11) ∧ dkN [(-1, -1)] (I1 340 12) ∧ True)) args s 0 0 (dkA z)) (F0 m 197 ls []) := by
    intro I197_ H locs ls x197_1 hW hS hF_197 k197_0 f197_340_10 f197_340_11 f197_340_12 f197_340_6 f197_340_7 f197_340_8 f197_340_9 hl
    have hF := hF_197
    refine lv_aload_n hx hb dX6_town_197 rfl (lv_at hl 0 rfl) ?_
    refine lv_aload_n hx hb dX6_town_198 rfl (lv_at hl 0 rfl) ?_
    refine dk_get hx hb hts iX6_town_6 hown hK (dk_at340 hW) rfl 11 (by decide) (hts (.fieldLink RX6 98 "DogKingsModel" "token" "I") (List.mem_of_getElem? (i := 4) rfl)) rfl dX6_town_199 ?_
    refine lv_topi (fun v7 ev7 => ?_)
    have dv7 : dkN [(0, 0)] v7 := by rw [ev7]; exact f197_340_11
    refine lv_if_ne (tgt := 209) hx hb dX6_town_202 (by decide) (fun c8 => ?_) (fun c8 => ?_)
    ·
      exact (dkN_nil (show dkN [] v7 from dkN_ne1 (0) dv7 (dkN_lit (x := 0) (0) rfl) (dk_ne c8) rfl)).elim
    ·
      refine lv_iconst (v := 1) hx hb dX6_town_205 (by decide) ?_
      refine lv_goto (tgt := 210) hx hb dX6_town_206 (by decide) ?_
      exact C210 I197_ _ _ ls x197_1 1 hW hS hF (dkN_sub k197_0 rfl) (dkN_sub (dkN_lit (x := 1) (1) rfl) rfl) (dkN_sub f197_340_10 rfl) (dkN_sub f197_340_11 rfl) (dkN_sub f197_340_12 rfl) (dkN_sub f197_340_6 rfl) (dkN_sub f197_340_7 rfl) (dkN_sub f197_340_8 rfl) (dkN_sub f197_340_9 rfl) (lv_sub hl [0, 1] rfl)
  have C165 : ∀ (I : dkI) (H : Heap) (locs : List Loc) (ls : Array Slot) (x165_1 : Int32), dkW g z I H → va_S (dkA z) s.heap H locs → dkF [(340, 340, some 10), (340, 340, some 11), (340, 340, some 12), (340, 340, some 6), (340, 340, some 7), (340, 340, some 8), (340, 340, some 9), (347, 347, none)] I0 I → dkN [(54, 54)] x165_1 → dkN [(0, 0)] (I 340 10) → dkN [(0, 0)] (I 340 11) → dkN [(-1, -1)] (I 340 12) → dkN [(0, 0)] (I 340 6) → dkN [(1, 1)] (I 340 7) → dkN [(0, 0)] (I 340 8) → dkN [(0, 0)] (I 340 9) → lv_has ls 2 [(0, .ref (z + 340)), (1, .int x165_1)] → W p l e (headSpec wsX6_town (dkR 4)).room s m args below meth c H locs 0 0 (MQ below (dkQi g z (fun r I1 => dkN [(-1000100, -1000100)] r ∧ dkF [(340, 340, some 10), (340, 340, some 11), (340, 340, some 12), (340, 340, some 6), (340, 340, some 7), (340, 340, some 8), (340, 340, some 9), (347, 347, none)] I0 I1 ∧ dkN [(0, 0)] (I1 340 6) ∧ dkN [(1, 1)] (I1 340 7) ∧ dkN [(0, 0)] (I1 340 8) ∧ dkN [(0, 0)] (I1 340 9) ∧ dkN [(0, 0)] (I1 340 10) ∧ dkN [(0, 0)] (I1 340 11) ∧ dkN [(-1, -1)] (I1 340 12) ∧ True)) args s 0 0 (dkA z)) (F0 m 165 ls []) := by
    intro I165_ H locs ls x165_1 hW hS hF_165 k165_0 f165_340_10 f165_340_11 f165_340_12 f165_340_6 f165_340_7 f165_340_8 f165_340_9 hl
    have hF := hF_165
    refine lv_aload_n hx hb dX6_town_165 rfl (lv_at hl 0 rfl) ?_
    refine dk_Vi (As := []) (rest := []) ⟨hx, hb, hml, hown, hts⟩ (c_X6_isWell_1 l g z I165_ f165_340_8) (cwV 0 hts gX6_town_X6_isWell rfl rfl rfl (by decide +kernel) ⟨Nat.le_of_ble_eq_true rfl, Nat.le_of_ble_eq_true rfl⟩) (dk_at340 hW) rfl hK hW hS rfl hl.1 rfl (Nat.le_of_ble_eq_true rfl) dX6_town_166 ⟨Nat.zero_le _, Nat.zero_le _⟩ (fun v9 I9 H9 L9 hp9 hW hS => ?_)
    obtain ⟨dv9, hF9, -⟩ := hp9
    have hF := dkF_call hF hF9 rfl
    refine lv_if_eq (tgt := 197) hx hb dX6_town_169 (by decide) (fun c10 => ?_) (fun c10 => ?_)
    ·
      exact C197 I9 _ _ ls x165_1 hW hS hF (dkN_sub k165_0 rfl) (dkN_sub (by rw [hF9 340 10 rfl]; exact f165_340_10) rfl) (dkN_sub (by rw [hF9 340 11 rfl]; exact f165_340_11) rfl) (dkN_sub (by rw [hF9 340 12 rfl]; exact f165_340_12) rfl) (dkN_sub (by rw [hF9 340 6 rfl]; exact f165_340_6) rfl) (dkN_sub (by rw [hF9 340 7 rfl]; exact f165_340_7) rfl) (dkN_sub (by rw [hF9 340 8 rfl]; exact f165_340_8) rfl) (dkN_sub (by rw [hF9 340 9 rfl]; exact f165_340_9) rfl) (lv_sub hl [0, 1] rfl)
    ·
      exact (dkN_nil (show dkN [] v9 from dkN_ne1 (0) dv9 (dkN_lit (x := 0) (0) rfl) (dk_ne c10) rfl)).elim
  have C134 : ∀ (I : dkI) (H : Heap) (locs : List Loc) (ls : Array Slot) (x134_1 : Int32), dkW g z I H → va_S (dkA z) s.heap H locs → dkF [(340, 340, some 10), (340, 340, some 11), (340, 340, some 12), (340, 340, some 6), (340, 340, some 7), (340, 340, some 8), (340, 340, some 9), (347, 347, none)] I0 I → dkN [(54, 54)] x134_1 → dkN [(0, 0)] (I 340 10) → dkN [(0, 0)] (I 340 11) → dkN [(-1, -1)] (I 340 12) → dkN [(0, 0)] (I 340 6) → dkN [(1, 1)] (I 340 7) → dkN [(0, 0)] (I 340 8) → dkN [(0, 0)] (I 340 9) → lv_has ls 2 [(0, .ref (z + 340)), (1, .int x134_1)] → W p l e (headSpec wsX6_town (dkR 4)).room s m args below meth c H locs 0 0 (MQ below (dkQi g z (fun r I1 => dkN [(-1000100, -1000100)] r ∧ dkF [(340, 340, some 10), (340, 340, some 11), (340, 340, some 12), (340, 340, some 6), (340, 340, some 7), (340, 340, some 8), (340, 340, some 9), (347, 347, none)] I0 I1 ∧ dkN [(0, 0)] (I1 340 6) ∧ dkN [(1, 1)] (I1 340 7) ∧ dkN [(0, 0)] (I1 340 8) ∧ dkN [(0, 0)] (I1 340 9) ∧ dkN [(0, 0)] (I1 340 10) ∧ dkN [(0, 0)] (I1 340 11) ∧ dkN [(-1, -1)] (I1 340 12) ∧ True)) args s 0 0 (dkA z)) (F0 m 134 ls []) := by
    intro I134_ H locs ls x134_1 hW hS hF_134 k134_0 f134_340_10 f134_340_11 f134_340_12 f134_340_6 f134_340_7 f134_340_8 f134_340_9 hl
    have hF := hF_134
    refine lv_aload_n hx hb dX6_town_134 rfl (lv_at hl 0 rfl) ?_
    refine dk_Vi (As := []) (rest := []) ⟨hx, hb, hml, hown, hts⟩ (c_X6_isWell_1 l g z I134_ f134_340_8) (cwV 0 hts gX6_town_X6_isWell rfl rfl rfl (by decide +kernel) ⟨Nat.le_of_ble_eq_true rfl, Nat.le_of_ble_eq_true rfl⟩) (dk_at340 hW) rfl hK hW hS rfl hl.1 rfl (Nat.le_of_ble_eq_true rfl) dX6_town_135 ⟨Nat.zero_le _, Nat.zero_le _⟩ (fun v11 I11 H11 L11 hp11 hW hS => ?_)
    obtain ⟨dv11, hF11, -⟩ := hp11
    have hF := dkF_call hF hF11 rfl
    refine lv_if_eq (tgt := 165) hx hb dX6_town_138 (by decide) (fun c12 => ?_) (fun c12 => ?_)
    ·
      exact C165 I11 _ _ ls x134_1 hW hS hF (dkN_sub k134_0 rfl) (dkN_sub (by rw [hF11 340 10 rfl]; exact f134_340_10) rfl) (dkN_sub (by rw [hF11 340 11 rfl]; exact f134_340_11) rfl) (dkN_sub (by rw [hF11 340 12 rfl]; exact f134_340_12) rfl) (dkN_sub (by rw [hF11 340 6 rfl]; exact f134_340_6) rfl) (dkN_sub (by rw [hF11 340 7 rfl]; exact f134_340_7) rfl) (dkN_sub (by rw [hF11 340 8 rfl]; exact f134_340_8) rfl) (dkN_sub (by rw [hF11 340 9 rfl]; exact f134_340_9) rfl) (lv_sub hl [0, 1] rfl)
    ·
      exact (dkN_nil (show dkN [] v11 from dkN_ne1 (0) dv11 (dkN_lit (x := 0) (0) rfl) (dk_ne c12) rfl)).elim
  have C131 : ∀ (I : dkI) (H : Heap) (locs : List Loc) (ls : Array Slot) (x131_1 : Int32) (x131_s0 : Int32), dkW g z I H → va_S (dkA z) s.heap H locs → dkF [(340, 340, some 10), (340, 340, some 11), (340, 340, some 12), (340, 340, some 6), (340, 340, some 7), (340, 340, some 8), (340, 340, some 9), (347, 347, none)] I0 I → dkN [(54, 54)] x131_1 → dkN [(0, 0)] x131_s0 → dkN [(0, 0)] (I 340 10) → dkN [(0, 0)] (I 340 11) → dkN [(-1, -1)] (I 340 12) → dkN [(0, 0)] (I 340 6) → dkN [(1, 1)] (I 340 7) → dkN [(0, 0)] (I 340 8) → dkN [(0, 0)] (I 340 9) → lv_has ls 2 [(0, .ref (z + 340)), (1, .int x131_1)] → W p l e (headSpec wsX6_town (dkR 4)).room s m args below meth c H locs 0 0 (MQ below (dkQi g z (fun r I1 => dkN [(-1000100, -1000100)] r ∧ dkF [(340, 340, some 10), (340, 340, some 11), (340, 340, some 12), (340, 340, some 6), (340, 340, some 7), (340, 340, some 8), (340, 340, some 9), (347, 347, none)] I0 I1 ∧ dkN [(0, 0)] (I1 340 6) ∧ dkN [(1, 1)] (I1 340 7) ∧ dkN [(0, 0)] (I1 340 8) ∧ dkN [(0, 0)] (I1 340 9) ∧ dkN [(0, 0)] (I1 340 10) ∧ dkN [(0, 0)] (I1 340 11) ∧ dkN [(-1, -1)] (I1 340 12) ∧ True)) args s 0 0 (dkA z)) (F0 m 131 ls [.int x131_s0, .ref (z + 340)]) := by
    intro I131_ H locs ls x131_1 x131_s0 hW hS hF_131 k131_0 k131_1 f131_340_10 f131_340_11 f131_340_12 f131_340_6 f131_340_7 f131_340_8 f131_340_9 hl
    have hF := hF_131
    refine dk_Vv (As := [.int x131_s0]) (rest := []) ⟨hx, hb, hml, hown, hts⟩ (c_X6_must_0 l g z I131_ x131_s0 k131_1 f131_340_8) (cwV 1 hts gX6_town_X6_must rfl rfl rfl (by decide +kernel) ⟨Nat.le_of_ble_eq_true rfl, Nat.le_of_ble_eq_true rfl⟩) (dk_at340 hW) rfl hK hW hS rfl hl.1 rfl (Nat.le_of_ble_eq_true rfl) dX6_town_131 ⟨Nat.zero_le _, Nat.zero_le _⟩ (fun I13 H13 L13 hp13 hW hS => ?_)
    obtain ⟨hF13, -⟩ := hp13
    have hF := dkF_call hF hF13 rfl
    exact C134 I13 _ _ ls x131_1 hW hS hF (dkN_sub k131_0 rfl) (dkN_sub (by rw [hF13 340 10 rfl]; exact f131_340_10) rfl) (dkN_sub (by rw [hF13 340 11 rfl]; exact f131_340_11) rfl) (dkN_sub (by rw [hF13 340 12 rfl]; exact f131_340_12) rfl) (dkN_sub (by rw [hF13 340 6 rfl]; exact f131_340_6) rfl) (dkN_sub (by rw [hF13 340 7 rfl]; exact f131_340_7) rfl) (dkN_sub (by rw [hF13 340 8 rfl]; exact f131_340_8) rfl) (dkN_sub (by rw [hF13 340 9 rfl]; exact f131_340_9) rfl) (lv_sub hl [0, 1] rfl)
  have C130 : ∀ (I : dkI) (H : Heap) (locs : List Loc) (ls : Array Slot) (x130_1 : Int32), dkW g z I H → va_S (dkA z) s.heap H locs → dkF [(340, 340, some 10), (340, 340, some 11), (340, 340, some 12), (340, 340, some 6), (340, 340, some 7), (340, 340, some 8), (340, 340, some 9), (347, 347, none)] I0 I → dkN [(54, 54)] x130_1 → dkN [(0, 0)] (I 340 10) → dkN [(0, 0)] (I 340 11) → dkN [(-1, -1)] (I 340 12) → dkN [(0, 0)] (I 340 6) → dkN [(1, 1)] (I 340 7) → dkN [(0, 0)] (I 340 8) → dkN [(0, 0)] (I 340 9) → lv_has ls 2 [(0, .ref (z + 340)), (1, .int x130_1)] → W p l e (headSpec wsX6_town (dkR 4)).room s m args below meth c H locs 0 0 (MQ below (dkQi g z (fun r I1 => dkN [(-1000100, -1000100)] r ∧ dkF [(340, 340, some 10), (340, 340, some 11), (340, 340, some 12), (340, 340, some 6), (340, 340, some 7), (340, 340, some 8), (340, 340, some 9), (347, 347, none)] I0 I1 ∧ dkN [(0, 0)] (I1 340 6) ∧ dkN [(1, 1)] (I1 340 7) ∧ dkN [(0, 0)] (I1 340 8) ∧ dkN [(0, 0)] (I1 340 9) ∧ dkN [(0, 0)] (I1 340 10) ∧ dkN [(0, 0)] (I1 340 11) ∧ dkN [(-1, -1)] (I1 340 12) ∧ True)) args s 0 0 (dkA z)) (F0 m 130 ls [.ref (z + 340)]) := by
    intro I130_ H locs ls x130_1 hW hS hF_130 k130_0 f130_340_10 f130_340_11 f130_340_12 f130_340_6 f130_340_7 f130_340_8 f130_340_9 hl
    have hF := hF_130
    refine lv_iconst (v := 0) hx hb dX6_town_130 (by decide) ?_
    exact C131 I130_ _ _ ls x130_1 0 hW hS hF (dkN_sub k130_0 rfl) (dkN_sub (dkN_lit (x := 0) (0) rfl) rfl) (dkN_sub f130_340_10 rfl) (dkN_sub f130_340_11 rfl) (dkN_sub f130_340_12 rfl) (dkN_sub f130_340_6 rfl) (dkN_sub f130_340_7 rfl) (dkN_sub f130_340_8 rfl) (dkN_sub f130_340_9 rfl) (lv_sub hl [0, 1] rfl)
  have C103 : ∀ (I : dkI) (H : Heap) (locs : List Loc) (ls : Array Slot) (x103_1 : Int32) (x103_s0 : Int32), dkW g z I H → va_S (dkA z) s.heap H locs → dkF [(340, 340, some 10), (340, 340, some 11), (340, 340, some 12), (340, 340, some 6), (340, 340, some 7), (340, 340, some 8), (340, 340, some 9), (347, 347, none)] I0 I → dkN [(54, 54)] x103_1 → dkN [(0, 0)] x103_s0 → dkN [(0, 0)] (I 340 10) → dkN [(0, 0)] (I 340 11) → dkN [(-1, -1)] (I 340 12) → dkN [(0, 0)] (I 340 6) → dkN [(1, 1)] (I 340 7) → dkN [(0, 0)] (I 340 8) → dkN [(0, 0)] (I 340 9) → lv_has ls 2 [(0, .ref (z + 340)), (1, .int x103_1)] → W p l e (headSpec wsX6_town (dkR 4)).room s m args below meth c H locs 0 0 (MQ below (dkQi g z (fun r I1 => dkN [(-1000100, -1000100)] r ∧ dkF [(340, 340, some 10), (340, 340, some 11), (340, 340, some 12), (340, 340, some 6), (340, 340, some 7), (340, 340, some 8), (340, 340, some 9), (347, 347, none)] I0 I1 ∧ dkN [(0, 0)] (I1 340 6) ∧ dkN [(1, 1)] (I1 340 7) ∧ dkN [(0, 0)] (I1 340 8) ∧ dkN [(0, 0)] (I1 340 9) ∧ dkN [(0, 0)] (I1 340 10) ∧ dkN [(0, 0)] (I1 340 11) ∧ dkN [(-1, -1)] (I1 340 12) ∧ True)) args s 0 0 (dkA z)) (F0 m 103 ls [.int x103_s0, .ref (z + 340)]) := by
    intro I103_ H locs ls x103_1 x103_s0 hW hS hF_103 k103_0 k103_1 f103_340_10 f103_340_11 f103_340_12 f103_340_6 f103_340_7 f103_340_8 f103_340_9 hl
    have hF := hF_103
    refine lv_iconst (v := 1) hx hb dX6_town_103 (by decide) ?_
    refine dk_Vi (As := [.int x103_s0, .int 1]) (rest := []) ⟨hx, hb, hml, hown, hts⟩ (c_X6_takes_2 l g z I103_ x103_s0 1 k103_1 (dkN_lit (x := 1) (1) rfl) f103_340_8) (cwV 2 hts gX6_town_X6_takes rfl rfl rfl (by decide +kernel) ⟨Nat.le_of_ble_eq_true rfl, Nat.le_of_ble_eq_true rfl⟩) (dk_at340 hW) rfl hK hW hS rfl hl.1 rfl (Nat.le_of_ble_eq_true rfl) dX6_town_104 ⟨Nat.zero_le _, Nat.zero_le _⟩ (fun v14 I14 H14 L14 hp14 hW hS => ?_)
    obtain ⟨dv14, hF14, -⟩ := hp14
    have hF := dkF_call hF hF14 rfl
    refine lv_pop hx hb dX6_town_107 rfl ?_
    refine lv_aload_n hx hb dX6_town_108 rfl (lv_at hl 0 rfl) ?_
    refine lv_aload_n hx hb dX6_town_109 rfl (lv_at hl 0 rfl) ?_
    refine dk_get hx hb hts iX6_town_6 hown hK (dk_at340 hW) rfl 11 (by decide) (hts (.fieldLink RX6 98 "DogKingsModel" "token" "I") (List.mem_of_getElem? (i := 4) rfl)) rfl dX6_town_110 ?_
    refine lv_topi (fun v15 ev15 => ?_)
    have dv15 : dkN [(0, 0)] v15 := by rw [ev15]; exact (by rw [hF14 340 11 rfl]; exact f103_340_11)
    refine lv_iconst (v := 1) hx hb dX6_town_113 (by decide) ?_
    refine lv_icmp_ne (tgt := 130) hx hb dX6_town_114 (by decide) (fun c16 => ?_) (fun c16 => ?_)
    ·
      exact C130 I14 _ _ ls x103_1 hW hS hF (dkN_sub k103_0 rfl) (dkN_sub (by rw [hF14 340 10 rfl]; exact f103_340_10) rfl) (dkN_sub (by rw [hF14 340 11 rfl]; exact f103_340_11) rfl) (dkN_sub (by rw [hF14 340 12 rfl]; exact f103_340_12) rfl) (dkN_sub (by rw [hF14 340 6 rfl]; exact f103_340_6) rfl) (dkN_sub (by rw [hF14 340 7 rfl]; exact f103_340_7) rfl) (dkN_sub (by rw [hF14 340 8 rfl]; exact f103_340_8) rfl) (dkN_sub (by rw [hF14 340 9 rfl]; exact f103_340_9) rfl) (lv_sub hl [0, 1] rfl)
    ·
      exact (dkN_nil (show dkN [] v15 from dkN_eq1 dv15 (dkN_lit (x := 1) (1) rfl) (congrArg Int32.toInt c16) rfl)).elim
  have C58 : ∀ (I : dkI) (H : Heap) (locs : List Loc) (ls : Array Slot) (x58_1 : Int32) (x58_s0 : Int32), dkW g z I H → va_S (dkA z) s.heap H locs → dkF [(340, 340, some 10), (340, 340, some 11), (340, 340, some 12), (340, 340, some 6), (340, 340, some 7), (340, 340, some 8), (340, 340, some 9), (347, 347, none)] I0 I → dkN [(54, 54)] x58_1 → dkN [(0, 0)] x58_s0 → dkN [(0, 0)] (I 340 10) → dkN [(0, 0)] (I 340 11) → dkN [(-1, -1)] (I 340 12) → dkN [(0, 0)] (I 340 6) → dkN [(0, 0)] (I 340 7) → dkN [(-1, -1)] (I 340 8) → dkN [(0, 0)] (I 340 9) → lv_has ls 2 [(0, .ref (z + 340)), (1, .int x58_1)] → W p l e (headSpec wsX6_town (dkR 4)).room s m args below meth c H locs 0 0 (MQ below (dkQi g z (fun r I1 => dkN [(-1000100, -1000100)] r ∧ dkF [(340, 340, some 10), (340, 340, some 11), (340, 340, some 12), (340, 340, some 6), (340, 340, some 7), (340, 340, some 8), (340, 340, some 9), (347, 347, none)] I0 I1 ∧ dkN [(0, 0)] (I1 340 6) ∧ dkN [(1, 1)] (I1 340 7) ∧ dkN [(0, 0)] (I1 340 8) ∧ dkN [(0, 0)] (I1 340 9) ∧ dkN [(0, 0)] (I1 340 10) ∧ dkN [(0, 0)] (I1 340 11) ∧ dkN [(-1, -1)] (I1 340 12) ∧ True)) args s 0 0 (dkA z)) (F0 m 58 ls [.int x58_s0, .ref (z + 340)]) := by
    intro I58_ H locs ls x58_1 x58_s0 hW hS hF_58 k58_0 k58_1 f58_340_10 f58_340_11 f58_340_12 f58_340_6 f58_340_7 f58_340_8 f58_340_9 hl
    have hF := hF_58
    refine lv_iconst (v := 1) hx hb dX6_town_58 (by decide) ?_
    refine dk_Vi (As := [.int x58_s0, .int 1]) (rest := []) ⟨hx, hb, hml, hown, hts⟩ (c_X6_takes_0 l g z I58_ x58_s0 1 k58_1 (dkN_lit (x := 1) (1) rfl) f58_340_10 f58_340_8) (cwV 2 hts gX6_town_X6_takes rfl rfl rfl (by decide +kernel) ⟨Nat.le_of_ble_eq_true rfl, Nat.le_of_ble_eq_true rfl⟩) (dk_at340 hW) rfl hK hW hS rfl hl.1 rfl (Nat.le_of_ble_eq_true rfl) dX6_town_59 ⟨Nat.zero_le _, Nat.zero_le _⟩ (fun v17 I17 H17 L17 hp17 hW hS => ?_)
    obtain ⟨dv17, hF17, f17_340_7, f17_340_8, -⟩ := hp17
    have hF := dkF_call hF hF17 rfl
    refine lv_pop hx hb dX6_town_62 rfl ?_
    refine lv_aload_n hx hb dX6_town_63 rfl (lv_at hl 0 rfl) ?_
    refine dk_get hx hb hts iX6_town_6 hown hK (dk_at340 hW) rfl 14 (by decide) (hts (.fieldLink RX6 28 "DogKingsModel" "draft" "[I") (List.mem_of_getElem? (i := 1) rfl)) rfl dX6_town_64 ?_
    refine lv_iconst (v := 0) hx hb dX6_town_67 (by decide) ?_
    refine lv_aload_n hx hb dX6_town_68 rfl (lv_at hl 0 rfl) ?_
    refine lv_iconst (v := 3) hx hb dX6_town_69 (by decide) ?_
    refine lv_bipush (v := 9) hx hb dX6_town_70 (by decide) ?_
    refine dk_Vi (As := [.int 3, .int 9]) (rest := [.int 0, .ref (z + 347)]) ⟨hx, hb, hml, hown, hts⟩ (c_X6_figure_0 l g z I17 3 9 (dkN_lit (x := 3) (3) rfl) (dkN_lit (x := 9) (9) rfl) (by rw [hF17 340 12 rfl]; exact f58_340_12) f17_340_8) (cwV 2 hts gX6_town_X6_figure rfl rfl rfl (by decide +kernel) ⟨Nat.le_of_ble_eq_true rfl, Nat.le_of_ble_eq_true rfl⟩) (dk_at340 hW) rfl hK hW hS rfl hl.1 rfl (Nat.le_of_ble_eq_true rfl) dX6_town_72 ⟨Nat.zero_le _, Nat.zero_le _⟩ (fun v18 I18 H18 L18 hp18 hW hS => ?_)
    obtain ⟨dv18, hF18, -⟩ := hp18
    have hF := dkF_call hF hF18 rfl
    refine dk_ist hx hb hK hW (fun _ => rfl) (by decide) hS (dkN_in (n := 54) (dkN_lit (x := 0) (0) rfl) rfl) dX6_town_75 (fun I19 H19 L19 eI19 hW hS => ?_)
    have eI19 : I19 = dkU I18 347 0 v18 := eI19
    have hF := dkF_set hF eI19 rfl
    refine lv_aload_n hx hb dX6_town_76 rfl (lv_at hl 0 rfl) ?_
    refine dk_get hx hb hts iX6_town_6 hown hK (dk_at340 hW) rfl 14 (by decide) (hts (.fieldLink RX6 28 "DogKingsModel" "draft" "[I") (List.mem_of_getElem? (i := 1) rfl)) rfl dX6_town_77 ?_
    refine lv_iconst (v := 1) hx hb dX6_town_80 (by decide) ?_
    refine lv_aload_n hx hb dX6_town_81 rfl (lv_at hl 0 rfl) ?_
    refine lv_iconst (v := 1) hx hb dX6_town_82 (by decide) ?_
    refine lv_bipush (v := 30) hx hb dX6_town_83 (by decide) ?_
    refine dk_Vi (As := [.int 1, .int 30]) (rest := [.int 1, .ref (z + 347)]) ⟨hx, hb, hml, hown, hts⟩ (c_X6_follows_0 l g z I19 1 30 (dkN_lit (x := 1) (1) rfl) (dkN_lit (x := 30) (30) rfl) (by rw [eI19, dkU_n (by decide)]; exact (by rw [hF18 340 11 rfl]; exact (by rw [hF17 340 11 rfl]; exact f58_340_11))) (by rw [eI19, dkU_n (by decide)]; exact (by rw [hF18 340 12 rfl]; exact (by rw [hF17 340 12 rfl]; exact f58_340_12))) (by rw [eI19, dkU_n (by decide)]; exact (by rw [hF18 340 8 rfl]; exact f17_340_8))) (cwV 2 hts gX6_town_X6_follows rfl rfl rfl (by decide +kernel) ⟨Nat.le_of_ble_eq_true rfl, Nat.le_of_ble_eq_true rfl⟩) (dk_at340 hW) rfl hK hW hS rfl hl.1 rfl (Nat.le_of_ble_eq_true rfl) dX6_town_85 ⟨Nat.zero_le _, Nat.zero_le _⟩ (fun v20 I20 H20 L20 hp20 hW hS => ?_)
    obtain ⟨dv20, hF20, -⟩ := hp20
    have hF := dkF_call hF hF20 rfl
    refine dk_ist hx hb hK hW (fun _ => rfl) (by decide) hS (dkN_in (n := 54) (dkN_lit (x := 1) (1) rfl) rfl) dX6_town_88 (fun I21 H21 L21 eI21 hW hS => ?_)
    have eI21 : I21 = dkU I20 347 1 v20 := eI21
    have hF := dkF_set hF eI21 rfl
    refine lv_aload_n hx hb dX6_town_89 rfl (lv_at hl 0 rfl) ?_
    refine lv_aload_n hx hb dX6_town_90 rfl (lv_at hl 0 rfl) ?_
    refine dk_get hx hb hts iX6_town_6 hown hK (dk_at340 hW) rfl 11 (by decide) (hts (.fieldLink RX6 98 "DogKingsModel" "token" "I") (List.mem_of_getElem? (i := 4) rfl)) rfl dX6_town_91 ?_
    refine lv_topi (fun v22 ev22 => ?_)
    have dv22 : dkN [(0, 0)] v22 := by rw [ev22]; exact (by rw [eI21, dkU_n (by decide)]; exact (by rw [hF20 340 11 rfl]; exact (by rw [eI19, dkU_n (by decide)]; exact (by rw [hF18 340 11 rfl]; exact (by rw [hF17 340 11 rfl]; exact f58_340_11)))))
    refine lv_iconst (v := 4) hx hb dX6_town_94 (by decide) ?_
    refine lv_icmp_ne (tgt := 102) hx hb dX6_town_95 (by decide) (fun c23 => ?_) (fun c23 => ?_)
    ·
      refine lv_iconst (v := 0) hx hb dX6_town_102 (by decide) ?_
      exact C103 I21 _ _ ls x58_1 0 hW hS hF (dkN_sub k58_0 rfl) (dkN_sub (dkN_lit (x := 0) (0) rfl) rfl) (dkN_sub (by rw [eI21, dkU_n (by decide)]; exact (by rw [hF20 340 10 rfl]; exact (by rw [eI19, dkU_n (by decide)]; exact (by rw [hF18 340 10 rfl]; exact (by rw [hF17 340 10 rfl]; exact f58_340_10))))) rfl) (dkN_sub (by rw [eI21, dkU_n (by decide)]; exact (by rw [hF20 340 11 rfl]; exact (by rw [eI19, dkU_n (by decide)]; exact (by rw [hF18 340 11 rfl]; exact (by rw [hF17 340 11 rfl]; exact f58_340_11))))) rfl) (dkN_sub (by rw [eI21, dkU_n (by decide)]; exact (by rw [hF20 340 12 rfl]; exact (by rw [eI19, dkU_n (by decide)]; exact (by rw [hF18 340 12 rfl]; exact (by rw [hF17 340 12 rfl]; exact f58_340_12))))) rfl) (dkN_sub (by rw [eI21, dkU_n (by decide)]; exact (by rw [hF20 340 6 rfl]; exact (by rw [eI19, dkU_n (by decide)]; exact (by rw [hF18 340 6 rfl]; exact (by rw [hF17 340 6 rfl]; exact f58_340_6))))) rfl) (dkN_sub (by rw [eI21, dkU_n (by decide)]; exact (by rw [hF20 340 7 rfl]; exact (by rw [eI19, dkU_n (by decide)]; exact (by rw [hF18 340 7 rfl]; exact f17_340_7)))) rfl) (dkN_sub (by rw [eI21, dkU_n (by decide)]; exact (by rw [hF20 340 8 rfl]; exact (by rw [eI19, dkU_n (by decide)]; exact (by rw [hF18 340 8 rfl]; exact f17_340_8)))) rfl) (dkN_sub (by rw [eI21, dkU_n (by decide)]; exact (by rw [hF20 340 9 rfl]; exact (by rw [eI19, dkU_n (by decide)]; exact (by rw [hF18 340 9 rfl]; exact (by rw [hF17 340 9 rfl]; exact f58_340_9))))) rfl) (lv_sub hl [0, 1] rfl)
    ·
      exact (dkN_nil (show dkN [] v22 from dkN_eq1 dv22 (dkN_lit (x := 4) (4) rfl) (congrArg Int32.toInt c23) rfl)).elim
  have C57 : ∀ (I : dkI) (H : Heap) (locs : List Loc) (ls : Array Slot) (x57_1 : Int32), dkW g z I H → va_S (dkA z) s.heap H locs → dkF [(340, 340, some 10), (340, 340, some 11), (340, 340, some 12), (340, 340, some 6), (340, 340, some 7), (340, 340, some 8), (340, 340, some 9), (347, 347, none)] I0 I → dkN [(54, 54)] x57_1 → dkN [(0, 0)] (I 340 10) → dkN [(0, 0)] (I 340 11) → dkN [(-1, -1)] (I 340 12) → dkN [(0, 0)] (I 340 6) → dkN [(0, 0)] (I 340 7) → dkN [(-1, -1)] (I 340 8) → dkN [(0, 0)] (I 340 9) → lv_has ls 2 [(0, .ref (z + 340)), (1, .int x57_1)] → W p l e (headSpec wsX6_town (dkR 4)).room s m args below meth c H locs 0 0 (MQ below (dkQi g z (fun r I1 => dkN [(-1000100, -1000100)] r ∧ dkF [(340, 340, some 10), (340, 340, some 11), (340, 340, some 12), (340, 340, some 6), (340, 340, some 7), (340, 340, some 8), (340, 340, some 9), (347, 347, none)] I0 I1 ∧ dkN [(0, 0)] (I1 340 6) ∧ dkN [(1, 1)] (I1 340 7) ∧ dkN [(0, 0)] (I1 340 8) ∧ dkN [(0, 0)] (I1 340 9) ∧ dkN [(0, 0)] (I1 340 10) ∧ dkN [(0, 0)] (I1 340 11) ∧ dkN [(-1, -1)] (I1 340 12) ∧ True)) args s 0 0 (dkA z)) (F0 m 57 ls [.ref (z + 340)]) := by
    intro I57_ H locs ls x57_1 hW hS hF_57 k57_0 f57_340_10 f57_340_11 f57_340_12 f57_340_6 f57_340_7 f57_340_8 f57_340_9 hl
    have hF := hF_57
    refine lv_iconst (v := 0) hx hb dX6_town_57 (by decide) ?_
    exact C58 I57_ _ _ ls x57_1 0 hW hS hF (dkN_sub k57_0 rfl) (dkN_sub (dkN_lit (x := 0) (0) rfl) rfl) (dkN_sub f57_340_10 rfl) (dkN_sub f57_340_11 rfl) (dkN_sub f57_340_12 rfl) (dkN_sub f57_340_6 rfl) (dkN_sub f57_340_7 rfl) (dkN_sub f57_340_8 rfl) (dkN_sub f57_340_9 rfl) (lv_sub hl [0, 1] rfl)
  have C2 : ∀ (n : Nat), ∀ (I : dkI) (H : Heap) (locs : List Loc) (ls : Array Slot) (x2_1 : Int32), (54 - x2_1.toInt).toNat < n → dkW g z I H → va_S (dkA z) s.heap H locs → dkF [(340, 340, some 10), (340, 340, some 11), (340, 340, some 12), (340, 340, some 6), (340, 340, some 7), (340, 340, some 8), (340, 340, some 9), (347, 347, none)] I0 I → dkN [(0, 54)] x2_1 → dkN [(0, 0)] (I 340 10) → dkN [(0, 0)] (I 340 11) → dkN [(0, 0)] (I 340 12) → dkN [(0, 0)] (I 340 6) → dkN [(0, 0)] (I 340 7) → dkN [(0, 0)] (I 340 8) → dkN [(0, 0)] (I 340 9) → lv_has ls 2 [(0, .ref (z + 340)), (1, .int x2_1)] → W p l e (headSpec wsX6_town (dkR 4)).room s m args below meth c H locs 0 0 (MQ below (dkQi g z (fun r I1 => dkN [(-1000100, -1000100)] r ∧ dkF [(340, 340, some 10), (340, 340, some 11), (340, 340, some 12), (340, 340, some 6), (340, 340, some 7), (340, 340, some 8), (340, 340, some 9), (347, 347, none)] I0 I1 ∧ dkN [(0, 0)] (I1 340 6) ∧ dkN [(1, 1)] (I1 340 7) ∧ dkN [(0, 0)] (I1 340 8) ∧ dkN [(0, 0)] (I1 340 9) ∧ dkN [(0, 0)] (I1 340 10) ∧ dkN [(0, 0)] (I1 340 11) ∧ dkN [(-1, -1)] (I1 340 12) ∧ True)) args s 0 0 (dkA z)) (F0 m 2 ls []) := by
    intro n
    induction n with
    | zero => intro I H locs ls x2_1 hn; exact absurd hn (Nat.not_lt_zero _)
    | succ n ih2 =>
      intro I2_ H locs ls x2_1 hn2 hW hS hF_2 k2_0 f2_340_10 f2_340_11 f2_340_12 f2_340_6 f2_340_7 f2_340_8 f2_340_9 hl
      have hF := hF_2
      refine lv_iload_n hx hb dX6_town_2 rfl (lv_at hl 1 rfl) ?_
      refine lv_bipush (v := 54) hx hb dX6_town_3 (by decide) ?_
      refine lv_icmp_ge (tgt := 21) hx hb dX6_town_5 (by decide) (fun c24 => ?_) (fun c24 => ?_)
      ·
        have d25 : dkN [(54, 54)] x2_1 := dkN_le2 0 (dkN_lit (x := 54) (54) rfl) k2_0 (dkc_le c24) rfl
        refine lv_aload_n hx hb dX6_town_21 rfl (lv_at hl 0 rfl) ?_
        refine lv_iconst (v := 0) hx hb dX6_town_22 (by decide) ?_
        refine dk_put hx hb hts iX6_town_6 tyX6 tyX6_ok nmX6 hown hK hW (dk_at340 hW) hS rfl 9 (by decide) (hts (.fieldLink RX6 86 "DogKingsModel" "at" "I") (List.mem_of_getElem? (i := 2) rfl)) rfl rfl (Nat.le_of_ble_eq_true rfl) rfl dX6_town_23 (fun I26 H26 L26 eI26 hW hS => ?_)
        have eI26 : I26 = dkU I2_ 340 9 0 := eI26
        have hF := dkF_set hF eI26 rfl
        refine lv_aload_n hx hb dX6_town_26 rfl (lv_at hl 0 rfl) ?_
        refine lv_iconst (v := (-1)) hx hb dX6_town_27 (by decide) ?_
        refine dk_put hx hb hts iX6_town_6 tyX6 tyX6_ok nmX6 hown hK hW (dk_at340 hW) hS rfl 8 (by decide) (hts (.fieldLink RX6 101 "DogKingsModel" "faultPlace" "I") (List.mem_of_getElem? (i := 3) rfl)) rfl rfl (Nat.le_of_ble_eq_true rfl) rfl dX6_town_28 (fun I27 H27 L27 eI27 hW hS => ?_)
        have eI27 : I27 = dkU I26 340 8 ((-1)) := eI27
        have hF := dkF_set hF eI27 rfl
        refine lv_aload_n hx hb dX6_town_31 rfl (lv_at hl 0 rfl) ?_
        refine dk_Vv (As := []) (rest := []) ⟨hx, hb, hml, hown, hts⟩ (c_X6_advances_0 l g z I27 (by rw [eI27, dkU_sn (by decide)]; exact (by rw [eI26, dkU_sn (by decide)]; exact f2_340_11)) (by rw [eI27, dkU_sn (by decide)]; exact (by rw [eI26, dkU_sn (by decide)]; exact f2_340_6)) (by rw [eI27, dkU_sn (by decide)]; exact (by rw [eI26, dkU_ss]; exact (dkN_lit (x := 0) (0) rfl)))) (cwV 0 hts gX6_town_X6_advances rfl rfl rfl (by decide +kernel) ⟨Nat.le_of_ble_eq_true rfl, Nat.le_of_ble_eq_true rfl⟩) (dk_at340 hW) rfl hK hW hS rfl hl.1 rfl (Nat.le_of_ble_eq_true rfl) dX6_town_32 ⟨Nat.zero_le _, Nat.zero_le _⟩ (fun I28 H28 L28 hp28 hW hS => ?_)
        obtain ⟨hF28, f28_340_9, f28_340_10, f28_340_11, f28_340_12, -⟩ := hp28
        have hF := dkF_call hF hF28 rfl
        refine lv_aload_n hx hb dX6_town_35 rfl (lv_at hl 0 rfl) ?_
        refine lv_aload_n hx hb dX6_town_36 rfl (lv_at hl 0 rfl) ?_
        refine dk_get hx hb hts iX6_town_6 hown hK (dk_at340 hW) rfl 11 (by decide) (hts (.fieldLink RX6 98 "DogKingsModel" "token" "I") (List.mem_of_getElem? (i := 4) rfl)) rfl dX6_town_37 ?_
        refine lv_topi (fun v29 ev29 => ?_)
        have dv29 : dkN [(0, 0)] v29 := by rw [ev29]; exact f28_340_11
        refine lv_iconst (v := 1) hx hb dX6_town_40 (by decide) ?_
        refine lv_icmp_ne (tgt := 57) hx hb dX6_town_41 (by decide) (fun c30 => ?_) (fun c30 => ?_)
        ·
          exact C57 I28 _ _ ls x2_1 hW hS hF (dkN_sub d25 rfl) (dkN_sub f28_340_10 rfl) (dkN_sub f28_340_11 rfl) (dkN_sub f28_340_12 rfl) (dkN_sub (by rw [hF28 340 6 rfl]; exact (by rw [eI27, dkU_sn (by decide)]; exact (by rw [eI26, dkU_sn (by decide)]; exact f2_340_6))) rfl) (dkN_sub (by rw [hF28 340 7 rfl]; exact (by rw [eI27, dkU_sn (by decide)]; exact (by rw [eI26, dkU_sn (by decide)]; exact f2_340_7))) rfl) (dkN_sub (by rw [hF28 340 8 rfl]; exact (by rw [eI27, dkU_ss]; exact (dkN_lit (x := -1) (-1) rfl))) rfl) (dkN_sub f28_340_9 rfl) (lv_sub hl [0, 1] rfl)
        ·
          exact (dkN_nil (show dkN [] v29 from dkN_eq1 dv29 (dkN_lit (x := 1) (1) rfl) (congrArg Int32.toInt c30) rfl)).elim
      ·
        have d31 : dkN [(0, 53)] x2_1 := dkN_le1 1 k2_0 (dkN_lit (x := 54) (54) rfl) (dkc_nle c24) rfl
        refine lv_aload_n hx hb dX6_town_8 rfl (lv_at hl 0 rfl) ?_
        refine dk_get hx hb hts iX6_town_6 hown hK (dk_at340 hW) rfl 14 (by decide) (hts (.fieldLink RX6 28 "DogKingsModel" "draft" "[I") (List.mem_of_getElem? (i := 1) rfl)) rfl dX6_town_9 ?_
        refine lv_iload_n hx hb dX6_town_12 rfl (lv_at hl 1 rfl) ?_
        refine lv_iconst (v := 0) hx hb dX6_town_13 (by decide) ?_
        refine dk_ist hx hb hK hW (fun _ => rfl) (by decide) hS (dkN_in (n := 54) d31 rfl) dX6_town_14 (fun I32 H32 L32 eI32 hW hS => ?_)
        have hF := dkF_set hF eI32 (dkIn_all rfl _)
        obtain ⟨v33, ev33⟩ : ∃ y : Int32, y = x2_1 + 1 := ⟨_, rfl⟩
        have dv33 : dkN [(1, 54)] v33 := by rw [ev33]; exact dkN_add d31 (dkN_lit (x := 1) (1) rfl) rfl
        refine lv_iinc (v := v33) (lv' := [(1, .int v33), (0, .ref (z + 340))]) hx hb dX6_town_15 hl (k := 1) rfl (by rw [ev33]; rfl) (by decide) rfl (fun ls hl => ?_)
        refine lv_goto (tgt := 2) hx hb dX6_town_18 (by decide) ?_
        exact ih2 I32 _ _ ls v33 (dk_near hn2 (by rw [ev33]; exact dk_inc d31 rfl) (dkN_lt d31 rfl)) hW hS hF (dkN_sub dv33 rfl) (dkN_sub (by rw [eI32, dkU_n (by decide)]; exact f2_340_10) rfl) (dkN_sub (by rw [eI32, dkU_n (by decide)]; exact f2_340_11) rfl) (dkN_sub (by rw [eI32, dkU_n (by decide)]; exact f2_340_12) rfl) (dkN_sub (by rw [eI32, dkU_n (by decide)]; exact f2_340_6) rfl) (dkN_sub (by rw [eI32, dkU_n (by decide)]; exact f2_340_7) rfl) (dkN_sub (by rw [eI32, dkU_n (by decide)]; exact f2_340_8) rfl) (dkN_sub (by rw [eI32, dkU_n (by decide)]; exact f2_340_9) rfl) (lv_sub hl [1, 0] rfl)
  refine lv_iconst (v := 0) hx hb dX6_town_0 (by decide) ?_
  refine lv_istore_n (lv' := [(1, .int 0), (0, .ref (z + 340))]) hx hb dX6_town_1 rfl hl (by decide) rfl (fun ls hl => ?_)
  exact C2 _ I0 _ _ ls 0 (Nat.lt_succ_self _) hW hS hF (dkN_sub (dkN_lit (x := 0) (0) rfl) rfl) (dkN_sub n340_10 rfl) (dkN_sub n340_11 rfl) (dkN_sub n340_12 rfl) (dkN_sub n340_6 rfl) (dkN_sub n340_7 rfl) (dkN_sub n340_8 rfl) (dkN_sub n340_9 rfl) (lv_sub hl [1, 0] rfl)
