set_option maxHeartbeats 4000000 in
set_option maxRecDepth 100000 in
theorem c_X2_takes_2 (l : Launch) (g : dkG) (z : Nat) (I0 : dkI) (p0 : Int32) (dp0 : dkN [(59, 59)] p0)  (hO : dkOk I0) : Met l yX2_takes wsX2_takes (dkR 1) (dkPc g z [.ref (z + 12), .int p0] I0) (dkQi g z (fun r I1 => dkF [(12, 12, 2, 2), (12, 12, 4, 5)] I0 I1 ∧ dkOk I1 ∧ ((dkN [(0, 0)] r ∧ dkN [(0, 90)] (I1 12 4) ∧ dkN [(1, 1)] (I1 12 5) ∧ True) ∨ (dkN [(1, 1)] r ∧ dkN [(1, 90)] (I1 12 1) ∧ dkN [(1, 90)] (I1 12 2) ∧ True)))) 0 0 (dkA z) := by
  refine Met.ofW (cc := cX2_takes) (maxL := 2) (ret := (some .boolean)) (by decide) rfl ?_
  intro p e s m args below meth c s₁ B hml hv
  obtain ⟨ha, hW, hK, hT⟩ := hv
  have hx := B.exec
  have hb := B.bytes
  have hr := B.returns
  have hts := atoms_spec (ws := wsX2_takes) B.pre
  have hown : s.vm.findClass RX2 = some m.cls := findClass_of_methodNamed B.named
  have hlocks := B.notSynchronized
  have hS : va_S (dkA z) s.heap s.heap [] := va_S.rf
  have hF : dkF [(12, 12, 2, 2), (12, 12, 4, 5)] I0 I0 := dkF_rf _ _
  have hl := lv_entry ([.ref (z + 12), .int p0]) (n := 2) (Nat.le_of_ble_eq_true rfl)
  have hgo : entryFrame m args 2 = entryFrame m ([.ref (z + 12), .int p0] : List Value).toArray 2 := by rw [ha]
  rw [hgo, lg_entry_eq]
  generalize (lg_sl ([.ref (z + 12), .int p0]) ++ List.replicate (2 - (lg_sl ([.ref (z + 12), .int p0])).length) Slot.unset).toArray = ls at hl ⊢
  have hl : lv_has ls 2 [(0, .ref (z + 12)), (1, .int p0)] := hl
  refine lv_aload_n hx hb dX2_takes_0 rfl (lv_at hl 0 rfl) ?_
  refine dk_Vi (As := []) (rest := []) ⟨hx, hb, hml, hown, hts⟩ (c_X2_coming_0 l g z I0 hO) (cwV 0 hts gX2_takes_X2_coming rfl rfl rfl (by decide +kernel) ⟨Nat.le_of_ble_eq_true rfl, Nat.le_of_ble_eq_true rfl⟩) (dk_at12 hW) rfl hK hT hW hS rfl hl.1 rfl (Nat.le_of_ble_eq_true rfl) dX2_takes_1 ⟨Nat.zero_le _, Nat.zero_le _⟩ (fun v1 I1 H1 L1 hp1 hW hS => ?_)
  obtain ⟨hF1, hO, hc1⟩ := hp1
  have hF := dkF_call hF hF1 rfl
  rcases hc1 with ⟨dv1, -⟩ | hc1
  ·
    refine lv_iload_n hx hb dX2_takes_4 rfl (lv_at hl 1 rfl) ?_
    refine lv_icmp_eq (tgt := 14) hx hb dX2_takes_5 (by decide) (fun c2 => ?_) (fun c2 => ?_)
    ·
      exact (dkN_nil (show dkN [] v1 from dkN_eq1 dv1 dp0 (congrArg Int32.toInt c2) rfl)).elim
    ·
      refine lv_aload_n hx hb dX2_takes_8 rfl (lv_at hl 0 rfl) ?_
      refine lv_iconst (v := 1) hx hb dX2_takes_9 (by decide) ?_
      refine dk_Vi (As := [.int 1]) (rest := []) ⟨hx, hb, hml, hown, hts⟩ (c_X2_meets_0 l g z I1 1 (dkN_lit (x := 1) (1) rfl) hO) (cwV 1 hts gX2_takes_X2_meets rfl rfl rfl (by decide +kernel) ⟨Nat.le_of_ble_eq_true rfl, Nat.le_of_ble_eq_true rfl⟩) (dk_at12 hW) rfl hK hT hW hS rfl hl.1 rfl (Nat.le_of_ble_eq_true rfl) dX2_takes_10 ⟨Nat.zero_le _, Nat.zero_le _⟩ (fun v3 I3 H3 L3 hp3 hW hS => ?_)
      obtain ⟨hF3, hO, hc3⟩ := hp3
      have hF := dkF_call hF hF3 rfl
      obtain ⟨dv3, f3_12_4, f3_12_5, -⟩ := hc3
      exact W.zret (v := v3) (ty := .boolean) hx hb hr (dkN_zr dv3 rfl) (fun t ht hW9 => ⟨⟨v3, I3, rfl, ⟨hF, hO, Or.inl ⟨dkN_sub dv3 rfl, (show dkN [(0, 90)] (I3 12 4) from dkN_sub f3_12_4 rfl), (show dkN [(1, 1)] (I3 12 5) from dkN_sub f3_12_5 rfl), trivial⟩⟩, dkW_eq ht hW⟩, hS.F ht⟩) hS.2.2 dX2_takes_13
  ·
    obtain ⟨dv1, f1_12_1, f1_12_2, -⟩ := hc1
    refine lv_iload_n hx hb dX2_takes_4 rfl (lv_at hl 1 rfl) ?_
    refine lv_icmp_eq (tgt := 14) hx hb dX2_takes_5 (by decide) (fun c4 => ?_) (fun c4 => ?_)
    ·
      have d5 : dkN [(59, 59)] v1 := dkN_eq1 dv1 dp0 (congrArg Int32.toInt c4) rfl
      refine lv_aload_n hx hb dX2_takes_14 rfl (lv_at hl 0 rfl) ?_
      refine lv_dup hx hb dX2_takes_15 rfl ?_
      refine dk_get (k := 12) hx hb hts iX2_takes_2 hown hK (dk_at12 hW) rfl 2 (by decide) (hts (.fieldLink RX2 30 "DogKings$Reader" "at" "I") (List.mem_of_getElem? (i := 1) rfl)) rfl dX2_takes_16 ?_
      refine lv_topi (fun v6 ev6 => ?_)
      have dv6 : dkN [(0, 89)] v6 := by rw [ev6]; exact f1_12_2
      refine lv_iconst (v := 1) hx hb dX2_takes_19 (by decide) ?_
      refine lv_iadd hx hb dX2_takes_20 ?_
      refine lv_topi (fun v7 ev7 => ?_)
      have dv7 : dkN [(1, 90)] v7 := by rw [ev7]; exact dkN_add dv6 (dkN_lit (x := 1) (1) rfl) rfl
      refine dk_put (k := 12) hx hb hts iX2_takes_2 tyX2 tyX2_ok nmX2 hown hK hW (dk_at12 hW) hS rfl 2 (by decide) (hts (.fieldLink RX2 30 "DogKings$Reader" "at" "I") (List.mem_of_getElem? (i := 1) rfl)) rfl rfl (Nat.le_of_ble_eq_true rfl) rfl dX2_takes_21 (fun I8 H8 L8 eI8 hW hS => ?_)
      have eI8 : I8 = dkU I1 12 2 v7 := eI8
      have hO := dkO_set hO eI8 (dkN_sub dv7 rfl)
      have hF := dkF_set hF eI8 rfl
      refine lv_iconst (v := 1) hx hb dX2_takes_24 (by decide) ?_
      exact W.zret (v := 1) (ty := .boolean) hx hb hr rfl (fun t ht hW9 => ⟨⟨1, I8, rfl, ⟨hF, hO, Or.inr (⟨dkN_sub (dkN_lit (x := 1) (1) rfl) rfl, (show dkN [(1, 90)] (I8 12 1) from dkN_sub (by rw [eI8, dkU_sn (by decide)]; exact f1_12_1) rfl), (show dkN [(1, 90)] (I8 12 2) from dkN_sub (by rw [eI8, dkU_ss]; exact dv7) rfl), trivial⟩)⟩, dkW_eq ht hW⟩, hS.F ht⟩) hS.2.2 dX2_takes_25
    ·
      have d9 : dkN [(0, 58), (60, 255)] v1 := dkN_ne1 (59) dv1 dp0 (dk_ne c4) rfl
      refine lv_aload_n hx hb dX2_takes_8 rfl (lv_at hl 0 rfl) ?_
      refine lv_iconst (v := 1) hx hb dX2_takes_9 (by decide) ?_
      refine dk_Vi (As := [.int 1]) (rest := []) ⟨hx, hb, hml, hown, hts⟩ (c_X2_meets_0 l g z I1 1 (dkN_lit (x := 1) (1) rfl) hO) (cwV 1 hts gX2_takes_X2_meets rfl rfl rfl (by decide +kernel) ⟨Nat.le_of_ble_eq_true rfl, Nat.le_of_ble_eq_true rfl⟩) (dk_at12 hW) rfl hK hT hW hS rfl hl.1 rfl (Nat.le_of_ble_eq_true rfl) dX2_takes_10 ⟨Nat.zero_le _, Nat.zero_le _⟩ (fun v10 I10 H10 L10 hp10 hW hS => ?_)
      obtain ⟨hF10, hO, hc10⟩ := hp10
      have hF := dkF_call hF hF10 rfl
      obtain ⟨dv10, f10_12_4, f10_12_5, -⟩ := hc10
      exact W.zret (v := v10) (ty := .boolean) hx hb hr (dkN_zr dv10 rfl) (fun t ht hW9 => ⟨⟨v10, I10, rfl, ⟨hF, hO, Or.inl ⟨dkN_sub dv10 rfl, (show dkN [(0, 90)] (I10 12 4) from dkN_sub f10_12_4 rfl), (show dkN [(1, 1)] (I10 12 5) from dkN_sub f10_12_5 rfl), trivial⟩⟩, dkW_eq ht hW⟩, hS.F ht⟩) hS.2.2 dX2_takes_13
set_option maxHeartbeats 4000000 in
set_option maxRecDepth 100000 in
theorem c_X4_begin_0 (l : Launch) (g : dkG) (z : Nat) (I0 : dkI) (t0 : Nat) (ht0 : dkT t0) (p0 : Int32) (p1 : Int32) (dp0 : dkN [(3, 9)] p0) (dp1 : dkN [(1, 30)] p1)  (hO : dkOk I0) : Met l yX4_begin wsX4_begin (dkR 0) (dkPc g z [.ref (z + t0), .int p0, .int p1] I0) (dkQv g z (fun I1 => dkF [(t0, t0, 0, 4), (t0, t0, 11, 11), (t0, t0, 15, 17)] I0 I1 ∧ dkOk I1 ∧ ((dkN [(3, 9)] (I1 t0 0) ∧ dkN [(1, 30)] (I1 t0 1) ∧ dkN [(0, 0)] (I1 t0 11) ∧ dkN [(0, 0)] (I1 t0 15) ∧ dkN [(0, 0)] (I1 t0 16) ∧ dkN [(0, 0)] (I1 t0 17) ∧ dkN [(0, 0)] (I1 t0 2) ∧ dkN [(0, 0)] (I1 t0 3) ∧ dkN [(0, 0)] (I1 t0 4) ∧ True)))) 0 0 (dkA z) := by
  refine Met.ofW (cc := cX4_begin) (maxL := 3) (ret := none) (by decide) rfl ?_
  intro p e s m args below meth c s₁ B hml hv
  obtain ⟨ha, hW, hK, hT⟩ := hv
  have hx := B.exec
  have hb := B.bytes
  have hr := B.returns
  have hts := atoms_spec (ws := wsX4_begin) B.pre
  have hown : s.vm.findClass RX4 = some m.cls := findClass_of_methodNamed B.named
  have hlocks := B.notSynchronized
  have hS : va_S (dkA z) s.heap s.heap [] := va_S.rf
  have hF : dkF [(t0, t0, 0, 4), (t0, t0, 11, 11), (t0, t0, 15, 17)] I0 I0 := dkF_rf _ _
  have hl := lv_entry ([.ref (z + t0), .int p0, .int p1]) (n := 3) (Nat.le_of_ble_eq_true rfl)
  have hgo : entryFrame m args 3 = entryFrame m ([.ref (z + t0), .int p0, .int p1] : List Value).toArray 3 := by rw [ha]
  rw [hgo, lg_entry_eq]
  generalize (lg_sl ([.ref (z + t0), .int p0, .int p1]) ++ List.replicate (3 - (lg_sl ([.ref (z + t0), .int p0, .int p1])).length) Slot.unset).toArray = ls at hl ⊢
  have hl : lv_has ls 3 [(0, .ref (z + t0)), (1, .int p0), (2, .int p1)] := hl
  refine lv_aload_n hx hb dX4_begin_0 rfl (lv_at hl 0 rfl) ?_
  refine lv_iload_n hx hb dX4_begin_1 rfl (lv_at hl 1 rfl) ?_
  refine dk_put (k := t0) hx hb hts iX4_begin_4 tyX4 tyX4_ok nmX4 hown hK hW (dk_aT0 ht0 hW) hS rfl 0 (by decide) (hts (.fieldLink RX4 42 "DogKings$Town" "places" "I") (List.mem_of_getElem? (i := 1) rfl)) rfl rfl (Nat.le_of_ble_eq_true rfl) (dk_eT0 ht0) dX4_begin_2 (fun I1 H1 L1 eI1 hW hS => ?_)
  have eI1 : I1 = dkU I0 t0 0 p0 := eI1
  have hO := dkO_setT hO ht0 (c := 0) (by decide) eI1 (dkN_sub dp0 rfl)
  have hF := dkF_set hF eI1 (dkIn_at (i := 0) rfl (Nat.le_refl _) (Nat.le_refl _) (by decide) (by decide))
  refine lv_aload_n hx hb dX4_begin_5 rfl (lv_at hl 0 rfl) ?_
  refine lv_iload_n hx hb dX4_begin_6 rfl (lv_at hl 2 rfl) ?_
  refine dk_put (k := t0) hx hb hts iX4_begin_4 tyX4 tyX4_ok nmX4 hown hK hW (dk_aT0 ht0 hW) hS rfl 1 (by decide) (hts (.fieldLink RX4 46 "DogKings$Town" "fridayLasts" "I") (List.mem_of_getElem? (i := 2) rfl)) rfl rfl (Nat.le_of_ble_eq_true rfl) (dk_eT1 ht0) dX4_begin_7 (fun I2 H2 L2 eI2 hW hS => ?_)
  have eI2 : I2 = dkU I1 t0 1 p1 := eI2
  have hO := dkO_setT hO ht0 (c := 0) (by decide) eI2 (dkN_sub dp1 rfl)
  have hF := dkF_set hF eI2 (dkIn_at (i := 0) rfl (Nat.le_refl _) (Nat.le_refl _) (by decide) (by decide))
  refine lv_aload_n hx hb dX4_begin_10 rfl (lv_at hl 0 rfl) ?_
  refine lv_iconst (v := 0) hx hb dX4_begin_11 (by decide) ?_
  refine dk_put (k := t0) hx hb hts iX4_begin_4 tyX4 tyX4_ok nmX4 hown hK hW (dk_aT0 ht0 hW) hS rfl 2 (by decide) (hts (.fieldLink RX4 49 "DogKings$Town" "friday" "I") (List.mem_of_getElem? (i := 3) rfl)) rfl rfl (Nat.le_of_ble_eq_true rfl) (dk_eT2 ht0) dX4_begin_12 (fun I3 H3 L3 eI3 hW hS => ?_)
  have eI3 : I3 = dkU I2 t0 2 0 := eI3
  have hO := dkO_setT hO ht0 (c := 0) (by decide) eI3 (dkN_sub (dkN_lit (x := 0) (0) rfl) rfl)
  have hF := dkF_set hF eI3 (dkIn_at (i := 0) rfl (Nat.le_refl _) (Nat.le_refl _) (by decide) (by decide))
  refine lv_aload_n hx hb dX4_begin_15 rfl (lv_at hl 0 rfl) ?_
  refine lv_iconst (v := 0) hx hb dX4_begin_16 (by decide) ?_
  refine dk_put (k := t0) hx hb hts iX4_begin_4 tyX4 tyX4_ok nmX4 hown hK hW (dk_aT0 ht0 hW) hS rfl 3 (by decide) (hts (.fieldLink RX4 52 "DogKings$Town" "minute" "I") (List.mem_of_getElem? (i := 4) rfl)) rfl rfl (Nat.le_of_ble_eq_true rfl) (dk_eT3 ht0) dX4_begin_17 (fun I4 H4 L4 eI4 hW hS => ?_)
  have eI4 : I4 = dkU I3 t0 3 0 := eI4
  have hO := dkO_setT hO ht0 (c := 0) (by decide) eI4 (dkN_sub (dkN_lit (x := 0) (0) rfl) rfl)
  have hF := dkF_set hF eI4 (dkIn_at (i := 0) rfl (Nat.le_refl _) (Nat.le_refl _) (by decide) (by decide))
  refine lv_aload_n hx hb dX4_begin_20 rfl (lv_at hl 0 rfl) ?_
  refine lv_iconst (v := 0) hx hb dX4_begin_21 (by decide) ?_
  refine dk_put (k := t0) hx hb hts iX4_begin_4 tyX4 tyX4_ok nmX4 hown hK hW (dk_aT0 ht0 hW) hS rfl 4 (by decide) (hts (.fieldLink RX4 55 "DogKings$Town" "people" "I") (List.mem_of_getElem? (i := 5) rfl)) rfl rfl (Nat.le_of_ble_eq_true rfl) (dk_eT4 ht0) dX4_begin_22 (fun I5 H5 L5 eI5 hW hS => ?_)
  have eI5 : I5 = dkU I4 t0 4 0 := eI5
  have hO := dkO_setT hO ht0 (c := 0) (by decide) eI5 (dkN_sub (dkN_lit (x := 0) (0) rfl) rfl)
  have hF := dkF_set hF eI5 (dkIn_at (i := 0) rfl (Nat.le_refl _) (Nat.le_refl _) (by decide) (by decide))
  refine lv_aload_n hx hb dX4_begin_25 rfl (lv_at hl 0 rfl) ?_
  refine lv_iconst (v := 0) hx hb dX4_begin_26 (by decide) ?_
  refine dk_put (k := t0) hx hb hts iX4_begin_4 tyX4 tyX4_ok nmX4 hown hK hW (dk_aT0 ht0 hW) hS rfl 11 (by decide) (hts (.fieldLink RX4 58 "DogKings$Town" "dogs" "I") (List.mem_of_getElem? (i := 6) rfl)) rfl rfl (Nat.le_of_ble_eq_true rfl) (dk_eT11 ht0) dX4_begin_27 (fun I6 H6 L6 eI6 hW hS => ?_)
  have eI6 : I6 = dkU I5 t0 11 0 := eI6
  have hO := dkO_setT hO ht0 (c := 0) (by decide) eI6 (dkN_sub (dkN_lit (x := 0) (0) rfl) rfl)
  have hF := dkF_set hF eI6 (dkIn_at (i := 1) rfl (Nat.le_refl _) (Nat.le_refl _) (by decide) (by decide))
  refine lv_aload_n hx hb dX4_begin_30 rfl (lv_at hl 0 rfl) ?_
  refine lv_iconst (v := 0) hx hb dX4_begin_31 (by decide) ?_
  refine dk_put (k := t0) hx hb hts iX4_begin_4 tyX4 tyX4_ok nmX4 hown hK hW (dk_aT0 ht0 hW) hS rfl 15 (by decide) (hts (.fieldLink RX4 61 "DogKings$Town" "dogsThere" "I") (List.mem_of_getElem? (i := 7) rfl)) rfl rfl (Nat.le_of_ble_eq_true rfl) (dk_eT15 ht0) dX4_begin_32 (fun I7 H7 L7 eI7 hW hS => ?_)
  have eI7 : I7 = dkU I6 t0 15 0 := eI7
  have hO := dkO_setT hO ht0 (c := 0) (by decide) eI7 (dkN_sub (dkN_lit (x := 0) (0) rfl) rfl)
  have hF := dkF_set hF eI7 (dkIn_at (i := 2) rfl (Nat.le_refl _) (Nat.le_refl _) (by decide) (by decide))
  refine lv_aload_n hx hb dX4_begin_35 rfl (lv_at hl 0 rfl) ?_
  refine lv_iconst (v := 0) hx hb dX4_begin_36 (by decide) ?_
  refine dk_put (k := t0) hx hb hts iX4_begin_4 tyX4 tyX4_ok nmX4 hown hK hW (dk_aT0 ht0 hW) hS rfl 16 (by decide) (hts (.fieldLink RX4 64 "DogKings$Town" "dogsAsleep" "I") (List.mem_of_getElem? (i := 8) rfl)) rfl rfl (Nat.le_of_ble_eq_true rfl) (dk_eT16 ht0) dX4_begin_37 (fun I8 H8 L8 eI8 hW hS => ?_)
  have eI8 : I8 = dkU I7 t0 16 0 := eI8
  have hO := dkO_setT hO ht0 (c := 0) (by decide) eI8 (dkN_sub (dkN_lit (x := 0) (0) rfl) rfl)
  have hF := dkF_set hF eI8 (dkIn_at (i := 2) rfl (Nat.le_refl _) (Nat.le_refl _) (by decide) (by decide))
  refine lv_aload_n hx hb dX4_begin_40 rfl (lv_at hl 0 rfl) ?_
  refine lv_iconst (v := 0) hx hb dX4_begin_41 (by decide) ?_
  refine dk_put (k := t0) hx hb hts iX4_begin_4 tyX4 tyX4_ok nmX4 hown hK hW (dk_aT0 ht0 hW) hS rfl 17 (by decide) (hts (.fieldLink RX4 67 "DogKings$Town" "cats" "I") (List.mem_of_getElem? (i := 9) rfl)) rfl rfl (Nat.le_of_ble_eq_true rfl) (dk_eT17 ht0) dX4_begin_42 (fun I9 H9 L9 eI9 hW hS => ?_)
  have eI9 : I9 = dkU I8 t0 17 0 := eI9
  have hO := dkO_setT hO ht0 (c := 0) (by decide) eI9 (dkN_sub (dkN_lit (x := 0) (0) rfl) rfl)
  have hF := dkF_set hF eI9 (dkIn_at (i := 2) rfl (Nat.le_refl _) (Nat.le_refl _) (by decide) (by decide))
  exact W.vret hx hb hr (fun t ht hW9 => ⟨⟨I9, rfl, ⟨hF, hO, ⟨(show dkN [(3, 9)] (I9 t0 0) from dkN_sub (by rw [eI9, dkU_sn (by decide)]; exact (by rw [eI8, dkU_sn (by decide)]; exact (by rw [eI7, dkU_sn (by decide)]; exact (by rw [eI6, dkU_sn (by decide)]; exact (by rw [eI5, dkU_sn (by decide)]; exact (by rw [eI4, dkU_sn (by decide)]; exact (by rw [eI3, dkU_sn (by decide)]; exact (by rw [eI2, dkU_sn (by decide)]; exact (by rw [eI1, dkU_ss]; exact dp0))))))))) rfl), (show dkN [(1, 30)] (I9 t0 1) from dkN_sub (by rw [eI9, dkU_sn (by decide)]; exact (by rw [eI8, dkU_sn (by decide)]; exact (by rw [eI7, dkU_sn (by decide)]; exact (by rw [eI6, dkU_sn (by decide)]; exact (by rw [eI5, dkU_sn (by decide)]; exact (by rw [eI4, dkU_sn (by decide)]; exact (by rw [eI3, dkU_sn (by decide)]; exact (by rw [eI2, dkU_ss]; exact dp1)))))))) rfl), (show dkN [(0, 0)] (I9 t0 11) from dkN_sub (by rw [eI9, dkU_sn (by decide)]; exact (by rw [eI8, dkU_sn (by decide)]; exact (by rw [eI7, dkU_sn (by decide)]; exact (by rw [eI6, dkU_ss]; exact (dkN_lit (x := 0) (0) rfl))))) rfl), (show dkN [(0, 0)] (I9 t0 15) from dkN_sub (by rw [eI9, dkU_sn (by decide)]; exact (by rw [eI8, dkU_sn (by decide)]; exact (by rw [eI7, dkU_ss]; exact (dkN_lit (x := 0) (0) rfl)))) rfl), (show dkN [(0, 0)] (I9 t0 16) from dkN_sub (by rw [eI9, dkU_sn (by decide)]; exact (by rw [eI8, dkU_ss]; exact (dkN_lit (x := 0) (0) rfl))) rfl), (show dkN [(0, 0)] (I9 t0 17) from dkN_sub (by rw [eI9, dkU_ss]; exact (dkN_lit (x := 0) (0) rfl)) rfl), (show dkN [(0, 0)] (I9 t0 2) from dkN_sub (by rw [eI9, dkU_sn (by decide)]; exact (by rw [eI8, dkU_sn (by decide)]; exact (by rw [eI7, dkU_sn (by decide)]; exact (by rw [eI6, dkU_sn (by decide)]; exact (by rw [eI5, dkU_sn (by decide)]; exact (by rw [eI4, dkU_sn (by decide)]; exact (by rw [eI3, dkU_ss]; exact (dkN_lit (x := 0) (0) rfl)))))))) rfl), (show dkN [(0, 0)] (I9 t0 3) from dkN_sub (by rw [eI9, dkU_sn (by decide)]; exact (by rw [eI8, dkU_sn (by decide)]; exact (by rw [eI7, dkU_sn (by decide)]; exact (by rw [eI6, dkU_sn (by decide)]; exact (by rw [eI5, dkU_sn (by decide)]; exact (by rw [eI4, dkU_ss]; exact (dkN_lit (x := 0) (0) rfl))))))) rfl), (show dkN [(0, 0)] (I9 t0 4) from dkN_sub (by rw [eI9, dkU_sn (by decide)]; exact (by rw [eI8, dkU_sn (by decide)]; exact (by rw [eI7, dkU_sn (by decide)]; exact (by rw [eI6, dkU_sn (by decide)]; exact (by rw [eI5, dkU_ss]; exact (dkN_lit (x := 0) (0) rfl)))))) rfl), trivial⟩⟩, dkW_eq ht hW⟩, hS.F ht⟩) hS.2.2 dX4_begin_45
set_option maxHeartbeats 4000000 in
set_option maxRecDepth 100000 in
theorem c_X2_readsLaw_0 (l : Launch) (g : dkG) (z : Nat) (I0 : dkI)  (hO : dkOk I0) : Met l yX2_readsLaw wsX2_readsLaw (dkR 2) (dkPc g z [.ref (z + 12)] I0) (dkQi g z (fun r I1 => dkF [(12, 12, 2, 2), (12, 12, 4, 5), (14, 14, 0, 4), (14, 14, 11, 11), (14, 14, 15, 17)] I0 I1 ∧ dkOk I1 ∧ ((dkN [(0, 0)] r ∧ dkN [(0, 90)] (I1 12 4) ∧ dkN [(1, 2)] (I1 12 5) ∧ True) ∨ (dkN [(1, 1)] r ∧ dkN [(1, 90)] (I1 12 1) ∧ dkN [(1, 90)] (I1 12 2) ∧ dkN [(3, 9)] (I1 14 0) ∧ dkN [(1, 30)] (I1 14 1) ∧ dkN [(0, 0)] (I1 14 11) ∧ dkN [(0, 0)] (I1 14 15) ∧ dkN [(0, 0)] (I1 14 16) ∧ dkN [(0, 0)] (I1 14 17) ∧ dkN [(0, 0)] (I1 14 2) ∧ dkN [(0, 0)] (I1 14 3) ∧ dkN [(0, 0)] (I1 14 4) ∧ True)))) 0 0 (dkA z) := by
  refine Met.ofW (cc := cX2_readsLaw) (maxL := 3) (ret := (some .boolean)) (by decide) rfl ?_
  intro p e s m args below meth c s₁ B hml hv
  obtain ⟨ha, hW, hK, hT⟩ := hv
  have hx := B.exec
  have hb := B.bytes
  have hr := B.returns
  have hts := atoms_spec (ws := wsX2_readsLaw) B.pre
  have hown : s.vm.findClass RX2 = some m.cls := findClass_of_methodNamed B.named
  have hlocks := B.notSynchronized
  have hS : va_S (dkA z) s.heap s.heap [] := va_S.rf
  have hF : dkF [(12, 12, 2, 2), (12, 12, 4, 5), (14, 14, 0, 4), (14, 14, 11, 11), (14, 14, 15, 17)] I0 I0 := dkF_rf _ _
  have hl := lv_entry ([.ref (z + 12)]) (n := 3) (Nat.le_of_ble_eq_true rfl)
  have hgo : entryFrame m args 3 = entryFrame m ([.ref (z + 12)] : List Value).toArray 3 := by rw [ha]
  rw [hgo, lg_entry_eq]
  generalize (lg_sl ([.ref (z + 12)]) ++ List.replicate (3 - (lg_sl ([.ref (z + 12)])).length) Slot.unset).toArray = ls at hl ⊢
  have hl : lv_has ls 3 [(0, .ref (z + 12))] := hl
  refine lv_aload_n hx hb dX2_readsLaw_0 rfl (lv_at hl 0 rfl) ?_
  refine lv_bipush (v := 116) hx hb dX2_readsLaw_1 (by decide) ?_
  refine dk_Vi (As := [.int 116]) (rest := []) ⟨hx, hb, hml, hown, hts⟩ (c_X2_takes_0 l g z I0 116 (dkN_lit (x := 116) (116) rfl) hO) (cwV 1 hts gX2_readsLaw_X2_takes rfl rfl rfl (by decide +kernel) ⟨Nat.le_of_ble_eq_true rfl, Nat.le_of_ble_eq_true rfl⟩) (dk_at12 hW) rfl hK hT hW hS rfl hl.1 rfl (Nat.le_of_ble_eq_true rfl) dX2_readsLaw_3 ⟨Nat.zero_le _, Nat.zero_le _⟩ (fun v1 I1 H1 L1 hp1 hW hS => ?_)
  obtain ⟨hF1, hO, hc1⟩ := hp1
  have hF := dkF_call hF hF1 rfl
  rcases hc1 with ⟨dv1, f1_12_4, f1_12_5, -⟩ | hc1
  ·
    refine lv_if_ne (tgt := 11) hx hb dX2_readsLaw_6 (by decide) (fun c2 => ?_) (fun c2 => ?_)
    ·
      exact (dkN_nil (show dkN [] v1 from dkN_ne1 (0) dv1 (dkN_lit (x := 0) (0) rfl) (dk_ne c2) rfl)).elim
    ·
      refine lv_iconst (v := 0) hx hb dX2_readsLaw_9 (by decide) ?_
      exact W.zret (v := 0) (ty := .boolean) hx hb hr rfl (fun t ht hW9 => ⟨⟨0, I1, rfl, ⟨hF, hO, Or.inl ⟨dkN_sub (dkN_lit (x := 0) (0) rfl) rfl, (show dkN [(0, 90)] (I1 12 4) from dkN_sub f1_12_4 rfl), (show dkN [(1, 2)] (I1 12 5) from dkN_sub f1_12_5 rfl), trivial⟩⟩, dkW_eq ht hW⟩, hS.F ht⟩) hS.2.2 dX2_readsLaw_10
  ·
    obtain ⟨dv1, f1_12_1, f1_12_2, -⟩ := hc1
    refine lv_if_ne (tgt := 11) hx hb dX2_readsLaw_6 (by decide) (fun c3 => ?_) (fun c3 => ?_)
    ·
      refine lv_aload_n hx hb dX2_readsLaw_11 rfl (lv_at hl 0 rfl) ?_
      refine lv_iconst (v := 3) hx hb dX2_readsLaw_12 (by decide) ?_
      refine lv_bipush (v := 9) hx hb dX2_readsLaw_13 (by decide) ?_
      refine dk_Vi (As := [.int 3, .int 9]) (rest := []) ⟨hx, hb, hml, hown, hts⟩ (c_X2_number_0 l g z I1 3 9 (dkN_lit (x := 3) (3) rfl) (dkN_lit (x := 9) (9) rfl) hO) (cwV 2 hts gX2_readsLaw_X2_number rfl rfl rfl (by decide +kernel) ⟨Nat.le_of_ble_eq_true rfl, Nat.le_of_ble_eq_true rfl⟩) (dk_at12 hW) rfl hK hT hW hS rfl hl.1 rfl (Nat.le_of_ble_eq_true rfl) dX2_readsLaw_15 ⟨Nat.zero_le _, Nat.zero_le _⟩ (fun v4 I4 H4 L4 hp4 hW hS => ?_)
      obtain ⟨hF4, hO, hc4⟩ := hp4
      have hF := dkF_call hF hF4 rfl
      rcases hc4 with ⟨dv4, f4_12_4, f4_12_5, -⟩ | hc4
      ·
        refine lv_istore_n (lv' := [(1, .int v4), (0, .ref (z + 12))]) hx hb dX2_readsLaw_18 rfl hl (by decide) rfl (fun ls hl => ?_)
        refine lv_iload_n hx hb dX2_readsLaw_19 rfl (lv_at hl 0 rfl) ?_
        refine lv_ldc (v := (-1000000)) hx hb hown (hts (.constant RX2 50 (-1000000)) (List.mem_of_getElem? (i := 1) rfl)) dX2_readsLaw_20 ?_
        refine lv_icmp_eq (tgt := 34) hx hb dX2_readsLaw_22 (by decide) (fun c5 => ?_) (fun c5 => ?_)
        ·
          refine lv_iconst (v := 0) hx hb dX2_readsLaw_34 (by decide) ?_
          exact W.zret (v := 0) (ty := .boolean) hx hb hr rfl (fun t ht hW9 => ⟨⟨0, I4, rfl, ⟨hF, hO, Or.inl ⟨dkN_sub (dkN_lit (x := 0) (0) rfl) rfl, (show dkN [(0, 90)] (I4 12 4) from dkN_sub f4_12_4 rfl), (show dkN [(1, 2)] (I4 12 5) from dkN_sub f4_12_5 rfl), trivial⟩⟩, dkW_eq ht hW⟩, hS.F ht⟩) hS.2.2 dX2_readsLaw_35
        ·
          exact (dkN_nil (show dkN [] v4 from dkN_ne1 (-1000000) dv4 (dkN_lit (x := (-1000000)) (-1000000) rfl) (dk_ne c5) rfl)).elim
      ·
        obtain ⟨dv4, -⟩ := hc4
        refine lv_istore_n (lv' := [(1, .int v4), (0, .ref (z + 12))]) hx hb dX2_readsLaw_18 rfl hl (by decide) rfl (fun ls hl => ?_)
        refine lv_iload_n hx hb dX2_readsLaw_19 rfl (lv_at hl 0 rfl) ?_
        refine lv_ldc (v := (-1000000)) hx hb hown (hts (.constant RX2 50 (-1000000)) (List.mem_of_getElem? (i := 1) rfl)) dX2_readsLaw_20 ?_
        refine lv_icmp_eq (tgt := 34) hx hb dX2_readsLaw_22 (by decide) (fun c6 => ?_) (fun c6 => ?_)
        ·
          exact (dkN_nil (show dkN [] v4 from dkN_eq1 dv4 (dkN_lit (x := (-1000000)) (-1000000) rfl) (congrArg Int32.toInt c6) rfl)).elim
        ·
          refine lv_aload_n hx hb dX2_readsLaw_25 rfl (lv_at hl 1 rfl) ?_
          refine lv_bipush (v := 44) hx hb dX2_readsLaw_26 (by decide) ?_
          refine dk_Vi (As := [.int 44]) (rest := []) ⟨hx, hb, hml, hown, hts⟩ (c_X2_takes_1 l g z I4 44 (dkN_lit (x := 44) (44) rfl) hO) (cwV 1 hts gX2_readsLaw_X2_takes rfl rfl rfl (by decide +kernel) ⟨Nat.le_of_ble_eq_true rfl, Nat.le_of_ble_eq_true rfl⟩) (dk_at12 hW) rfl hK hT hW hS rfl hl.1 rfl (Nat.le_of_ble_eq_true rfl) dX2_readsLaw_28 ⟨Nat.zero_le _, Nat.zero_le _⟩ (fun v7 I7 H7 L7 hp7 hW hS => ?_)
          obtain ⟨hF7, hO, hc7⟩ := hp7
          have hF := dkF_call hF hF7 rfl
          rcases hc7 with ⟨dv7, f7_12_4, f7_12_5, -⟩ | hc7
          ·
            refine lv_if_ne (tgt := 36) hx hb dX2_readsLaw_31 (by decide) (fun c8 => ?_) (fun c8 => ?_)
            ·
              exact (dkN_nil (show dkN [] v7 from dkN_ne1 (0) dv7 (dkN_lit (x := 0) (0) rfl) (dk_ne c8) rfl)).elim
            ·
              refine lv_iconst (v := 0) hx hb dX2_readsLaw_34 (by decide) ?_
              exact W.zret (v := 0) (ty := .boolean) hx hb hr rfl (fun t ht hW9 => ⟨⟨0, I7, rfl, ⟨hF, hO, Or.inl ⟨dkN_sub (dkN_lit (x := 0) (0) rfl) rfl, (show dkN [(0, 90)] (I7 12 4) from dkN_sub f7_12_4 rfl), (show dkN [(1, 2)] (I7 12 5) from dkN_sub f7_12_5 rfl), trivial⟩⟩, dkW_eq ht hW⟩, hS.F ht⟩) hS.2.2 dX2_readsLaw_35
          ·
            obtain ⟨dv7, f7_12_1, f7_12_2, -⟩ := hc7
            refine lv_if_ne (tgt := 36) hx hb dX2_readsLaw_31 (by decide) (fun c9 => ?_) (fun c9 => ?_)
            ·
              refine lv_aload_n hx hb dX2_readsLaw_36 rfl (lv_at hl 1 rfl) ?_
              refine lv_iconst (v := 1) hx hb dX2_readsLaw_37 (by decide) ?_
              refine lv_bipush (v := 30) hx hb dX2_readsLaw_38 (by decide) ?_
              refine dk_Vi (As := [.int 1, .int 30]) (rest := []) ⟨hx, hb, hml, hown, hts⟩ (c_X2_number_1 l g z I7 1 30 (dkN_lit (x := 1) (1) rfl) (dkN_lit (x := 30) (30) rfl) hO) (cwV 2 hts gX2_readsLaw_X2_number rfl rfl rfl (by decide +kernel) ⟨Nat.le_of_ble_eq_true rfl, Nat.le_of_ble_eq_true rfl⟩) (dk_at12 hW) rfl hK hT hW hS rfl hl.1 rfl (Nat.le_of_ble_eq_true rfl) dX2_readsLaw_40 ⟨Nat.zero_le _, Nat.zero_le _⟩ (fun v10 I10 H10 L10 hp10 hW hS => ?_)
              obtain ⟨hF10, hO, hc10⟩ := hp10
              have hF := dkF_call hF hF10 rfl
              rcases hc10 with ⟨dv10, f10_12_4, f10_12_5, -⟩ | hc10
              ·
                refine lv_istore_n (lv' := [(2, .int v10), (1, .int v4), (0, .ref (z + 12))]) hx hb dX2_readsLaw_43 rfl hl (by decide) rfl (fun ls hl => ?_)
                refine lv_iload_n hx hb dX2_readsLaw_44 rfl (lv_at hl 0 rfl) ?_
                refine lv_ldc (v := (-1000000)) hx hb hown (hts (.constant RX2 50 (-1000000)) (List.mem_of_getElem? (i := 1) rfl)) dX2_readsLaw_45 ?_
                refine lv_icmp_eq (tgt := 59) hx hb dX2_readsLaw_47 (by decide) (fun c11 => ?_) (fun c11 => ?_)
                ·
                  refine lv_iconst (v := 0) hx hb dX2_readsLaw_59 (by decide) ?_
                  exact W.zret (v := 0) (ty := .boolean) hx hb hr rfl (fun t ht hW9 => ⟨⟨0, I10, rfl, ⟨hF, hO, Or.inl ⟨dkN_sub (dkN_lit (x := 0) (0) rfl) rfl, (show dkN [(0, 90)] (I10 12 4) from dkN_sub f10_12_4 rfl), (show dkN [(1, 2)] (I10 12 5) from dkN_sub f10_12_5 rfl), trivial⟩⟩, dkW_eq ht hW⟩, hS.F ht⟩) hS.2.2 dX2_readsLaw_60
                ·
                  exact (dkN_nil (show dkN [] v10 from dkN_ne1 (-1000000) dv10 (dkN_lit (x := (-1000000)) (-1000000) rfl) (dk_ne c11) rfl)).elim
              ·
                obtain ⟨dv10, -⟩ := hc10
                refine lv_istore_n (lv' := [(2, .int v10), (1, .int v4), (0, .ref (z + 12))]) hx hb dX2_readsLaw_43 rfl hl (by decide) rfl (fun ls hl => ?_)
                refine lv_iload_n hx hb dX2_readsLaw_44 rfl (lv_at hl 0 rfl) ?_
                refine lv_ldc (v := (-1000000)) hx hb hown (hts (.constant RX2 50 (-1000000)) (List.mem_of_getElem? (i := 1) rfl)) dX2_readsLaw_45 ?_
                refine lv_icmp_eq (tgt := 59) hx hb dX2_readsLaw_47 (by decide) (fun c12 => ?_) (fun c12 => ?_)
                ·
                  exact (dkN_nil (show dkN [] v10 from dkN_eq1 dv10 (dkN_lit (x := (-1000000)) (-1000000) rfl) (congrArg Int32.toInt c12) rfl)).elim
                ·
                  refine lv_aload_n hx hb dX2_readsLaw_50 rfl (lv_at hl 2 rfl) ?_
                  refine lv_bipush (v := 59) hx hb dX2_readsLaw_51 (by decide) ?_
                  refine dk_Vi (As := [.int 59]) (rest := []) ⟨hx, hb, hml, hown, hts⟩ (c_X2_takes_2 l g z I10 59 (dkN_lit (x := 59) (59) rfl) hO) (cwV 1 hts gX2_readsLaw_X2_takes rfl rfl rfl (by decide +kernel) ⟨Nat.le_of_ble_eq_true rfl, Nat.le_of_ble_eq_true rfl⟩) (dk_at12 hW) rfl hK hT hW hS rfl hl.1 rfl (Nat.le_of_ble_eq_true rfl) dX2_readsLaw_53 ⟨Nat.zero_le _, Nat.zero_le _⟩ (fun v13 I13 H13 L13 hp13 hW hS => ?_)
                  obtain ⟨hF13, hO, hc13⟩ := hp13
                  have hF := dkF_call hF hF13 rfl
                  rcases hc13 with ⟨dv13, f13_12_4, f13_12_5, -⟩ | hc13
                  ·
                    refine lv_if_ne (tgt := 61) hx hb dX2_readsLaw_56 (by decide) (fun c14 => ?_) (fun c14 => ?_)
                    ·
                      exact (dkN_nil (show dkN [] v13 from dkN_ne1 (0) dv13 (dkN_lit (x := 0) (0) rfl) (dk_ne c14) rfl)).elim
                    ·
                      refine lv_iconst (v := 0) hx hb dX2_readsLaw_59 (by decide) ?_
                      exact W.zret (v := 0) (ty := .boolean) hx hb hr rfl (fun t ht hW9 => ⟨⟨0, I13, rfl, ⟨hF, hO, Or.inl ⟨dkN_sub (dkN_lit (x := 0) (0) rfl) rfl, (show dkN [(0, 90)] (I13 12 4) from dkN_sub f13_12_4 rfl), (show dkN [(1, 2)] (I13 12 5) from dkN_sub f13_12_5 rfl), trivial⟩⟩, dkW_eq ht hW⟩, hS.F ht⟩) hS.2.2 dX2_readsLaw_60
                  ·
                    obtain ⟨dv13, f13_12_1, f13_12_2, -⟩ := hc13
                    refine lv_if_ne (tgt := 61) hx hb dX2_readsLaw_56 (by decide) (fun c15 => ?_) (fun c15 => ?_)
                    ·
                      refine lv_aload_n hx hb dX2_readsLaw_61 rfl (lv_at hl 2 rfl) ?_
                      refine dk_get (k := 12) hx hb hts iX2_readsLaw_2 hown hK (dk_at12 hW) rfl 3 (by decide) (hts (.fieldLink RX2 18 "DogKings$Reader" "draft" "LDogKings$Town;") (List.mem_of_getElem? (i := 2) rfl)) rfl dX2_readsLaw_62 ?_
                      refine lv_iload_n hx hb dX2_readsLaw_65 rfl (lv_at hl 1 rfl) ?_
                      refine lv_iload_n hx hb dX2_readsLaw_66 rfl (lv_at hl 0 rfl) ?_
                      refine dk_Vv (As := [.int v4, .int v10]) (rest := []) ⟨hx, hb, hml, hown, hts⟩ (c_X4_begin_0 l g z I13 (14) (by unfold dkT; omega) v4 v10 dv4 dv10 hO) (cwV 2 hts gX2_readsLaw_X4_begin rfl rfl rfl (by decide +kernel) ⟨Nat.le_of_ble_eq_true rfl, Nat.le_of_ble_eq_true rfl⟩) (dk_at14 hW) rfl hK hT hW hS rfl hl.1 rfl (Nat.le_of_ble_eq_true rfl) dX2_readsLaw_67 ⟨Nat.zero_le _, Nat.zero_le _⟩ (fun I16 H16 L16 hp16 hW hS => ?_)
                      obtain ⟨hF16, hO, hc16⟩ := hp16
                      have hF := dkF_call hF hF16 rfl
                      obtain ⟨f16_14_0, f16_14_1, f16_14_11, f16_14_15, f16_14_16, f16_14_17, f16_14_2, f16_14_3, f16_14_4, -⟩ := hc16
                      refine lv_iconst (v := 1) hx hb dX2_readsLaw_70 (by decide) ?_
                      exact W.zret (v := 1) (ty := .boolean) hx hb hr rfl (fun t ht hW9 => ⟨⟨1, I16, rfl, ⟨hF, hO, Or.inr (⟨dkN_sub (dkN_lit (x := 1) (1) rfl) rfl, (show dkN [(1, 90)] (I16 12 1) from dkN_sub (by rw [hF16 12 1 rfl]; exact f13_12_1) rfl), (show dkN [(1, 90)] (I16 12 2) from dkN_sub (by rw [hF16 12 2 rfl]; exact f13_12_2) rfl), (show dkN [(3, 9)] (I16 14 0) from dkN_sub f16_14_0 rfl), (show dkN [(1, 30)] (I16 14 1) from dkN_sub f16_14_1 rfl), (show dkN [(0, 0)] (I16 14 11) from dkN_sub f16_14_11 rfl), (show dkN [(0, 0)] (I16 14 15) from dkN_sub f16_14_15 rfl), (show dkN [(0, 0)] (I16 14 16) from dkN_sub f16_14_16 rfl), (show dkN [(0, 0)] (I16 14 17) from dkN_sub f16_14_17 rfl), (show dkN [(0, 0)] (I16 14 2) from dkN_sub f16_14_2 rfl), (show dkN [(0, 0)] (I16 14 3) from dkN_sub f16_14_3 rfl), (show dkN [(0, 0)] (I16 14 4) from dkN_sub f16_14_4 rfl), trivial⟩)⟩, dkW_eq ht hW⟩, hS.F ht⟩) hS.2.2 dX2_readsLaw_71
                    ·
                      exact (dkN_nil (show dkN [] v13 from dkN_eq1 dv13 (dkN_lit (x := 0) (0) rfl) (congrArg Int32.toInt c15) rfl)).elim
            ·
              exact (dkN_nil (show dkN [] v7 from dkN_eq1 dv7 (dkN_lit (x := 0) (0) rfl) (congrArg Int32.toInt c9) rfl)).elim
    ·
      exact (dkN_nil (show dkN [] v1 from dkN_eq1 dv1 (dkN_lit (x := 0) (0) rfl) (congrArg Int32.toInt c3) rfl)).elim
set_option maxHeartbeats 4000000 in
set_option maxRecDepth 100000 in
theorem c_X2_takes_3 (l : Launch) (g : dkG) (z : Nat) (I0 : dkI) (p0 : Int32) (dp0 : dkN [(109, 109)] p0)  (hO : dkOk I0) : Met l yX2_takes wsX2_takes (dkR 1) (dkPc g z [.ref (z + 12), .int p0] I0) (dkQi g z (fun r I1 => dkF [(12, 12, 2, 2), (12, 12, 4, 5)] I0 I1 ∧ dkOk I1 ∧ ((dkN [(0, 0)] r ∧ dkN [(0, 90)] (I1 12 4) ∧ dkN [(1, 1)] (I1 12 5) ∧ True) ∨ (dkN [(1, 1)] r ∧ dkN [(1, 90)] (I1 12 1) ∧ dkN [(1, 90)] (I1 12 2) ∧ True)))) 0 0 (dkA z) := by
  refine Met.ofW (cc := cX2_takes) (maxL := 2) (ret := (some .boolean)) (by decide) rfl ?_
  intro p e s m args below meth c s₁ B hml hv
  obtain ⟨ha, hW, hK, hT⟩ := hv
  have hx := B.exec
  have hb := B.bytes
  have hr := B.returns
  have hts := atoms_spec (ws := wsX2_takes) B.pre
  have hown : s.vm.findClass RX2 = some m.cls := findClass_of_methodNamed B.named
  have hlocks := B.notSynchronized
  have hS : va_S (dkA z) s.heap s.heap [] := va_S.rf
  have hF : dkF [(12, 12, 2, 2), (12, 12, 4, 5)] I0 I0 := dkF_rf _ _
  have hl := lv_entry ([.ref (z + 12), .int p0]) (n := 2) (Nat.le_of_ble_eq_true rfl)
  have hgo : entryFrame m args 2 = entryFrame m ([.ref (z + 12), .int p0] : List Value).toArray 2 := by rw [ha]
  rw [hgo, lg_entry_eq]
  generalize (lg_sl ([.ref (z + 12), .int p0]) ++ List.replicate (2 - (lg_sl ([.ref (z + 12), .int p0])).length) Slot.unset).toArray = ls at hl ⊢
  have hl : lv_has ls 2 [(0, .ref (z + 12)), (1, .int p0)] := hl
  refine lv_aload_n hx hb dX2_takes_0 rfl (lv_at hl 0 rfl) ?_
  refine dk_Vi (As := []) (rest := []) ⟨hx, hb, hml, hown, hts⟩ (c_X2_coming_0 l g z I0 hO) (cwV 0 hts gX2_takes_X2_coming rfl rfl rfl (by decide +kernel) ⟨Nat.le_of_ble_eq_true rfl, Nat.le_of_ble_eq_true rfl⟩) (dk_at12 hW) rfl hK hT hW hS rfl hl.1 rfl (Nat.le_of_ble_eq_true rfl) dX2_takes_1 ⟨Nat.zero_le _, Nat.zero_le _⟩ (fun v1 I1 H1 L1 hp1 hW hS => ?_)
  obtain ⟨hF1, hO, hc1⟩ := hp1
  have hF := dkF_call hF hF1 rfl
  rcases hc1 with ⟨dv1, -⟩ | hc1
  ·
    refine lv_iload_n hx hb dX2_takes_4 rfl (lv_at hl 1 rfl) ?_
    refine lv_icmp_eq (tgt := 14) hx hb dX2_takes_5 (by decide) (fun c2 => ?_) (fun c2 => ?_)
    ·
      exact (dkN_nil (show dkN [] v1 from dkN_eq1 dv1 dp0 (congrArg Int32.toInt c2) rfl)).elim
    ·
      refine lv_aload_n hx hb dX2_takes_8 rfl (lv_at hl 0 rfl) ?_
      refine lv_iconst (v := 1) hx hb dX2_takes_9 (by decide) ?_
      refine dk_Vi (As := [.int 1]) (rest := []) ⟨hx, hb, hml, hown, hts⟩ (c_X2_meets_0 l g z I1 1 (dkN_lit (x := 1) (1) rfl) hO) (cwV 1 hts gX2_takes_X2_meets rfl rfl rfl (by decide +kernel) ⟨Nat.le_of_ble_eq_true rfl, Nat.le_of_ble_eq_true rfl⟩) (dk_at12 hW) rfl hK hT hW hS rfl hl.1 rfl (Nat.le_of_ble_eq_true rfl) dX2_takes_10 ⟨Nat.zero_le _, Nat.zero_le _⟩ (fun v3 I3 H3 L3 hp3 hW hS => ?_)
      obtain ⟨hF3, hO, hc3⟩ := hp3
      have hF := dkF_call hF hF3 rfl
      obtain ⟨dv3, f3_12_4, f3_12_5, -⟩ := hc3
      exact W.zret (v := v3) (ty := .boolean) hx hb hr (dkN_zr dv3 rfl) (fun t ht hW9 => ⟨⟨v3, I3, rfl, ⟨hF, hO, Or.inl ⟨dkN_sub dv3 rfl, (show dkN [(0, 90)] (I3 12 4) from dkN_sub f3_12_4 rfl), (show dkN [(1, 1)] (I3 12 5) from dkN_sub f3_12_5 rfl), trivial⟩⟩, dkW_eq ht hW⟩, hS.F ht⟩) hS.2.2 dX2_takes_13
  ·
    obtain ⟨dv1, f1_12_1, f1_12_2, -⟩ := hc1
    refine lv_iload_n hx hb dX2_takes_4 rfl (lv_at hl 1 rfl) ?_
    refine lv_icmp_eq (tgt := 14) hx hb dX2_takes_5 (by decide) (fun c4 => ?_) (fun c4 => ?_)
    ·
      have d5 : dkN [(109, 109)] v1 := dkN_eq1 dv1 dp0 (congrArg Int32.toInt c4) rfl
      refine lv_aload_n hx hb dX2_takes_14 rfl (lv_at hl 0 rfl) ?_
      refine lv_dup hx hb dX2_takes_15 rfl ?_
      refine dk_get (k := 12) hx hb hts iX2_takes_2 hown hK (dk_at12 hW) rfl 2 (by decide) (hts (.fieldLink RX2 30 "DogKings$Reader" "at" "I") (List.mem_of_getElem? (i := 1) rfl)) rfl dX2_takes_16 ?_
      refine lv_topi (fun v6 ev6 => ?_)
      have dv6 : dkN [(0, 89)] v6 := by rw [ev6]; exact f1_12_2
      refine lv_iconst (v := 1) hx hb dX2_takes_19 (by decide) ?_
      refine lv_iadd hx hb dX2_takes_20 ?_
      refine lv_topi (fun v7 ev7 => ?_)
      have dv7 : dkN [(1, 90)] v7 := by rw [ev7]; exact dkN_add dv6 (dkN_lit (x := 1) (1) rfl) rfl
      refine dk_put (k := 12) hx hb hts iX2_takes_2 tyX2 tyX2_ok nmX2 hown hK hW (dk_at12 hW) hS rfl 2 (by decide) (hts (.fieldLink RX2 30 "DogKings$Reader" "at" "I") (List.mem_of_getElem? (i := 1) rfl)) rfl rfl (Nat.le_of_ble_eq_true rfl) rfl dX2_takes_21 (fun I8 H8 L8 eI8 hW hS => ?_)
      have eI8 : I8 = dkU I1 12 2 v7 := eI8
      have hO := dkO_set hO eI8 (dkN_sub dv7 rfl)
      have hF := dkF_set hF eI8 rfl
      refine lv_iconst (v := 1) hx hb dX2_takes_24 (by decide) ?_
      exact W.zret (v := 1) (ty := .boolean) hx hb hr rfl (fun t ht hW9 => ⟨⟨1, I8, rfl, ⟨hF, hO, Or.inr (⟨dkN_sub (dkN_lit (x := 1) (1) rfl) rfl, (show dkN [(1, 90)] (I8 12 1) from dkN_sub (by rw [eI8, dkU_sn (by decide)]; exact f1_12_1) rfl), (show dkN [(1, 90)] (I8 12 2) from dkN_sub (by rw [eI8, dkU_ss]; exact dv7) rfl), trivial⟩)⟩, dkW_eq ht hW⟩, hS.F ht⟩) hS.2.2 dX2_takes_25
    ·
      have d9 : dkN [(0, 108), (110, 255)] v1 := dkN_ne1 (109) dv1 dp0 (dk_ne c4) rfl
      refine lv_aload_n hx hb dX2_takes_8 rfl (lv_at hl 0 rfl) ?_
      refine lv_iconst (v := 1) hx hb dX2_takes_9 (by decide) ?_
      refine dk_Vi (As := [.int 1]) (rest := []) ⟨hx, hb, hml, hown, hts⟩ (c_X2_meets_0 l g z I1 1 (dkN_lit (x := 1) (1) rfl) hO) (cwV 1 hts gX2_takes_X2_meets rfl rfl rfl (by decide +kernel) ⟨Nat.le_of_ble_eq_true rfl, Nat.le_of_ble_eq_true rfl⟩) (dk_at12 hW) rfl hK hT hW hS rfl hl.1 rfl (Nat.le_of_ble_eq_true rfl) dX2_takes_10 ⟨Nat.zero_le _, Nat.zero_le _⟩ (fun v10 I10 H10 L10 hp10 hW hS => ?_)
      obtain ⟨hF10, hO, hc10⟩ := hp10
      have hF := dkF_call hF hF10 rfl
      obtain ⟨dv10, f10_12_4, f10_12_5, -⟩ := hc10
      exact W.zret (v := v10) (ty := .boolean) hx hb hr (dkN_zr dv10 rfl) (fun t ht hW9 => ⟨⟨v10, I10, rfl, ⟨hF, hO, Or.inl ⟨dkN_sub dv10 rfl, (show dkN [(0, 90)] (I10 12 4) from dkN_sub f10_12_4 rfl), (show dkN [(1, 1)] (I10 12 5) from dkN_sub f10_12_5 rfl), trivial⟩⟩, dkW_eq ht hW⟩, hS.F ht⟩) hS.2.2 dX2_takes_13
set_option maxHeartbeats 4000000 in
set_option maxRecDepth 100000 in
theorem c_X2_number_2 (l : Launch) (g : dkG) (z : Nat) (I0 : dkI) (p0 : Int32) (p1 : Int32) (dp0 : dkN [(0, 0)] p0) (dp1 : dkN [(-1, 8)] p1)  (hO : dkOk I0) : Met l yX2_number wsX2_number (dkR 1) (dkPc g z [.ref (z + 12), .int p0, .int p1] I0) (dkQi g z (fun r I1 => dkF [(12, 12, 2, 2), (12, 12, 4, 5)] I0 I1 ∧ dkOk I1 ∧ ((dkN [(-1000000, -1000000)] r ∧ dkN [(0, 90)] (I1 12 4) ∧ dkN [(1, 2)] (I1 12 5) ∧ True) ∨ (dkN [(0, 8)] r ∧ dkN [(0, 8)] p1 ∧ True)))) 0 0 (dkA z) := by
  refine Met.ofW (cc := cX2_number) (maxL := 5) (ret := (some .int)) (by decide) rfl ?_
  intro p e s m args below meth c s₁ B hml hv
  obtain ⟨ha, hW, hK, hT⟩ := hv
  have hx := B.exec
  have hb := B.bytes
  have hr := B.returns
  have hts := atoms_spec (ws := wsX2_number) B.pre
  have hown : s.vm.findClass RX2 = some m.cls := findClass_of_methodNamed B.named
  have hlocks := B.notSynchronized
  have hS : va_S (dkA z) s.heap s.heap [] := va_S.rf
  have hF : dkF [(12, 12, 2, 2), (12, 12, 4, 5)] I0 I0 := dkF_rf _ _
  have hl := lv_entry ([.ref (z + 12), .int p0, .int p1]) (n := 5) (Nat.le_of_ble_eq_true rfl)
  have hgo : entryFrame m args 5 = entryFrame m ([.ref (z + 12), .int p0, .int p1] : List Value).toArray 5 := by rw [ha]
  rw [hgo, lg_entry_eq]
  generalize (lg_sl ([.ref (z + 12), .int p0, .int p1]) ++ List.replicate (5 - (lg_sl ([.ref (z + 12), .int p0, .int p1])).length) Slot.unset).toArray = ls at hl ⊢
  have hl : lv_has ls 5 [(0, .ref (z + 12)), (1, .int p0), (2, .int p1)] := hl
  have C83 : ∀ (I : dkI) (H : Heap) (locs : List Loc) (ls : Array Slot) (x83_3 : Int32) (x83_4 : Int32), dkW g z I H → va_S (dkA z) s.heap H locs → dkF [(12, 12, 2, 2), (12, 12, 4, 5)] I0 I → dkOk I → dkN [(0, 90)] x83_4 → lv_has ls 5 [(0, .ref (z + 12)), (1, .int p0), (2, .int p1), (3, .int x83_3), (4, .int x83_4)] → W p l e (headSpec wsX2_number (dkR 1)).room s m args below meth c H locs 0 0 (MQ below (dkQi g z (fun r I1 => dkF [(12, 12, 2, 2), (12, 12, 4, 5)] I0 I1 ∧ dkOk I1 ∧ ((dkN [(-1000000, -1000000)] r ∧ dkN [(0, 90)] (I1 12 4) ∧ dkN [(1, 2)] (I1 12 5) ∧ True) ∨ (dkN [(0, 8)] r ∧ dkN [(0, 8)] p1 ∧ True)))) args s 0 0 (dkA z)) (F0 m 83 ls []) := by
    intro I83_ H locs ls x83_3 x83_4 hW hS hF_83 hO k83_1 hl
    have hF := hF_83
    refine lv_aload_n hx hb dX2_number_83 rfl (lv_at hl 0 rfl) ?_
    refine lv_iconst (v := 1) hx hb dX2_number_84 (by decide) ?_
    refine dk_Vi (As := [.int 1]) (rest := []) ⟨hx, hb, hml, hown, hts⟩ (c_X2_meets_0 l g z I83_ 1 (dkN_lit (x := 1) (1) rfl) hO) (cwV 1 hts gX2_number_X2_meets rfl rfl rfl (by decide +kernel) ⟨Nat.le_of_ble_eq_true rfl, Nat.le_of_ble_eq_true rfl⟩) (dk_at12 hW) rfl hK hT hW hS rfl hl.1 rfl (Nat.le_of_ble_eq_true rfl) dX2_number_85 ⟨Nat.zero_le _, Nat.zero_le _⟩ (fun v1 I1 H1 L1 hp1 hW hS => ?_)
    obtain ⟨hF1, hO, hc1⟩ := hp1
    have hF := dkF_call hF hF1 rfl
    obtain ⟨dv1, f1_12_4, f1_12_5, -⟩ := hc1
    refine lv_pop hx hb dX2_number_88 rfl ?_
    refine lv_ldc (v := (-1000000)) hx hb hown (hts (.constant RX2 50 (-1000000)) (List.mem_of_getElem? (i := 4) rfl)) dX2_number_89 ?_
    exact W.iret (v := (-1000000)) hx hb hr (fun t ht hW9 => ⟨⟨(-1000000), I1, rfl, ⟨hF, hO, Or.inl ⟨dkN_sub (dkN_lit (x := (-1000000)) (-1000000) rfl) rfl, (show dkN [(0, 90)] (I1 12 4) from dkN_sub f1_12_4 rfl), (show dkN [(1, 2)] (I1 12 5) from dkN_sub f1_12_5 rfl), trivial⟩⟩, dkW_eq ht hW⟩, hS.F ht⟩) hS.2.2 dX2_number_91
  have C102 : ∀ (I : dkI) (H : Heap) (locs : List Loc) (ls : Array Slot) (x102_3 : Int32) (x102_4 : Int32), dkW g z I H → va_S (dkA z) s.heap H locs → dkF [(12, 12, 2, 2), (12, 12, 4, 5)] I0 I → dkOk I → dkN [(0, 90)] x102_4 → lv_has ls 5 [(0, .ref (z + 12)), (1, .int p0), (2, .int p1), (3, .int x102_3), (4, .int x102_4)] → W p l e (headSpec wsX2_number (dkR 1)).room s m args below meth c H locs 0 0 (MQ below (dkQi g z (fun r I1 => dkF [(12, 12, 2, 2), (12, 12, 4, 5)] I0 I1 ∧ dkOk I1 ∧ ((dkN [(-1000000, -1000000)] r ∧ dkN [(0, 90)] (I1 12 4) ∧ dkN [(1, 2)] (I1 12 5) ∧ True) ∨ (dkN [(0, 8)] r ∧ dkN [(0, 8)] p1 ∧ True)))) args s 0 0 (dkA z)) (F0 m 102 ls []) := by
    intro I102_ H locs ls x102_3 x102_4 hW hS hF_102 hO k102_1 hl
    have hF := hF_102
    refine lv_aload_n hx hb dX2_number_102 rfl (lv_at hl 0 rfl) ?_
    refine lv_iconst (v := 2) hx hb dX2_number_103 (by decide) ?_
    refine dk_Vi (As := [.int 2]) (rest := []) ⟨hx, hb, hml, hown, hts⟩ (c_X2_meets_1 l g z I102_ 2 (dkN_lit (x := 2) (2) rfl) hO) (cwV 1 hts gX2_number_X2_meets rfl rfl rfl (by decide +kernel) ⟨Nat.le_of_ble_eq_true rfl, Nat.le_of_ble_eq_true rfl⟩) (dk_at12 hW) rfl hK hT hW hS rfl hl.1 rfl (Nat.le_of_ble_eq_true rfl) dX2_number_104 ⟨Nat.zero_le _, Nat.zero_le _⟩ (fun v2 I2 H2 L2 hp2 hW hS => ?_)
    obtain ⟨hF2, hO, hc2⟩ := hp2
    have hF := dkF_call hF hF2 rfl
    obtain ⟨dv2, f2_12_4, f2_12_5, -⟩ := hc2
    refine lv_pop hx hb dX2_number_107 rfl ?_
    refine lv_ldc (v := (-1000000)) hx hb hown (hts (.constant RX2 50 (-1000000)) (List.mem_of_getElem? (i := 4) rfl)) dX2_number_108 ?_
    exact W.iret (v := (-1000000)) hx hb hr (fun t ht hW9 => ⟨⟨(-1000000), I2, rfl, ⟨hF, hO, Or.inl ⟨dkN_sub (dkN_lit (x := (-1000000)) (-1000000) rfl) rfl, (show dkN [(0, 90)] (I2 12 4) from dkN_sub f2_12_4 rfl), (show dkN [(1, 2)] (I2 12 5) from dkN_sub f2_12_5 rfl), trivial⟩⟩, dkW_eq ht hW⟩, hS.F ht⟩) hS.2.2 dX2_number_110
  have C63 : ∀ (I : dkI) (H : Heap) (locs : List Loc) (ls : Array Slot) (x63_3 : Int32) (x63_4 : Int32), dkW g z I H → va_S (dkA z) s.heap H locs → dkF [(12, 12, 2, 2), (12, 12, 4, 5)] I0 I → dkOk I → dkN [(0, 90)] x63_4 → lv_has ls 5 [(0, .ref (z + 12)), (1, .int p0), (2, .int p1), (3, .int x63_3), (4, .int x63_4)] → W p l e (headSpec wsX2_number (dkR 1)).room s m args below meth c H locs 0 0 (MQ below (dkQi g z (fun r I1 => dkF [(12, 12, 2, 2), (12, 12, 4, 5)] I0 I1 ∧ dkOk I1 ∧ ((dkN [(-1000000, -1000000)] r ∧ dkN [(0, 90)] (I1 12 4) ∧ dkN [(1, 2)] (I1 12 5) ∧ True) ∨ (dkN [(0, 8)] r ∧ dkN [(0, 8)] p1 ∧ True)))) args s 0 0 (dkA z)) (F0 m 63 ls []) := by
    intro I63_ H locs ls x63_3 x63_4 hW hS hF_63 hO k63_1 hl
    have hF := hF_63
    refine lv_iload hx hb dX2_number_63 (lv_at hl 4 rfl) ?_
    refine lv_aload_n hx hb dX2_number_65 rfl (lv_at hl 0 rfl) ?_
    refine dk_get (k := 12) hx hb hts iX2_number_2 hown hK (dk_at12 hW) rfl 2 (by decide) (hts (.fieldLink RX2 30 "DogKings$Reader" "at" "I") (List.mem_of_getElem? (i := 1) rfl)) rfl dX2_number_66 ?_
    refine lv_topi (fun v3 ev3 => ?_)
    have dv3 : dkN [(0, 90)] v3 := by rw [ev3]; exact (hO 12 2)
    refine lv_icmp_eq (tgt := 83) hx hb dX2_number_69 (by decide) (fun c4 => ?_) (fun c4 => ?_)
    ·
      exact C83 I63_ _ _ ls x63_3 x63_4 hW hS hF hO (dkN_sub k63_1 rfl) (lv_sub hl [0, 1, 2, 3, 4] rfl)
    ·
      refine lv_iload hx hb dX2_number_72 (lv_at hl 4 rfl) ?_
      refine lv_aload_n hx hb dX2_number_74 rfl (lv_at hl 0 rfl) ?_
      refine dk_get (k := 12) hx hb hts iX2_number_2 hown hK (dk_at12 hW) rfl 2 (by decide) (hts (.fieldLink RX2 30 "DogKings$Reader" "at" "I") (List.mem_of_getElem? (i := 1) rfl)) rfl dX2_number_75 ?_
      refine lv_topi (fun v5 ev5 => ?_)
      have dv5 : dkN [(0, 90)] v5 := by rw [ev5]; exact (hO 12 2)
      refine lv_isub hx hb dX2_number_78 ?_
      refine lv_topi (fun v6 ev6 => ?_)
      have dv6 : dkN [(-90, 90)] v6 := by rw [ev6]; exact dkN_subt k63_1 dv5 rfl
      refine lv_iconst (v := 2) hx hb dX2_number_79 (by decide) ?_
      refine lv_icmp_le (tgt := 92) hx hb dX2_number_80 (by decide) (fun c7 => ?_) (fun c7 => ?_)
      ·
        have d8 : dkN [(-90, 2)] v6 := dkN_le1 0 dv6 (dkN_lit (x := 2) (2) rfl) (dkc_le c7) rfl
        refine lv_iload_n hx hb dX2_number_92 rfl (lv_at hl 3 rfl) ?_
        refine lv_iload_n hx hb dX2_number_93 rfl (lv_at hl 1 rfl) ?_
        refine lv_icmp_lt (tgt := 102) hx hb dX2_number_94 (by decide) (fun c9 => ?_) (fun c9 => ?_)
        ·
          have d10 : dkN [(-2147483648, -1)] x63_3 := dkN_le1 1 (dkN_top x63_3) dp0 (dkc_lt c9) rfl
          exact C102 I63_ _ _ ls x63_3 x63_4 hW hS hF hO (dkN_sub k63_1 rfl) (lv_sub hl [0, 1, 2, 3, 4] rfl)
        ·
          have d11 : dkN [(0, 2147483647)] x63_3 := dkN_le2 0 dp0 (dkN_top x63_3) (dkc_nlt c9) rfl
          refine lv_iload_n hx hb dX2_number_97 rfl (lv_at hl 3 rfl) ?_
          refine lv_iload_n hx hb dX2_number_98 rfl (lv_at hl 2 rfl) ?_
          refine lv_icmp_le (tgt := 111) hx hb dX2_number_99 (by decide) (fun c12 => ?_) (fun c12 => ?_)
          ·
            have d13 : dkN [(0, 8)] x63_3 := dkN_le1 0 d11 dp1 (dkc_le c12) rfl
            have d14 : dkN [(0, 8)] p1 := dkN_le2 0 d11 dp1 (dkc_le c12) rfl
            refine lv_aload_n hx hb dX2_number_111 rfl (lv_at hl 0 rfl) ?_
            refine lv_iload hx hb dX2_number_112 (lv_at hl 4 rfl) ?_
            refine dk_put (k := 12) hx hb hts iX2_number_2 tyX2 tyX2_ok nmX2 hown hK hW (dk_at12 hW) hS rfl 2 (by decide) (hts (.fieldLink RX2 30 "DogKings$Reader" "at" "I") (List.mem_of_getElem? (i := 1) rfl)) rfl rfl (Nat.le_of_ble_eq_true rfl) rfl dX2_number_114 (fun I15 H15 L15 eI15 hW hS => ?_)
            have eI15 : I15 = dkU I63_ 12 2 x63_4 := eI15
            have hO := dkO_set hO eI15 (dkN_sub k63_1 rfl)
            have hF := dkF_set hF eI15 rfl
            refine lv_iload_n hx hb dX2_number_117 rfl (lv_at hl 3 rfl) ?_
            exact W.iret (v := x63_3) hx hb hr (fun t ht hW9 => ⟨⟨x63_3, I15, rfl, ⟨hF, hO, Or.inr (⟨dkN_sub d13 rfl, dkN_sub d14 rfl, trivial⟩)⟩, dkW_eq ht hW⟩, hS.F ht⟩) hS.2.2 dX2_number_118
          ·
            exact C102 I63_ _ _ ls x63_3 x63_4 hW hS hF hO (dkN_sub k63_1 rfl) (lv_sub hl [0, 1, 2, 3, 4] rfl)
      ·
        have d16 : dkN [(3, 90)] v6 := dkN_le2 1 (dkN_lit (x := 2) (2) rfl) dv6 (dkc_nle c7) rfl
        exact C83 I63_ _ _ ls x63_3 x63_4 hW hS hF hO (dkN_sub k63_1 rfl) (lv_sub hl [0, 1, 2, 3, 4] rfl)
  have C8 : ∀ (n : Nat), ∀ (I : dkI) (H : Heap) (locs : List Loc) (ls : Array Slot) (x8_3 : Int32) (x8_4 : Int32), (90 - x8_4.toInt).toNat < n → dkW g z I H → va_S (dkA z) s.heap H locs → dkF [(12, 12, 2, 2), (12, 12, 4, 5)] I0 I → dkOk I → dkN [(0, 90)] x8_4 → lv_has ls 5 [(0, .ref (z + 12)), (1, .int p0), (2, .int p1), (3, .int x8_3), (4, .int x8_4)] → W p l e (headSpec wsX2_number (dkR 1)).room s m args below meth c H locs 0 0 (MQ below (dkQi g z (fun r I1 => dkF [(12, 12, 2, 2), (12, 12, 4, 5)] I0 I1 ∧ dkOk I1 ∧ ((dkN [(-1000000, -1000000)] r ∧ dkN [(0, 90)] (I1 12 4) ∧ dkN [(1, 2)] (I1 12 5) ∧ True) ∨ (dkN [(0, 8)] r ∧ dkN [(0, 8)] p1 ∧ True)))) args s 0 0 (dkA z)) (F0 m 8 ls []) := by
    intro n
    induction n with
    | zero => intro I H locs ls x8_3 x8_4 hn; exact absurd hn (Nat.not_lt_zero _)
    | succ n ih8 =>
      intro I8_ H locs ls x8_3 x8_4 hn8 hW hS hF_8 hO k8_1 hl
      have hF := hF_8
      refine lv_iload hx hb dX2_number_8 (lv_at hl 4 rfl) ?_
      refine lv_aload_n hx hb dX2_number_10 rfl (lv_at hl 0 rfl) ?_
      refine dk_get (k := 12) hx hb hts iX2_number_2 hown hK (dk_at12 hW) rfl 1 (by decide) (hts (.fieldLink RX2 22 "DogKings$Reader" "bytes" "I") (List.mem_of_getElem? (i := 2) rfl)) rfl dX2_number_11 ?_
      refine lv_topi (fun v17 ev17 => ?_)
      have dv17 : dkN [(0, 90)] v17 := by rw [ev17]; exact (hO 12 1)
      refine lv_icmp_ge (tgt := 63) hx hb dX2_number_14 (by decide) (fun c18 => ?_) (fun c18 => ?_)
      ·
        exact C63 I8_ _ _ ls x8_3 x8_4 hW hS hF hO (dkN_sub k8_1 rfl) (lv_sub hl [0, 1, 2, 3, 4] rfl)
      ·
        have d19 : dkN [(1, 90)] v17 := dkN_le2 1 k8_1 dv17 (dkc_nle c18) rfl
        have f20 : dkN [(1, 90)] (I8_ 12 1) := by rw [← ev17]; exact d19
        have d21 : dkN [(0, 89)] x8_4 := dkN_le1 1 k8_1 dv17 (dkc_nle c18) rfl
        refine lv_aload_n hx hb dX2_number_17 rfl (lv_at hl 0 rfl) ?_
        refine dk_get (k := 12) hx hb hts iX2_number_2 hown hK (dk_at12 hW) rfl 0 (by decide) (hts (.fieldLink RX2 11 "DogKings$Reader" "tape" "[I") (List.mem_of_getElem? (i := 3) rfl)) rfl dX2_number_18 ?_
        refine lv_iload hx hb dX2_number_21 (lv_at hl 4 rfl) ?_
        refine dk_ild (k := 13) hx hb hK (dk_at13 hW) (dkN_in (n := 90) d21 rfl) dX2_number_23 ?_
        refine lv_topi (fun v22 ev22 => ?_)
        have dv22 : dkN [(0, 255)] v22 := by rw [ev22]; exact (hO 13 _)
        refine dk_Si (As := [.int v22]) (rest := []) ⟨hx, hb, hml, hown, hts⟩ (c_X2_isFigure_0 l g z I8_ v22 dv22 hO) (va_cwS 1 hts gX2_number_X2_isFigure rfl rfl rfl (by decide +kernel) ⟨Nat.le_of_ble_eq_true rfl, Nat.le_of_ble_eq_true rfl⟩) hK hT hW hS rfl hl.1 rfl (Nat.le_of_ble_eq_true rfl) dX2_number_24 ⟨Nat.zero_le _, Nat.zero_le _⟩ (fun v23 I23 H23 L23 hp23 hW hS => ?_)
        obtain ⟨hF23, hO, hc23⟩ := hp23
        have hF := dkF_call hF hF23 rfl
        rcases hc23 with ⟨dv23, a23_0, -⟩ | hc23
        ·
          have d24 : dkN [(0, 47), (58, 255)] v22 := dkN_eq1 dv22 a23_0 rfl rfl
          refine lv_if_eq (tgt := 63) hx hb dX2_number_27 (by decide) (fun c25 => ?_) (fun c25 => ?_)
          ·
            exact C63 I23 _ _ ls x8_3 x8_4 hW hS hF hO (dkN_sub d21 rfl) (lv_sub hl [0, 1, 2, 3, 4] rfl)
          ·
            exact (dkN_nil (show dkN [] v23 from dkN_ne1 (0) dv23 (dkN_lit (x := 0) (0) rfl) (dk_ne c25) rfl)).elim
        ·
          obtain ⟨dv23, a23_0, -⟩ := hc23
          have d26 : dkN [(48, 57)] v22 := dkN_eq1 dv22 a23_0 rfl rfl
          refine lv_if_eq (tgt := 63) hx hb dX2_number_27 (by decide) (fun c27 => ?_) (fun c27 => ?_)
          ·
            exact (dkN_nil (show dkN [] v23 from dkN_eq1 dv23 (dkN_lit (x := 0) (0) rfl) (congrArg Int32.toInt c27) rfl)).elim
          ·
            refine lv_iload hx hb dX2_number_30 (lv_at hl 4 rfl) ?_
            refine lv_aload_n hx hb dX2_number_32 rfl (lv_at hl 0 rfl) ?_
            refine dk_get (k := 12) hx hb hts iX2_number_2 hown hK (dk_at12 hW) rfl 2 (by decide) (hts (.fieldLink RX2 30 "DogKings$Reader" "at" "I") (List.mem_of_getElem? (i := 1) rfl)) rfl dX2_number_33 ?_
            refine lv_topi (fun v28 ev28 => ?_)
            have dv28 : dkN [(0, 90)] v28 := by rw [ev28]; exact (hO 12 2)
            refine lv_isub hx hb dX2_number_36 ?_
            refine lv_topi (fun v29 ev29 => ?_)
            have dv29 : dkN [(-90, 89)] v29 := by rw [ev29]; exact dkN_subt d21 dv28 rfl
            refine lv_iconst (v := 3) hx hb dX2_number_37 (by decide) ?_
            refine lv_icmp_ge (tgt := 63) hx hb dX2_number_38 (by decide) (fun c30 => ?_) (fun c30 => ?_)
            ·
              have d31 : dkN [(3, 89)] v29 := dkN_le2 0 (dkN_lit (x := 3) (3) rfl) dv29 (dkc_le c30) rfl
              exact C63 I23 _ _ ls x8_3 x8_4 hW hS hF hO (dkN_sub d21 rfl) (lv_sub hl [0, 1, 2, 3, 4] rfl)
            ·
              have d32 : dkN [(-90, 2)] v29 := dkN_le1 1 dv29 (dkN_lit (x := 3) (3) rfl) (dkc_nle c30) rfl
              refine lv_bipush (v := 10) hx hb dX2_number_41 (by decide) ?_
              refine lv_iload_n hx hb dX2_number_43 rfl (lv_at hl 3 rfl) ?_
              refine lv_imul hx hb dX2_number_44 ?_
              refine lv_topi (fun v33 ev33 => ?_)
              refine lv_aload_n hx hb dX2_number_45 rfl (lv_at hl 0 rfl) ?_
              refine dk_get (k := 12) hx hb hts iX2_number_2 hown hK (dk_at12 hW) rfl 0 (by decide) (hts (.fieldLink RX2 11 "DogKings$Reader" "tape" "[I") (List.mem_of_getElem? (i := 3) rfl)) rfl dX2_number_46 ?_
              refine lv_iload hx hb dX2_number_49 (lv_at hl 4 rfl) ?_
              refine dk_ild (k := 13) hx hb hK (dk_at13 hW) (dkN_in (n := 90) d21 rfl) dX2_number_51 ?_
              refine lv_topi (fun v34 ev34 => ?_)
              have dv34 : dkN [(0, 255)] v34 := by rw [ev34]; exact (hO 13 _)
              refine lv_iadd hx hb dX2_number_52 ?_
              refine lv_topi (fun v35 ev35 => ?_)
              refine lv_bipush (v := 48) hx hb dX2_number_53 (by decide) ?_
              refine lv_isub hx hb dX2_number_55 ?_
              refine lv_topi (fun v36 ev36 => ?_)
              refine lv_istore_n (lv' := [(3, .int v36), (0, .ref (z + 12)), (1, .int p0), (2, .int p1), (4, .int x8_4)]) hx hb dX2_number_56 rfl hl (by decide) rfl (fun ls hl => ?_)
              obtain ⟨v37, ev37⟩ : ∃ y : Int32, y = x8_4 + 1 := ⟨_, rfl⟩
              have dv37 : dkN [(1, 90)] v37 := by rw [ev37]; exact dkN_add d21 (dkN_lit (x := 1) (1) rfl) rfl
              refine lv_iinc (v := v37) (lv' := [(4, .int v37), (3, .int v36), (0, .ref (z + 12)), (1, .int p0), (2, .int p1)]) hx hb dX2_number_57 hl (k := 4) rfl (by rw [ev37]; rfl) (by decide) rfl (fun ls hl => ?_)
              refine lv_goto (tgt := 8) hx hb dX2_number_60 (by decide) ?_
              exact ih8 I23 _ _ ls v36 v37 (dk_near hn8 (by rw [ev37]; exact dk_inc d21 rfl) (dkN_lt d21 rfl)) hW hS hF hO (dkN_sub dv37 rfl) (lv_sub hl [2, 3, 4, 1, 0] rfl)
  refine lv_iconst (v := 0) hx hb dX2_number_0 (by decide) ?_
  refine lv_istore_n (lv' := [(3, .int 0), (0, .ref (z + 12)), (1, .int p0), (2, .int p1)]) hx hb dX2_number_1 rfl hl (by decide) rfl (fun ls hl => ?_)
  refine lv_aload_n hx hb dX2_number_2 rfl (lv_at hl 1 rfl) ?_
  refine dk_get (k := 12) hx hb hts iX2_number_2 hown hK (dk_at12 hW) rfl 2 (by decide) (hts (.fieldLink RX2 30 "DogKings$Reader" "at" "I") (List.mem_of_getElem? (i := 1) rfl)) rfl dX2_number_3 ?_
  refine lv_topi (fun v38 ev38 => ?_)
  have dv38 : dkN [(0, 90)] v38 := by rw [ev38]; exact (hO 12 2)
  refine lv_istore (lv' := [(4, .int v38), (3, .int 0), (0, .ref (z + 12)), (1, .int p0), (2, .int p1)]) hx hb dX2_number_6 hl (by decide) rfl (fun ls hl => ?_)
  exact C8 _ I0 _ _ ls 0 v38 (Nat.lt_succ_self _) hW hS hF hO (dkN_sub dv38 rfl) (lv_sub hl [2, 3, 4, 1, 0] rfl)
set_option maxHeartbeats 4000000 in
set_option maxRecDepth 100000 in
theorem c_X2_number_3 (l : Launch) (g : dkG) (z : Nat) (I0 : dkI) (p0 : Int32) (p1 : Int32) (dp0 : dkN [(0, 0)] p0) (dp1 : dkN [(9, 9)] p1)  (hO : dkOk I0) : Met l yX2_number wsX2_number (dkR 1) (dkPc g z [.ref (z + 12), .int p0, .int p1] I0) (dkQi g z (fun r I1 => dkF [(12, 12, 2, 2), (12, 12, 4, 5)] I0 I1 ∧ dkOk I1 ∧ ((dkN [(-1000000, -1000000)] r ∧ dkN [(0, 90)] (I1 12 4) ∧ dkN [(1, 2)] (I1 12 5) ∧ True) ∨ (dkN [(0, 9)] r ∧ True)))) 0 0 (dkA z) := by
  refine Met.ofW (cc := cX2_number) (maxL := 5) (ret := (some .int)) (by decide) rfl ?_
  intro p e s m args below meth c s₁ B hml hv
  obtain ⟨ha, hW, hK, hT⟩ := hv
  have hx := B.exec
  have hb := B.bytes
  have hr := B.returns
  have hts := atoms_spec (ws := wsX2_number) B.pre
  have hown : s.vm.findClass RX2 = some m.cls := findClass_of_methodNamed B.named
  have hlocks := B.notSynchronized
  have hS : va_S (dkA z) s.heap s.heap [] := va_S.rf
  have hF : dkF [(12, 12, 2, 2), (12, 12, 4, 5)] I0 I0 := dkF_rf _ _
  have hl := lv_entry ([.ref (z + 12), .int p0, .int p1]) (n := 5) (Nat.le_of_ble_eq_true rfl)
  have hgo : entryFrame m args 5 = entryFrame m ([.ref (z + 12), .int p0, .int p1] : List Value).toArray 5 := by rw [ha]
  rw [hgo, lg_entry_eq]
  generalize (lg_sl ([.ref (z + 12), .int p0, .int p1]) ++ List.replicate (5 - (lg_sl ([.ref (z + 12), .int p0, .int p1])).length) Slot.unset).toArray = ls at hl ⊢
  have hl : lv_has ls 5 [(0, .ref (z + 12)), (1, .int p0), (2, .int p1)] := hl
  have C83 : ∀ (I : dkI) (H : Heap) (locs : List Loc) (ls : Array Slot) (x83_3 : Int32) (x83_4 : Int32), dkW g z I H → va_S (dkA z) s.heap H locs → dkF [(12, 12, 2, 2), (12, 12, 4, 5)] I0 I → dkOk I → dkN [(0, 90)] x83_4 → lv_has ls 5 [(0, .ref (z + 12)), (1, .int p0), (2, .int p1), (3, .int x83_3), (4, .int x83_4)] → W p l e (headSpec wsX2_number (dkR 1)).room s m args below meth c H locs 0 0 (MQ below (dkQi g z (fun r I1 => dkF [(12, 12, 2, 2), (12, 12, 4, 5)] I0 I1 ∧ dkOk I1 ∧ ((dkN [(-1000000, -1000000)] r ∧ dkN [(0, 90)] (I1 12 4) ∧ dkN [(1, 2)] (I1 12 5) ∧ True) ∨ (dkN [(0, 9)] r ∧ True)))) args s 0 0 (dkA z)) (F0 m 83 ls []) := by
    intro I83_ H locs ls x83_3 x83_4 hW hS hF_83 hO k83_1 hl
    have hF := hF_83
    refine lv_aload_n hx hb dX2_number_83 rfl (lv_at hl 0 rfl) ?_
    refine lv_iconst (v := 1) hx hb dX2_number_84 (by decide) ?_
    refine dk_Vi (As := [.int 1]) (rest := []) ⟨hx, hb, hml, hown, hts⟩ (c_X2_meets_0 l g z I83_ 1 (dkN_lit (x := 1) (1) rfl) hO) (cwV 1 hts gX2_number_X2_meets rfl rfl rfl (by decide +kernel) ⟨Nat.le_of_ble_eq_true rfl, Nat.le_of_ble_eq_true rfl⟩) (dk_at12 hW) rfl hK hT hW hS rfl hl.1 rfl (Nat.le_of_ble_eq_true rfl) dX2_number_85 ⟨Nat.zero_le _, Nat.zero_le _⟩ (fun v1 I1 H1 L1 hp1 hW hS => ?_)
    obtain ⟨hF1, hO, hc1⟩ := hp1
    have hF := dkF_call hF hF1 rfl
    obtain ⟨dv1, f1_12_4, f1_12_5, -⟩ := hc1
    refine lv_pop hx hb dX2_number_88 rfl ?_
    refine lv_ldc (v := (-1000000)) hx hb hown (hts (.constant RX2 50 (-1000000)) (List.mem_of_getElem? (i := 4) rfl)) dX2_number_89 ?_
    exact W.iret (v := (-1000000)) hx hb hr (fun t ht hW9 => ⟨⟨(-1000000), I1, rfl, ⟨hF, hO, Or.inl ⟨dkN_sub (dkN_lit (x := (-1000000)) (-1000000) rfl) rfl, (show dkN [(0, 90)] (I1 12 4) from dkN_sub f1_12_4 rfl), (show dkN [(1, 2)] (I1 12 5) from dkN_sub f1_12_5 rfl), trivial⟩⟩, dkW_eq ht hW⟩, hS.F ht⟩) hS.2.2 dX2_number_91
  have C102 : ∀ (I : dkI) (H : Heap) (locs : List Loc) (ls : Array Slot) (x102_3 : Int32) (x102_4 : Int32), dkW g z I H → va_S (dkA z) s.heap H locs → dkF [(12, 12, 2, 2), (12, 12, 4, 5)] I0 I → dkOk I → dkN [(-2147483648, -1), (10, 2147483647)] x102_3 → dkN [(0, 90)] x102_4 → lv_has ls 5 [(0, .ref (z + 12)), (1, .int p0), (2, .int p1), (3, .int x102_3), (4, .int x102_4)] → W p l e (headSpec wsX2_number (dkR 1)).room s m args below meth c H locs 0 0 (MQ below (dkQi g z (fun r I1 => dkF [(12, 12, 2, 2), (12, 12, 4, 5)] I0 I1 ∧ dkOk I1 ∧ ((dkN [(-1000000, -1000000)] r ∧ dkN [(0, 90)] (I1 12 4) ∧ dkN [(1, 2)] (I1 12 5) ∧ True) ∨ (dkN [(0, 9)] r ∧ True)))) args s 0 0 (dkA z)) (F0 m 102 ls []) := by
    intro I102_ H locs ls x102_3 x102_4 hW hS hF_102 hO k102_0 k102_1 hl
    have hF := hF_102
    refine lv_aload_n hx hb dX2_number_102 rfl (lv_at hl 0 rfl) ?_
    refine lv_iconst (v := 2) hx hb dX2_number_103 (by decide) ?_
    refine dk_Vi (As := [.int 2]) (rest := []) ⟨hx, hb, hml, hown, hts⟩ (c_X2_meets_1 l g z I102_ 2 (dkN_lit (x := 2) (2) rfl) hO) (cwV 1 hts gX2_number_X2_meets rfl rfl rfl (by decide +kernel) ⟨Nat.le_of_ble_eq_true rfl, Nat.le_of_ble_eq_true rfl⟩) (dk_at12 hW) rfl hK hT hW hS rfl hl.1 rfl (Nat.le_of_ble_eq_true rfl) dX2_number_104 ⟨Nat.zero_le _, Nat.zero_le _⟩ (fun v2 I2 H2 L2 hp2 hW hS => ?_)
    obtain ⟨hF2, hO, hc2⟩ := hp2
    have hF := dkF_call hF hF2 rfl
    obtain ⟨dv2, f2_12_4, f2_12_5, -⟩ := hc2
    refine lv_pop hx hb dX2_number_107 rfl ?_
    refine lv_ldc (v := (-1000000)) hx hb hown (hts (.constant RX2 50 (-1000000)) (List.mem_of_getElem? (i := 4) rfl)) dX2_number_108 ?_
    exact W.iret (v := (-1000000)) hx hb hr (fun t ht hW9 => ⟨⟨(-1000000), I2, rfl, ⟨hF, hO, Or.inl ⟨dkN_sub (dkN_lit (x := (-1000000)) (-1000000) rfl) rfl, (show dkN [(0, 90)] (I2 12 4) from dkN_sub f2_12_4 rfl), (show dkN [(1, 2)] (I2 12 5) from dkN_sub f2_12_5 rfl), trivial⟩⟩, dkW_eq ht hW⟩, hS.F ht⟩) hS.2.2 dX2_number_110
  have C63 : ∀ (I : dkI) (H : Heap) (locs : List Loc) (ls : Array Slot) (x63_3 : Int32) (x63_4 : Int32), dkW g z I H → va_S (dkA z) s.heap H locs → dkF [(12, 12, 2, 2), (12, 12, 4, 5)] I0 I → dkOk I → dkN [(0, 90)] x63_4 → lv_has ls 5 [(0, .ref (z + 12)), (1, .int p0), (2, .int p1), (3, .int x63_3), (4, .int x63_4)] → W p l e (headSpec wsX2_number (dkR 1)).room s m args below meth c H locs 0 0 (MQ below (dkQi g z (fun r I1 => dkF [(12, 12, 2, 2), (12, 12, 4, 5)] I0 I1 ∧ dkOk I1 ∧ ((dkN [(-1000000, -1000000)] r ∧ dkN [(0, 90)] (I1 12 4) ∧ dkN [(1, 2)] (I1 12 5) ∧ True) ∨ (dkN [(0, 9)] r ∧ True)))) args s 0 0 (dkA z)) (F0 m 63 ls []) := by
    intro I63_ H locs ls x63_3 x63_4 hW hS hF_63 hO k63_1 hl
    have hF := hF_63
    refine lv_iload hx hb dX2_number_63 (lv_at hl 4 rfl) ?_
    refine lv_aload_n hx hb dX2_number_65 rfl (lv_at hl 0 rfl) ?_
    refine dk_get (k := 12) hx hb hts iX2_number_2 hown hK (dk_at12 hW) rfl 2 (by decide) (hts (.fieldLink RX2 30 "DogKings$Reader" "at" "I") (List.mem_of_getElem? (i := 1) rfl)) rfl dX2_number_66 ?_
    refine lv_topi (fun v3 ev3 => ?_)
    have dv3 : dkN [(0, 90)] v3 := by rw [ev3]; exact (hO 12 2)
    refine lv_icmp_eq (tgt := 83) hx hb dX2_number_69 (by decide) (fun c4 => ?_) (fun c4 => ?_)
    ·
      exact C83 I63_ _ _ ls x63_3 x63_4 hW hS hF hO (dkN_sub k63_1 rfl) (lv_sub hl [0, 1, 2, 3, 4] rfl)
    ·
      refine lv_iload hx hb dX2_number_72 (lv_at hl 4 rfl) ?_
      refine lv_aload_n hx hb dX2_number_74 rfl (lv_at hl 0 rfl) ?_
      refine dk_get (k := 12) hx hb hts iX2_number_2 hown hK (dk_at12 hW) rfl 2 (by decide) (hts (.fieldLink RX2 30 "DogKings$Reader" "at" "I") (List.mem_of_getElem? (i := 1) rfl)) rfl dX2_number_75 ?_
      refine lv_topi (fun v5 ev5 => ?_)
      have dv5 : dkN [(0, 90)] v5 := by rw [ev5]; exact (hO 12 2)
      refine lv_isub hx hb dX2_number_78 ?_
      refine lv_topi (fun v6 ev6 => ?_)
      have dv6 : dkN [(-90, 90)] v6 := by rw [ev6]; exact dkN_subt k63_1 dv5 rfl
      refine lv_iconst (v := 2) hx hb dX2_number_79 (by decide) ?_
      refine lv_icmp_le (tgt := 92) hx hb dX2_number_80 (by decide) (fun c7 => ?_) (fun c7 => ?_)
      ·
        have d8 : dkN [(-90, 2)] v6 := dkN_le1 0 dv6 (dkN_lit (x := 2) (2) rfl) (dkc_le c7) rfl
        refine lv_iload_n hx hb dX2_number_92 rfl (lv_at hl 3 rfl) ?_
        refine lv_iload_n hx hb dX2_number_93 rfl (lv_at hl 1 rfl) ?_
        refine lv_icmp_lt (tgt := 102) hx hb dX2_number_94 (by decide) (fun c9 => ?_) (fun c9 => ?_)
        ·
          have d10 : dkN [(-2147483648, -1)] x63_3 := dkN_le1 1 (dkN_top x63_3) dp0 (dkc_lt c9) rfl
          exact C102 I63_ _ _ ls x63_3 x63_4 hW hS hF hO (dkN_sub d10 rfl) (dkN_sub k63_1 rfl) (lv_sub hl [0, 1, 2, 3, 4] rfl)
        ·
          have d11 : dkN [(0, 2147483647)] x63_3 := dkN_le2 0 dp0 (dkN_top x63_3) (dkc_nlt c9) rfl
          refine lv_iload_n hx hb dX2_number_97 rfl (lv_at hl 3 rfl) ?_
          refine lv_iload_n hx hb dX2_number_98 rfl (lv_at hl 2 rfl) ?_
          refine lv_icmp_le (tgt := 111) hx hb dX2_number_99 (by decide) (fun c12 => ?_) (fun c12 => ?_)
          ·
            have d13 : dkN [(0, 9)] x63_3 := dkN_le1 0 d11 dp1 (dkc_le c12) rfl
            refine lv_aload_n hx hb dX2_number_111 rfl (lv_at hl 0 rfl) ?_
            refine lv_iload hx hb dX2_number_112 (lv_at hl 4 rfl) ?_
            refine dk_put (k := 12) hx hb hts iX2_number_2 tyX2 tyX2_ok nmX2 hown hK hW (dk_at12 hW) hS rfl 2 (by decide) (hts (.fieldLink RX2 30 "DogKings$Reader" "at" "I") (List.mem_of_getElem? (i := 1) rfl)) rfl rfl (Nat.le_of_ble_eq_true rfl) rfl dX2_number_114 (fun I14 H14 L14 eI14 hW hS => ?_)
            have eI14 : I14 = dkU I63_ 12 2 x63_4 := eI14
            have hO := dkO_set hO eI14 (dkN_sub k63_1 rfl)
            have hF := dkF_set hF eI14 rfl
            refine lv_iload_n hx hb dX2_number_117 rfl (lv_at hl 3 rfl) ?_
            exact W.iret (v := x63_3) hx hb hr (fun t ht hW9 => ⟨⟨x63_3, I14, rfl, ⟨hF, hO, Or.inr (⟨dkN_sub d13 rfl, trivial⟩)⟩, dkW_eq ht hW⟩, hS.F ht⟩) hS.2.2 dX2_number_118
          ·
            have d15 : dkN [(10, 2147483647)] x63_3 := dkN_le2 1 dp1 d11 (dkc_nle c12) rfl
            exact C102 I63_ _ _ ls x63_3 x63_4 hW hS hF hO (dkN_sub d15 rfl) (dkN_sub k63_1 rfl) (lv_sub hl [0, 1, 2, 3, 4] rfl)
      ·
        have d16 : dkN [(3, 90)] v6 := dkN_le2 1 (dkN_lit (x := 2) (2) rfl) dv6 (dkc_nle c7) rfl
        exact C83 I63_ _ _ ls x63_3 x63_4 hW hS hF hO (dkN_sub k63_1 rfl) (lv_sub hl [0, 1, 2, 3, 4] rfl)
  have C8 : ∀ (n : Nat), ∀ (I : dkI) (H : Heap) (locs : List Loc) (ls : Array Slot) (x8_3 : Int32) (x8_4 : Int32), (90 - x8_4.toInt).toNat < n → dkW g z I H → va_S (dkA z) s.heap H locs → dkF [(12, 12, 2, 2), (12, 12, 4, 5)] I0 I → dkOk I → dkN [(0, 90)] x8_4 → lv_has ls 5 [(0, .ref (z + 12)), (1, .int p0), (2, .int p1), (3, .int x8_3), (4, .int x8_4)] → W p l e (headSpec wsX2_number (dkR 1)).room s m args below meth c H locs 0 0 (MQ below (dkQi g z (fun r I1 => dkF [(12, 12, 2, 2), (12, 12, 4, 5)] I0 I1 ∧ dkOk I1 ∧ ((dkN [(-1000000, -1000000)] r ∧ dkN [(0, 90)] (I1 12 4) ∧ dkN [(1, 2)] (I1 12 5) ∧ True) ∨ (dkN [(0, 9)] r ∧ True)))) args s 0 0 (dkA z)) (F0 m 8 ls []) := by
    intro n
    induction n with
    | zero => intro I H locs ls x8_3 x8_4 hn; exact absurd hn (Nat.not_lt_zero _)
    | succ n ih8 =>
      intro I8_ H locs ls x8_3 x8_4 hn8 hW hS hF_8 hO k8_1 hl
      have hF := hF_8
      refine lv_iload hx hb dX2_number_8 (lv_at hl 4 rfl) ?_
      refine lv_aload_n hx hb dX2_number_10 rfl (lv_at hl 0 rfl) ?_
      refine dk_get (k := 12) hx hb hts iX2_number_2 hown hK (dk_at12 hW) rfl 1 (by decide) (hts (.fieldLink RX2 22 "DogKings$Reader" "bytes" "I") (List.mem_of_getElem? (i := 2) rfl)) rfl dX2_number_11 ?_
      refine lv_topi (fun v17 ev17 => ?_)
      have dv17 : dkN [(0, 90)] v17 := by rw [ev17]; exact (hO 12 1)
      refine lv_icmp_ge (tgt := 63) hx hb dX2_number_14 (by decide) (fun c18 => ?_) (fun c18 => ?_)
      ·
        exact C63 I8_ _ _ ls x8_3 x8_4 hW hS hF hO (dkN_sub k8_1 rfl) (lv_sub hl [0, 1, 2, 3, 4] rfl)
      ·
        have d19 : dkN [(1, 90)] v17 := dkN_le2 1 k8_1 dv17 (dkc_nle c18) rfl
        have f20 : dkN [(1, 90)] (I8_ 12 1) := by rw [← ev17]; exact d19
        have d21 : dkN [(0, 89)] x8_4 := dkN_le1 1 k8_1 dv17 (dkc_nle c18) rfl
        refine lv_aload_n hx hb dX2_number_17 rfl (lv_at hl 0 rfl) ?_
        refine dk_get (k := 12) hx hb hts iX2_number_2 hown hK (dk_at12 hW) rfl 0 (by decide) (hts (.fieldLink RX2 11 "DogKings$Reader" "tape" "[I") (List.mem_of_getElem? (i := 3) rfl)) rfl dX2_number_18 ?_
        refine lv_iload hx hb dX2_number_21 (lv_at hl 4 rfl) ?_
        refine dk_ild (k := 13) hx hb hK (dk_at13 hW) (dkN_in (n := 90) d21 rfl) dX2_number_23 ?_
        refine lv_topi (fun v22 ev22 => ?_)
        have dv22 : dkN [(0, 255)] v22 := by rw [ev22]; exact (hO 13 _)
        refine dk_Si (As := [.int v22]) (rest := []) ⟨hx, hb, hml, hown, hts⟩ (c_X2_isFigure_0 l g z I8_ v22 dv22 hO) (va_cwS 1 hts gX2_number_X2_isFigure rfl rfl rfl (by decide +kernel) ⟨Nat.le_of_ble_eq_true rfl, Nat.le_of_ble_eq_true rfl⟩) hK hT hW hS rfl hl.1 rfl (Nat.le_of_ble_eq_true rfl) dX2_number_24 ⟨Nat.zero_le _, Nat.zero_le _⟩ (fun v23 I23 H23 L23 hp23 hW hS => ?_)
        obtain ⟨hF23, hO, hc23⟩ := hp23
        have hF := dkF_call hF hF23 rfl
        rcases hc23 with ⟨dv23, a23_0, -⟩ | hc23
        ·
          have d24 : dkN [(0, 47), (58, 255)] v22 := dkN_eq1 dv22 a23_0 rfl rfl
          refine lv_if_eq (tgt := 63) hx hb dX2_number_27 (by decide) (fun c25 => ?_) (fun c25 => ?_)
          ·
            exact C63 I23 _ _ ls x8_3 x8_4 hW hS hF hO (dkN_sub d21 rfl) (lv_sub hl [0, 1, 2, 3, 4] rfl)
          ·
            exact (dkN_nil (show dkN [] v23 from dkN_ne1 (0) dv23 (dkN_lit (x := 0) (0) rfl) (dk_ne c25) rfl)).elim
        ·
          obtain ⟨dv23, a23_0, -⟩ := hc23
          have d26 : dkN [(48, 57)] v22 := dkN_eq1 dv22 a23_0 rfl rfl
          refine lv_if_eq (tgt := 63) hx hb dX2_number_27 (by decide) (fun c27 => ?_) (fun c27 => ?_)
          ·
            exact (dkN_nil (show dkN [] v23 from dkN_eq1 dv23 (dkN_lit (x := 0) (0) rfl) (congrArg Int32.toInt c27) rfl)).elim
          ·
            refine lv_iload hx hb dX2_number_30 (lv_at hl 4 rfl) ?_
            refine lv_aload_n hx hb dX2_number_32 rfl (lv_at hl 0 rfl) ?_
            refine dk_get (k := 12) hx hb hts iX2_number_2 hown hK (dk_at12 hW) rfl 2 (by decide) (hts (.fieldLink RX2 30 "DogKings$Reader" "at" "I") (List.mem_of_getElem? (i := 1) rfl)) rfl dX2_number_33 ?_
            refine lv_topi (fun v28 ev28 => ?_)
            have dv28 : dkN [(0, 90)] v28 := by rw [ev28]; exact (hO 12 2)
            refine lv_isub hx hb dX2_number_36 ?_
            refine lv_topi (fun v29 ev29 => ?_)
            have dv29 : dkN [(-90, 89)] v29 := by rw [ev29]; exact dkN_subt d21 dv28 rfl
            refine lv_iconst (v := 3) hx hb dX2_number_37 (by decide) ?_
            refine lv_icmp_ge (tgt := 63) hx hb dX2_number_38 (by decide) (fun c30 => ?_) (fun c30 => ?_)
            ·
              have d31 : dkN [(3, 89)] v29 := dkN_le2 0 (dkN_lit (x := 3) (3) rfl) dv29 (dkc_le c30) rfl
              exact C63 I23 _ _ ls x8_3 x8_4 hW hS hF hO (dkN_sub d21 rfl) (lv_sub hl [0, 1, 2, 3, 4] rfl)
            ·
              have d32 : dkN [(-90, 2)] v29 := dkN_le1 1 dv29 (dkN_lit (x := 3) (3) rfl) (dkc_nle c30) rfl
              refine lv_bipush (v := 10) hx hb dX2_number_41 (by decide) ?_
              refine lv_iload_n hx hb dX2_number_43 rfl (lv_at hl 3 rfl) ?_
              refine lv_imul hx hb dX2_number_44 ?_
              refine lv_topi (fun v33 ev33 => ?_)
              refine lv_aload_n hx hb dX2_number_45 rfl (lv_at hl 0 rfl) ?_
              refine dk_get (k := 12) hx hb hts iX2_number_2 hown hK (dk_at12 hW) rfl 0 (by decide) (hts (.fieldLink RX2 11 "DogKings$Reader" "tape" "[I") (List.mem_of_getElem? (i := 3) rfl)) rfl dX2_number_46 ?_
              refine lv_iload hx hb dX2_number_49 (lv_at hl 4 rfl) ?_
              refine dk_ild (k := 13) hx hb hK (dk_at13 hW) (dkN_in (n := 90) d21 rfl) dX2_number_51 ?_
              refine lv_topi (fun v34 ev34 => ?_)
              have dv34 : dkN [(0, 255)] v34 := by rw [ev34]; exact (hO 13 _)
              refine lv_iadd hx hb dX2_number_52 ?_
              refine lv_topi (fun v35 ev35 => ?_)
              refine lv_bipush (v := 48) hx hb dX2_number_53 (by decide) ?_
              refine lv_isub hx hb dX2_number_55 ?_
              refine lv_topi (fun v36 ev36 => ?_)
              refine lv_istore_n (lv' := [(3, .int v36), (0, .ref (z + 12)), (1, .int p0), (2, .int p1), (4, .int x8_4)]) hx hb dX2_number_56 rfl hl (by decide) rfl (fun ls hl => ?_)
              obtain ⟨v37, ev37⟩ : ∃ y : Int32, y = x8_4 + 1 := ⟨_, rfl⟩
              have dv37 : dkN [(1, 90)] v37 := by rw [ev37]; exact dkN_add d21 (dkN_lit (x := 1) (1) rfl) rfl
              refine lv_iinc (v := v37) (lv' := [(4, .int v37), (3, .int v36), (0, .ref (z + 12)), (1, .int p0), (2, .int p1)]) hx hb dX2_number_57 hl (k := 4) rfl (by rw [ev37]; rfl) (by decide) rfl (fun ls hl => ?_)
              refine lv_goto (tgt := 8) hx hb dX2_number_60 (by decide) ?_
              exact ih8 I23 _ _ ls v36 v37 (dk_near hn8 (by rw [ev37]; exact dk_inc d21 rfl) (dkN_lt d21 rfl)) hW hS hF hO (dkN_sub dv37 rfl) (lv_sub hl [2, 3, 4, 1, 0] rfl)
  refine lv_iconst (v := 0) hx hb dX2_number_0 (by decide) ?_
  refine lv_istore_n (lv' := [(3, .int 0), (0, .ref (z + 12)), (1, .int p0), (2, .int p1)]) hx hb dX2_number_1 rfl hl (by decide) rfl (fun ls hl => ?_)
  refine lv_aload_n hx hb dX2_number_2 rfl (lv_at hl 1 rfl) ?_
  refine dk_get (k := 12) hx hb hts iX2_number_2 hown hK (dk_at12 hW) rfl 2 (by decide) (hts (.fieldLink RX2 30 "DogKings$Reader" "at" "I") (List.mem_of_getElem? (i := 1) rfl)) rfl dX2_number_3 ?_
  refine lv_topi (fun v38 ev38 => ?_)
  have dv38 : dkN [(0, 90)] v38 := by rw [ev38]; exact (hO 12 2)
  refine lv_istore (lv' := [(4, .int v38), (3, .int 0), (0, .ref (z + 12)), (1, .int p0), (2, .int p1)]) hx hb dX2_number_6 hl (by decide) rfl (fun ls hl => ?_)
  exact C8 _ I0 _ _ ls 0 v38 (Nat.lt_succ_self _) hW hS hF hO (dkN_sub dv38 rfl) (lv_sub hl [2, 3, 4, 1, 0] rfl)
set_option maxHeartbeats 4000000 in
set_option maxRecDepth 100000 in
theorem c_X2_number_4 (l : Launch) (g : dkG) (z : Nat) (I0 : dkI) (p0 : Int32) (p1 : Int32) (dp0 : dkN [(0, 0)] p0) (dp1 : dkN [(2, 2)] p1)  (hO : dkOk I0) : Met l yX2_number wsX2_number (dkR 1) (dkPc g z [.ref (z + 12), .int p0, .int p1] I0) (dkQi g z (fun r I1 => dkF [(12, 12, 2, 2), (12, 12, 4, 5)] I0 I1 ∧ dkOk I1 ∧ ((dkN [(-1000000, -1000000)] r ∧ dkN [(0, 90)] (I1 12 4) ∧ dkN [(1, 2)] (I1 12 5) ∧ True) ∨ (dkN [(0, 2)] r ∧ True)))) 0 0 (dkA z) := by
  refine Met.ofW (cc := cX2_number) (maxL := 5) (ret := (some .int)) (by decide) rfl ?_
  intro p e s m args below meth c s₁ B hml hv
  obtain ⟨ha, hW, hK, hT⟩ := hv
  have hx := B.exec
  have hb := B.bytes
  have hr := B.returns
  have hts := atoms_spec (ws := wsX2_number) B.pre
  have hown : s.vm.findClass RX2 = some m.cls := findClass_of_methodNamed B.named
  have hlocks := B.notSynchronized
  have hS : va_S (dkA z) s.heap s.heap [] := va_S.rf
  have hF : dkF [(12, 12, 2, 2), (12, 12, 4, 5)] I0 I0 := dkF_rf _ _
  have hl := lv_entry ([.ref (z + 12), .int p0, .int p1]) (n := 5) (Nat.le_of_ble_eq_true rfl)
  have hgo : entryFrame m args 5 = entryFrame m ([.ref (z + 12), .int p0, .int p1] : List Value).toArray 5 := by rw [ha]
  rw [hgo, lg_entry_eq]
  generalize (lg_sl ([.ref (z + 12), .int p0, .int p1]) ++ List.replicate (5 - (lg_sl ([.ref (z + 12), .int p0, .int p1])).length) Slot.unset).toArray = ls at hl ⊢
  have hl : lv_has ls 5 [(0, .ref (z + 12)), (1, .int p0), (2, .int p1)] := hl
  have C83 : ∀ (I : dkI) (H : Heap) (locs : List Loc) (ls : Array Slot) (x83_3 : Int32) (x83_4 : Int32), dkW g z I H → va_S (dkA z) s.heap H locs → dkF [(12, 12, 2, 2), (12, 12, 4, 5)] I0 I → dkOk I → dkN [(0, 90)] x83_4 → lv_has ls 5 [(0, .ref (z + 12)), (1, .int p0), (2, .int p1), (3, .int x83_3), (4, .int x83_4)] → W p l e (headSpec wsX2_number (dkR 1)).room s m args below meth c H locs 0 0 (MQ below (dkQi g z (fun r I1 => dkF [(12, 12, 2, 2), (12, 12, 4, 5)] I0 I1 ∧ dkOk I1 ∧ ((dkN [(-1000000, -1000000)] r ∧ dkN [(0, 90)] (I1 12 4) ∧ dkN [(1, 2)] (I1 12 5) ∧ True) ∨ (dkN [(0, 2)] r ∧ True)))) args s 0 0 (dkA z)) (F0 m 83 ls []) := by
    intro I83_ H locs ls x83_3 x83_4 hW hS hF_83 hO k83_1 hl
    have hF := hF_83
    refine lv_aload_n hx hb dX2_number_83 rfl (lv_at hl 0 rfl) ?_
    refine lv_iconst (v := 1) hx hb dX2_number_84 (by decide) ?_
    refine dk_Vi (As := [.int 1]) (rest := []) ⟨hx, hb, hml, hown, hts⟩ (c_X2_meets_0 l g z I83_ 1 (dkN_lit (x := 1) (1) rfl) hO) (cwV 1 hts gX2_number_X2_meets rfl rfl rfl (by decide +kernel) ⟨Nat.le_of_ble_eq_true rfl, Nat.le_of_ble_eq_true rfl⟩) (dk_at12 hW) rfl hK hT hW hS rfl hl.1 rfl (Nat.le_of_ble_eq_true rfl) dX2_number_85 ⟨Nat.zero_le _, Nat.zero_le _⟩ (fun v1 I1 H1 L1 hp1 hW hS => ?_)
    obtain ⟨hF1, hO, hc1⟩ := hp1
    have hF := dkF_call hF hF1 rfl
    obtain ⟨dv1, f1_12_4, f1_12_5, -⟩ := hc1
    refine lv_pop hx hb dX2_number_88 rfl ?_
    refine lv_ldc (v := (-1000000)) hx hb hown (hts (.constant RX2 50 (-1000000)) (List.mem_of_getElem? (i := 4) rfl)) dX2_number_89 ?_
    exact W.iret (v := (-1000000)) hx hb hr (fun t ht hW9 => ⟨⟨(-1000000), I1, rfl, ⟨hF, hO, Or.inl ⟨dkN_sub (dkN_lit (x := (-1000000)) (-1000000) rfl) rfl, (show dkN [(0, 90)] (I1 12 4) from dkN_sub f1_12_4 rfl), (show dkN [(1, 2)] (I1 12 5) from dkN_sub f1_12_5 rfl), trivial⟩⟩, dkW_eq ht hW⟩, hS.F ht⟩) hS.2.2 dX2_number_91
  have C102 : ∀ (I : dkI) (H : Heap) (locs : List Loc) (ls : Array Slot) (x102_3 : Int32) (x102_4 : Int32), dkW g z I H → va_S (dkA z) s.heap H locs → dkF [(12, 12, 2, 2), (12, 12, 4, 5)] I0 I → dkOk I → dkN [(-2147483648, -1), (3, 2147483647)] x102_3 → dkN [(0, 90)] x102_4 → lv_has ls 5 [(0, .ref (z + 12)), (1, .int p0), (2, .int p1), (3, .int x102_3), (4, .int x102_4)] → W p l e (headSpec wsX2_number (dkR 1)).room s m args below meth c H locs 0 0 (MQ below (dkQi g z (fun r I1 => dkF [(12, 12, 2, 2), (12, 12, 4, 5)] I0 I1 ∧ dkOk I1 ∧ ((dkN [(-1000000, -1000000)] r ∧ dkN [(0, 90)] (I1 12 4) ∧ dkN [(1, 2)] (I1 12 5) ∧ True) ∨ (dkN [(0, 2)] r ∧ True)))) args s 0 0 (dkA z)) (F0 m 102 ls []) := by
    intro I102_ H locs ls x102_3 x102_4 hW hS hF_102 hO k102_0 k102_1 hl
    have hF := hF_102
    refine lv_aload_n hx hb dX2_number_102 rfl (lv_at hl 0 rfl) ?_
    refine lv_iconst (v := 2) hx hb dX2_number_103 (by decide) ?_
    refine dk_Vi (As := [.int 2]) (rest := []) ⟨hx, hb, hml, hown, hts⟩ (c_X2_meets_1 l g z I102_ 2 (dkN_lit (x := 2) (2) rfl) hO) (cwV 1 hts gX2_number_X2_meets rfl rfl rfl (by decide +kernel) ⟨Nat.le_of_ble_eq_true rfl, Nat.le_of_ble_eq_true rfl⟩) (dk_at12 hW) rfl hK hT hW hS rfl hl.1 rfl (Nat.le_of_ble_eq_true rfl) dX2_number_104 ⟨Nat.zero_le _, Nat.zero_le _⟩ (fun v2 I2 H2 L2 hp2 hW hS => ?_)
    obtain ⟨hF2, hO, hc2⟩ := hp2
    have hF := dkF_call hF hF2 rfl
    obtain ⟨dv2, f2_12_4, f2_12_5, -⟩ := hc2
    refine lv_pop hx hb dX2_number_107 rfl ?_
    refine lv_ldc (v := (-1000000)) hx hb hown (hts (.constant RX2 50 (-1000000)) (List.mem_of_getElem? (i := 4) rfl)) dX2_number_108 ?_
    exact W.iret (v := (-1000000)) hx hb hr (fun t ht hW9 => ⟨⟨(-1000000), I2, rfl, ⟨hF, hO, Or.inl ⟨dkN_sub (dkN_lit (x := (-1000000)) (-1000000) rfl) rfl, (show dkN [(0, 90)] (I2 12 4) from dkN_sub f2_12_4 rfl), (show dkN [(1, 2)] (I2 12 5) from dkN_sub f2_12_5 rfl), trivial⟩⟩, dkW_eq ht hW⟩, hS.F ht⟩) hS.2.2 dX2_number_110
  have C63 : ∀ (I : dkI) (H : Heap) (locs : List Loc) (ls : Array Slot) (x63_3 : Int32) (x63_4 : Int32), dkW g z I H → va_S (dkA z) s.heap H locs → dkF [(12, 12, 2, 2), (12, 12, 4, 5)] I0 I → dkOk I → dkN [(0, 90)] x63_4 → lv_has ls 5 [(0, .ref (z + 12)), (1, .int p0), (2, .int p1), (3, .int x63_3), (4, .int x63_4)] → W p l e (headSpec wsX2_number (dkR 1)).room s m args below meth c H locs 0 0 (MQ below (dkQi g z (fun r I1 => dkF [(12, 12, 2, 2), (12, 12, 4, 5)] I0 I1 ∧ dkOk I1 ∧ ((dkN [(-1000000, -1000000)] r ∧ dkN [(0, 90)] (I1 12 4) ∧ dkN [(1, 2)] (I1 12 5) ∧ True) ∨ (dkN [(0, 2)] r ∧ True)))) args s 0 0 (dkA z)) (F0 m 63 ls []) := by
    intro I63_ H locs ls x63_3 x63_4 hW hS hF_63 hO k63_1 hl
    have hF := hF_63
    refine lv_iload hx hb dX2_number_63 (lv_at hl 4 rfl) ?_
    refine lv_aload_n hx hb dX2_number_65 rfl (lv_at hl 0 rfl) ?_
    refine dk_get (k := 12) hx hb hts iX2_number_2 hown hK (dk_at12 hW) rfl 2 (by decide) (hts (.fieldLink RX2 30 "DogKings$Reader" "at" "I") (List.mem_of_getElem? (i := 1) rfl)) rfl dX2_number_66 ?_
    refine lv_topi (fun v3 ev3 => ?_)
    have dv3 : dkN [(0, 90)] v3 := by rw [ev3]; exact (hO 12 2)
    refine lv_icmp_eq (tgt := 83) hx hb dX2_number_69 (by decide) (fun c4 => ?_) (fun c4 => ?_)
    ·
      exact C83 I63_ _ _ ls x63_3 x63_4 hW hS hF hO (dkN_sub k63_1 rfl) (lv_sub hl [0, 1, 2, 3, 4] rfl)
    ·
      refine lv_iload hx hb dX2_number_72 (lv_at hl 4 rfl) ?_
      refine lv_aload_n hx hb dX2_number_74 rfl (lv_at hl 0 rfl) ?_
      refine dk_get (k := 12) hx hb hts iX2_number_2 hown hK (dk_at12 hW) rfl 2 (by decide) (hts (.fieldLink RX2 30 "DogKings$Reader" "at" "I") (List.mem_of_getElem? (i := 1) rfl)) rfl dX2_number_75 ?_
      refine lv_topi (fun v5 ev5 => ?_)
      have dv5 : dkN [(0, 90)] v5 := by rw [ev5]; exact (hO 12 2)
      refine lv_isub hx hb dX2_number_78 ?_
      refine lv_topi (fun v6 ev6 => ?_)
      have dv6 : dkN [(-90, 90)] v6 := by rw [ev6]; exact dkN_subt k63_1 dv5 rfl
      refine lv_iconst (v := 2) hx hb dX2_number_79 (by decide) ?_
      refine lv_icmp_le (tgt := 92) hx hb dX2_number_80 (by decide) (fun c7 => ?_) (fun c7 => ?_)
      ·
        have d8 : dkN [(-90, 2)] v6 := dkN_le1 0 dv6 (dkN_lit (x := 2) (2) rfl) (dkc_le c7) rfl
        refine lv_iload_n hx hb dX2_number_92 rfl (lv_at hl 3 rfl) ?_
        refine lv_iload_n hx hb dX2_number_93 rfl (lv_at hl 1 rfl) ?_
        refine lv_icmp_lt (tgt := 102) hx hb dX2_number_94 (by decide) (fun c9 => ?_) (fun c9 => ?_)
        ·
          have d10 : dkN [(-2147483648, -1)] x63_3 := dkN_le1 1 (dkN_top x63_3) dp0 (dkc_lt c9) rfl
          exact C102 I63_ _ _ ls x63_3 x63_4 hW hS hF hO (dkN_sub d10 rfl) (dkN_sub k63_1 rfl) (lv_sub hl [0, 1, 2, 3, 4] rfl)
        ·
          have d11 : dkN [(0, 2147483647)] x63_3 := dkN_le2 0 dp0 (dkN_top x63_3) (dkc_nlt c9) rfl
          refine lv_iload_n hx hb dX2_number_97 rfl (lv_at hl 3 rfl) ?_
          refine lv_iload_n hx hb dX2_number_98 rfl (lv_at hl 2 rfl) ?_
          refine lv_icmp_le (tgt := 111) hx hb dX2_number_99 (by decide) (fun c12 => ?_) (fun c12 => ?_)
          ·
            have d13 : dkN [(0, 2)] x63_3 := dkN_le1 0 d11 dp1 (dkc_le c12) rfl
            refine lv_aload_n hx hb dX2_number_111 rfl (lv_at hl 0 rfl) ?_
            refine lv_iload hx hb dX2_number_112 (lv_at hl 4 rfl) ?_
            refine dk_put (k := 12) hx hb hts iX2_number_2 tyX2 tyX2_ok nmX2 hown hK hW (dk_at12 hW) hS rfl 2 (by decide) (hts (.fieldLink RX2 30 "DogKings$Reader" "at" "I") (List.mem_of_getElem? (i := 1) rfl)) rfl rfl (Nat.le_of_ble_eq_true rfl) rfl dX2_number_114 (fun I14 H14 L14 eI14 hW hS => ?_)
            have eI14 : I14 = dkU I63_ 12 2 x63_4 := eI14
            have hO := dkO_set hO eI14 (dkN_sub k63_1 rfl)
            have hF := dkF_set hF eI14 rfl
            refine lv_iload_n hx hb dX2_number_117 rfl (lv_at hl 3 rfl) ?_
            exact W.iret (v := x63_3) hx hb hr (fun t ht hW9 => ⟨⟨x63_3, I14, rfl, ⟨hF, hO, Or.inr (⟨dkN_sub d13 rfl, trivial⟩)⟩, dkW_eq ht hW⟩, hS.F ht⟩) hS.2.2 dX2_number_118
          ·
            have d15 : dkN [(3, 2147483647)] x63_3 := dkN_le2 1 dp1 d11 (dkc_nle c12) rfl
            exact C102 I63_ _ _ ls x63_3 x63_4 hW hS hF hO (dkN_sub d15 rfl) (dkN_sub k63_1 rfl) (lv_sub hl [0, 1, 2, 3, 4] rfl)
      ·
        have d16 : dkN [(3, 90)] v6 := dkN_le2 1 (dkN_lit (x := 2) (2) rfl) dv6 (dkc_nle c7) rfl
        exact C83 I63_ _ _ ls x63_3 x63_4 hW hS hF hO (dkN_sub k63_1 rfl) (lv_sub hl [0, 1, 2, 3, 4] rfl)
  have C8 : ∀ (n : Nat), ∀ (I : dkI) (H : Heap) (locs : List Loc) (ls : Array Slot) (x8_3 : Int32) (x8_4 : Int32), (90 - x8_4.toInt).toNat < n → dkW g z I H → va_S (dkA z) s.heap H locs → dkF [(12, 12, 2, 2), (12, 12, 4, 5)] I0 I → dkOk I → dkN [(0, 90)] x8_4 → lv_has ls 5 [(0, .ref (z + 12)), (1, .int p0), (2, .int p1), (3, .int x8_3), (4, .int x8_4)] → W p l e (headSpec wsX2_number (dkR 1)).room s m args below meth c H locs 0 0 (MQ below (dkQi g z (fun r I1 => dkF [(12, 12, 2, 2), (12, 12, 4, 5)] I0 I1 ∧ dkOk I1 ∧ ((dkN [(-1000000, -1000000)] r ∧ dkN [(0, 90)] (I1 12 4) ∧ dkN [(1, 2)] (I1 12 5) ∧ True) ∨ (dkN [(0, 2)] r ∧ True)))) args s 0 0 (dkA z)) (F0 m 8 ls []) := by
    intro n
    induction n with
    | zero => intro I H locs ls x8_3 x8_4 hn; exact absurd hn (Nat.not_lt_zero _)
    | succ n ih8 =>
      intro I8_ H locs ls x8_3 x8_4 hn8 hW hS hF_8 hO k8_1 hl
      have hF := hF_8
      refine lv_iload hx hb dX2_number_8 (lv_at hl 4 rfl) ?_
      refine lv_aload_n hx hb dX2_number_10 rfl (lv_at hl 0 rfl) ?_
      refine dk_get (k := 12) hx hb hts iX2_number_2 hown hK (dk_at12 hW) rfl 1 (by decide) (hts (.fieldLink RX2 22 "DogKings$Reader" "bytes" "I") (List.mem_of_getElem? (i := 2) rfl)) rfl dX2_number_11 ?_
      refine lv_topi (fun v17 ev17 => ?_)
      have dv17 : dkN [(0, 90)] v17 := by rw [ev17]; exact (hO 12 1)
      refine lv_icmp_ge (tgt := 63) hx hb dX2_number_14 (by decide) (fun c18 => ?_) (fun c18 => ?_)
      ·
        exact C63 I8_ _ _ ls x8_3 x8_4 hW hS hF hO (dkN_sub k8_1 rfl) (lv_sub hl [0, 1, 2, 3, 4] rfl)
      ·
        have d19 : dkN [(1, 90)] v17 := dkN_le2 1 k8_1 dv17 (dkc_nle c18) rfl
        have f20 : dkN [(1, 90)] (I8_ 12 1) := by rw [← ev17]; exact d19
        have d21 : dkN [(0, 89)] x8_4 := dkN_le1 1 k8_1 dv17 (dkc_nle c18) rfl
        refine lv_aload_n hx hb dX2_number_17 rfl (lv_at hl 0 rfl) ?_
        refine dk_get (k := 12) hx hb hts iX2_number_2 hown hK (dk_at12 hW) rfl 0 (by decide) (hts (.fieldLink RX2 11 "DogKings$Reader" "tape" "[I") (List.mem_of_getElem? (i := 3) rfl)) rfl dX2_number_18 ?_
        refine lv_iload hx hb dX2_number_21 (lv_at hl 4 rfl) ?_
        refine dk_ild (k := 13) hx hb hK (dk_at13 hW) (dkN_in (n := 90) d21 rfl) dX2_number_23 ?_
        refine lv_topi (fun v22 ev22 => ?_)
        have dv22 : dkN [(0, 255)] v22 := by rw [ev22]; exact (hO 13 _)
        refine dk_Si (As := [.int v22]) (rest := []) ⟨hx, hb, hml, hown, hts⟩ (c_X2_isFigure_0 l g z I8_ v22 dv22 hO) (va_cwS 1 hts gX2_number_X2_isFigure rfl rfl rfl (by decide +kernel) ⟨Nat.le_of_ble_eq_true rfl, Nat.le_of_ble_eq_true rfl⟩) hK hT hW hS rfl hl.1 rfl (Nat.le_of_ble_eq_true rfl) dX2_number_24 ⟨Nat.zero_le _, Nat.zero_le _⟩ (fun v23 I23 H23 L23 hp23 hW hS => ?_)
        obtain ⟨hF23, hO, hc23⟩ := hp23
        have hF := dkF_call hF hF23 rfl
        rcases hc23 with ⟨dv23, a23_0, -⟩ | hc23
        ·
          have d24 : dkN [(0, 47), (58, 255)] v22 := dkN_eq1 dv22 a23_0 rfl rfl
          refine lv_if_eq (tgt := 63) hx hb dX2_number_27 (by decide) (fun c25 => ?_) (fun c25 => ?_)
          ·
            exact C63 I23 _ _ ls x8_3 x8_4 hW hS hF hO (dkN_sub d21 rfl) (lv_sub hl [0, 1, 2, 3, 4] rfl)
          ·
            exact (dkN_nil (show dkN [] v23 from dkN_ne1 (0) dv23 (dkN_lit (x := 0) (0) rfl) (dk_ne c25) rfl)).elim
        ·
          obtain ⟨dv23, a23_0, -⟩ := hc23
          have d26 : dkN [(48, 57)] v22 := dkN_eq1 dv22 a23_0 rfl rfl
          refine lv_if_eq (tgt := 63) hx hb dX2_number_27 (by decide) (fun c27 => ?_) (fun c27 => ?_)
          ·
            exact (dkN_nil (show dkN [] v23 from dkN_eq1 dv23 (dkN_lit (x := 0) (0) rfl) (congrArg Int32.toInt c27) rfl)).elim
          ·
            refine lv_iload hx hb dX2_number_30 (lv_at hl 4 rfl) ?_
            refine lv_aload_n hx hb dX2_number_32 rfl (lv_at hl 0 rfl) ?_
            refine dk_get (k := 12) hx hb hts iX2_number_2 hown hK (dk_at12 hW) rfl 2 (by decide) (hts (.fieldLink RX2 30 "DogKings$Reader" "at" "I") (List.mem_of_getElem? (i := 1) rfl)) rfl dX2_number_33 ?_
            refine lv_topi (fun v28 ev28 => ?_)
            have dv28 : dkN [(0, 90)] v28 := by rw [ev28]; exact (hO 12 2)
            refine lv_isub hx hb dX2_number_36 ?_
            refine lv_topi (fun v29 ev29 => ?_)
            have dv29 : dkN [(-90, 89)] v29 := by rw [ev29]; exact dkN_subt d21 dv28 rfl
            refine lv_iconst (v := 3) hx hb dX2_number_37 (by decide) ?_
            refine lv_icmp_ge (tgt := 63) hx hb dX2_number_38 (by decide) (fun c30 => ?_) (fun c30 => ?_)
            ·
              have d31 : dkN [(3, 89)] v29 := dkN_le2 0 (dkN_lit (x := 3) (3) rfl) dv29 (dkc_le c30) rfl
              exact C63 I23 _ _ ls x8_3 x8_4 hW hS hF hO (dkN_sub d21 rfl) (lv_sub hl [0, 1, 2, 3, 4] rfl)
            ·
              have d32 : dkN [(-90, 2)] v29 := dkN_le1 1 dv29 (dkN_lit (x := 3) (3) rfl) (dkc_nle c30) rfl
              refine lv_bipush (v := 10) hx hb dX2_number_41 (by decide) ?_
              refine lv_iload_n hx hb dX2_number_43 rfl (lv_at hl 3 rfl) ?_
              refine lv_imul hx hb dX2_number_44 ?_
              refine lv_topi (fun v33 ev33 => ?_)
              refine lv_aload_n hx hb dX2_number_45 rfl (lv_at hl 0 rfl) ?_
              refine dk_get (k := 12) hx hb hts iX2_number_2 hown hK (dk_at12 hW) rfl 0 (by decide) (hts (.fieldLink RX2 11 "DogKings$Reader" "tape" "[I") (List.mem_of_getElem? (i := 3) rfl)) rfl dX2_number_46 ?_
              refine lv_iload hx hb dX2_number_49 (lv_at hl 4 rfl) ?_
              refine dk_ild (k := 13) hx hb hK (dk_at13 hW) (dkN_in (n := 90) d21 rfl) dX2_number_51 ?_
              refine lv_topi (fun v34 ev34 => ?_)
              have dv34 : dkN [(0, 255)] v34 := by rw [ev34]; exact (hO 13 _)
              refine lv_iadd hx hb dX2_number_52 ?_
              refine lv_topi (fun v35 ev35 => ?_)
              refine lv_bipush (v := 48) hx hb dX2_number_53 (by decide) ?_
              refine lv_isub hx hb dX2_number_55 ?_
              refine lv_topi (fun v36 ev36 => ?_)
              refine lv_istore_n (lv' := [(3, .int v36), (0, .ref (z + 12)), (1, .int p0), (2, .int p1), (4, .int x8_4)]) hx hb dX2_number_56 rfl hl (by decide) rfl (fun ls hl => ?_)
              obtain ⟨v37, ev37⟩ : ∃ y : Int32, y = x8_4 + 1 := ⟨_, rfl⟩
              have dv37 : dkN [(1, 90)] v37 := by rw [ev37]; exact dkN_add d21 (dkN_lit (x := 1) (1) rfl) rfl
              refine lv_iinc (v := v37) (lv' := [(4, .int v37), (3, .int v36), (0, .ref (z + 12)), (1, .int p0), (2, .int p1)]) hx hb dX2_number_57 hl (k := 4) rfl (by rw [ev37]; rfl) (by decide) rfl (fun ls hl => ?_)
              refine lv_goto (tgt := 8) hx hb dX2_number_60 (by decide) ?_
              exact ih8 I23 _ _ ls v36 v37 (dk_near hn8 (by rw [ev37]; exact dk_inc d21 rfl) (dkN_lt d21 rfl)) hW hS hF hO (dkN_sub dv37 rfl) (lv_sub hl [2, 3, 4, 1, 0] rfl)
  refine lv_iconst (v := 0) hx hb dX2_number_0 (by decide) ?_
  refine lv_istore_n (lv' := [(3, .int 0), (0, .ref (z + 12)), (1, .int p0), (2, .int p1)]) hx hb dX2_number_1 rfl hl (by decide) rfl (fun ls hl => ?_)
  refine lv_aload_n hx hb dX2_number_2 rfl (lv_at hl 1 rfl) ?_
  refine dk_get (k := 12) hx hb hts iX2_number_2 hown hK (dk_at12 hW) rfl 2 (by decide) (hts (.fieldLink RX2 30 "DogKings$Reader" "at" "I") (List.mem_of_getElem? (i := 1) rfl)) rfl dX2_number_3 ?_
  refine lv_topi (fun v38 ev38 => ?_)
  have dv38 : dkN [(0, 90)] v38 := by rw [ev38]; exact (hO 12 2)
  refine lv_istore (lv' := [(4, .int v38), (3, .int 0), (0, .ref (z + 12)), (1, .int p0), (2, .int p1)]) hx hb dX2_number_6 hl (by decide) rfl (fun ls hl => ?_)
  exact C8 _ I0 _ _ ls 0 v38 (Nat.lt_succ_self _) hW hS hF hO (dkN_sub dv38 rfl) (lv_sub hl [2, 3, 4, 1, 0] rfl)
set_option maxHeartbeats 4000000 in
set_option maxRecDepth 100000 in
theorem c_X4_settle_0 (l : Launch) (g : dkG) (z : Nat) (I0 : dkI) (t0 : Nat) (ht0 : dkT t0) (p0 : Int32) (p1 : Int32) (p2 : Int32) (dp0 : dkN [(0, 8)] p0) (dp1 : dkN [(0, 9)] p1) (dp2 : dkN [(0, 2)] p2)  (hO : dkOk I0) : Met l yX4_settle wsX4_settle (dkR 0) (dkPc g z [.ref (z + t0), .int p0, .int p1, .int p2] I0) (dkQv g z (fun I1 => dkF [(t0, t0, 4, 4), (t0 + 1, t0 + 1, 0, 4), (t0 + 2, t0 + 2, 0, 4), (t0 + 3, t0 + 3, 0, 4), (t0 + 4, t0 + 4, 0, 4), (t0 + 5, t0 + 5, 0, 4), (t0 + 6, t0 + 6, 0, 4)] I0 I1 ∧ dkOk I1 ∧ ((dkN [(1, 5)] (I1 t0 4) ∧ True)))) 0 0 (dkA z) := by
  refine Met.ofW (cc := cX4_settle) (maxL := 4) (ret := none) (by decide) rfl ?_
  intro p e s m args below meth c s₁ B hml hv
  obtain ⟨ha, hW, hK, hT⟩ := hv
  have hx := B.exec
  have hb := B.bytes
  have hr := B.returns
  have hts := atoms_spec (ws := wsX4_settle) B.pre
  have hown : s.vm.findClass RX4 = some m.cls := findClass_of_methodNamed B.named
  have hlocks := B.notSynchronized
  have hS : va_S (dkA z) s.heap s.heap [] := va_S.rf
  have hF : dkF [(t0, t0, 4, 4), (t0 + 1, t0 + 1, 0, 4), (t0 + 2, t0 + 2, 0, 4), (t0 + 3, t0 + 3, 0, 4), (t0 + 4, t0 + 4, 0, 4), (t0 + 5, t0 + 5, 0, 4), (t0 + 6, t0 + 6, 0, 4)] I0 I0 := dkF_rf _ _
  have hl := lv_entry ([.ref (z + t0), .int p0, .int p1, .int p2]) (n := 4) (Nat.le_of_ble_eq_true rfl)
  have hgo : entryFrame m args 4 = entryFrame m ([.ref (z + t0), .int p0, .int p1, .int p2] : List Value).toArray 4 := by rw [ha]
  rw [hgo, lg_entry_eq]
  generalize (lg_sl ([.ref (z + t0), .int p0, .int p1, .int p2]) ++ List.replicate (4 - (lg_sl ([.ref (z + t0), .int p0, .int p1, .int p2])).length) Slot.unset).toArray = ls at hl ⊢
  have hl : lv_has ls 4 [(0, .ref (z + t0)), (1, .int p0), (2, .int p1), (3, .int p2)] := hl
  refine lv_aload_n hx hb dX4_settle_0 rfl (lv_at hl 0 rfl) ?_
  refine dk_get (k := t0) hx hb hts iX4_settle_4 hown hK (dk_aT0 ht0 hW) rfl 4 (by decide) (hts (.fieldLink RX4 55 "DogKings$Town" "people" "I") (List.mem_of_getElem? (i := 1) rfl)) rfl dX4_settle_1 ?_
  refine lv_topi (fun v1 ev1 => ?_)
  have dv1 : dkN [(0, 5)] v1 := by rw [ev1]; exact (dkO_at hO ht0 (c := 0) (by decide) 4)
  refine lv_iconst (v := 5) hx hb dX4_settle_4 (by decide) ?_
  refine lv_icmp_lt (tgt := 9) hx hb dX4_settle_5 (by decide) (fun c2 => ?_) (fun c2 => ?_)
  ·
    have d3 : dkN [(0, 4)] v1 := dkN_le1 1 dv1 (dkN_lit (x := 5) (5) rfl) (dkc_lt c2) rfl
    have f4 : dkN [(0, 4)] (I0 t0 4) := by rw [← ev1]; exact d3
    refine lv_aload_n hx hb dX4_settle_9 rfl (lv_at hl 0 rfl) ?_
    refine dk_get (k := t0) hx hb hts iX4_settle_4 hown hK (dk_aT0 ht0 hW) rfl 5 (by decide) (hts (.fieldLink RX4 9 "DogKings$Town" "personHome" "[I") (List.mem_of_getElem? (i := 2) rfl)) rfl dX4_settle_10 ?_
    refine lv_aload_n hx hb dX4_settle_13 rfl (lv_at hl 0 rfl) ?_
    refine dk_get (k := t0) hx hb hts iX4_settle_4 hown hK (dk_aT0 ht0 hW) rfl 4 (by decide) (hts (.fieldLink RX4 55 "DogKings$Town" "people" "I") (List.mem_of_getElem? (i := 1) rfl)) rfl dX4_settle_14 ?_
    refine lv_topi (fun v5 ev5 => ?_)
    have dv5 : dkN [(0, 4)] v5 := by rw [ev5]; exact f4
    refine lv_iload_n hx hb dX4_settle_17 rfl (lv_at hl 1 rfl) ?_
    refine dk_ist (k := (t0 + 1)) hx hb hK hW (fun _ => dkC_T g z ht0 (c := 1) (by decide) _) (by have := dkT_lt ht0; omega) hS (dkN_in (n := 5) dv5 rfl) dX4_settle_18 (fun I6 H6 L6 eI6 hW hS => ?_)
    have hO := dkO_setT hO ht0 (c := 1) (by decide) eI6 (dkN_sub dp0 rfl)
    have hF := dkF_set hF eI6 (dkIn_atv (i := 1) rfl (Nat.le_refl _) (Nat.le_refl _) dv5 rfl)
    refine lv_aload_n hx hb dX4_settle_19 rfl (lv_at hl 0 rfl) ?_
    refine dk_get (k := t0) hx hb hts iX4_settle_4 hown hK (dk_aT0 ht0 hW) rfl 6 (by decide) (hts (.fieldLink RX4 15 "DogKings$Town" "smell" "[I") (List.mem_of_getElem? (i := 3) rfl)) rfl dX4_settle_20 ?_
    refine lv_aload_n hx hb dX4_settle_23 rfl (lv_at hl 0 rfl) ?_
    refine dk_get (k := t0) hx hb hts iX4_settle_4 hown hK (dk_aT0 ht0 hW) rfl 4 (by decide) (hts (.fieldLink RX4 55 "DogKings$Town" "people" "I") (List.mem_of_getElem? (i := 1) rfl)) rfl dX4_settle_24 ?_
    refine lv_topi (fun v7 ev7 => ?_)
    have dv7 : dkN [(0, 4)] v7 := by rw [ev7]; exact (by rw [eI6, dkU_n (by omega)]; exact f4)
    refine lv_iload_n hx hb dX4_settle_27 rfl (lv_at hl 2 rfl) ?_
    refine dk_ist (k := (t0 + 2)) hx hb hK hW (fun _ => dkC_T g z ht0 (c := 2) (by decide) _) (by have := dkT_lt ht0; omega) hS (dkN_in (n := 5) dv7 rfl) dX4_settle_28 (fun I8 H8 L8 eI8 hW hS => ?_)
    have hO := dkO_setT hO ht0 (c := 2) (by decide) eI8 (dkN_sub dp1 rfl)
    have hF := dkF_set hF eI8 (dkIn_atv (i := 2) rfl (Nat.le_refl _) (Nat.le_refl _) dv7 rfl)
    refine lv_aload_n hx hb dX4_settle_29 rfl (lv_at hl 0 rfl) ?_
    refine dk_get (k := t0) hx hb hts iX4_settle_4 hown hK (dk_aT0 ht0 hW) rfl 7 (by decide) (hts (.fieldLink RX4 18 "DogKings$Town" "personAt" "[I") (List.mem_of_getElem? (i := 4) rfl)) rfl dX4_settle_30 ?_
    refine lv_aload_n hx hb dX4_settle_33 rfl (lv_at hl 0 rfl) ?_
    refine dk_get (k := t0) hx hb hts iX4_settle_4 hown hK (dk_aT0 ht0 hW) rfl 4 (by decide) (hts (.fieldLink RX4 55 "DogKings$Town" "people" "I") (List.mem_of_getElem? (i := 1) rfl)) rfl dX4_settle_34 ?_
    refine lv_topi (fun v9 ev9 => ?_)
    have dv9 : dkN [(0, 4)] v9 := by rw [ev9]; exact (by rw [eI8, dkU_n (by omega)]; exact (by rw [eI6, dkU_n (by omega)]; exact f4))
    refine lv_iload_n hx hb dX4_settle_37 rfl (lv_at hl 1 rfl) ?_
    refine dk_ist (k := (t0 + 3)) hx hb hK hW (fun _ => dkC_T g z ht0 (c := 3) (by decide) _) (by have := dkT_lt ht0; omega) hS (dkN_in (n := 5) dv9 rfl) dX4_settle_38 (fun I10 H10 L10 eI10 hW hS => ?_)
    have hO := dkO_setT hO ht0 (c := 3) (by decide) eI10 (dkN_sub dp0 rfl)
    have hF := dkF_set hF eI10 (dkIn_atv (i := 3) rfl (Nat.le_refl _) (Nat.le_refl _) dv9 rfl)
    refine lv_aload_n hx hb dX4_settle_39 rfl (lv_at hl 0 rfl) ?_
    refine dk_get (k := t0) hx hb hts iX4_settle_4 hown hK (dk_aT0 ht0 hW) rfl 8 (by decide) (hts (.fieldLink RX4 21 "DogKings$Town" "bones" "[I") (List.mem_of_getElem? (i := 5) rfl)) rfl dX4_settle_40 ?_
    refine lv_aload_n hx hb dX4_settle_43 rfl (lv_at hl 0 rfl) ?_
    refine dk_get (k := t0) hx hb hts iX4_settle_4 hown hK (dk_aT0 ht0 hW) rfl 4 (by decide) (hts (.fieldLink RX4 55 "DogKings$Town" "people" "I") (List.mem_of_getElem? (i := 1) rfl)) rfl dX4_settle_44 ?_
    refine lv_topi (fun v11 ev11 => ?_)
    have dv11 : dkN [(0, 4)] v11 := by rw [ev11]; exact (by rw [eI10, dkU_n (by omega)]; exact (by rw [eI8, dkU_n (by omega)]; exact (by rw [eI6, dkU_n (by omega)]; exact f4)))
    refine lv_iconst (v := 0) hx hb dX4_settle_47 (by decide) ?_
    refine dk_ist (k := (t0 + 4)) hx hb hK hW (fun _ => dkC_T g z ht0 (c := 4) (by decide) _) (by have := dkT_lt ht0; omega) hS (dkN_in (n := 5) dv11 rfl) dX4_settle_48 (fun I12 H12 L12 eI12 hW hS => ?_)
    have hO := dkO_setT hO ht0 (c := 4) (by decide) eI12 (dkN_sub (dkN_lit (x := 0) (0) rfl) rfl)
    have hF := dkF_set hF eI12 (dkIn_atv (i := 4) rfl (Nat.le_refl _) (Nat.le_refl _) dv11 rfl)
    refine lv_aload_n hx hb dX4_settle_49 rfl (lv_at hl 0 rfl) ?_
    refine dk_get (k := t0) hx hb hts iX4_settle_4 hown hK (dk_aT0 ht0 hW) rfl 9 (by decide) (hts (.fieldLink RX4 24 "DogKings$Town" "gait" "[I") (List.mem_of_getElem? (i := 6) rfl)) rfl dX4_settle_50 ?_
    refine lv_aload_n hx hb dX4_settle_53 rfl (lv_at hl 0 rfl) ?_
    refine dk_get (k := t0) hx hb hts iX4_settle_4 hown hK (dk_aT0 ht0 hW) rfl 4 (by decide) (hts (.fieldLink RX4 55 "DogKings$Town" "people" "I") (List.mem_of_getElem? (i := 1) rfl)) rfl dX4_settle_54 ?_
    refine lv_topi (fun v13 ev13 => ?_)
    have dv13 : dkN [(0, 4)] v13 := by rw [ev13]; exact (by rw [eI12, dkU_n (by omega)]; exact (by rw [eI10, dkU_n (by omega)]; exact (by rw [eI8, dkU_n (by omega)]; exact (by rw [eI6, dkU_n (by omega)]; exact f4))))
    refine lv_iload_n hx hb dX4_settle_57 rfl (lv_at hl 3 rfl) ?_
    refine dk_ist (k := (t0 + 5)) hx hb hK hW (fun _ => dkC_T g z ht0 (c := 5) (by decide) _) (by have := dkT_lt ht0; omega) hS (dkN_in (n := 5) dv13 rfl) dX4_settle_58 (fun I14 H14 L14 eI14 hW hS => ?_)
    have hO := dkO_setT hO ht0 (c := 5) (by decide) eI14 (dkN_sub dp2 rfl)
    have hF := dkF_set hF eI14 (dkIn_atv (i := 5) rfl (Nat.le_refl _) (Nat.le_refl _) dv13 rfl)
    refine lv_aload_n hx hb dX4_settle_59 rfl (lv_at hl 0 rfl) ?_
    refine dk_get (k := t0) hx hb hts iX4_settle_4 hown hK (dk_aT0 ht0 hW) rfl 10 (by decide) (hts (.fieldLink RX4 27 "DogKings$Town" "reigns" "[I") (List.mem_of_getElem? (i := 7) rfl)) rfl dX4_settle_60 ?_
    refine lv_aload_n hx hb dX4_settle_63 rfl (lv_at hl 0 rfl) ?_
    refine dk_get (k := t0) hx hb hts iX4_settle_4 hown hK (dk_aT0 ht0 hW) rfl 4 (by decide) (hts (.fieldLink RX4 55 "DogKings$Town" "people" "I") (List.mem_of_getElem? (i := 1) rfl)) rfl dX4_settle_64 ?_
    refine lv_topi (fun v15 ev15 => ?_)
    have dv15 : dkN [(0, 4)] v15 := by rw [ev15]; exact (by rw [eI14, dkU_n (by omega)]; exact (by rw [eI12, dkU_n (by omega)]; exact (by rw [eI10, dkU_n (by omega)]; exact (by rw [eI8, dkU_n (by omega)]; exact (by rw [eI6, dkU_n (by omega)]; exact f4)))))
    refine lv_iconst (v := 0) hx hb dX4_settle_67 (by decide) ?_
    refine dk_ist (k := (t0 + 6)) hx hb hK hW (fun _ => dkC_T g z ht0 (c := 6) (by decide) _) (by have := dkT_lt ht0; omega) hS (dkN_in (n := 5) dv15 rfl) dX4_settle_68 (fun I16 H16 L16 eI16 hW hS => ?_)
    have hO := dkO_setT hO ht0 (c := 6) (by decide) eI16 (dkN_sub (dkN_lit (x := 0) (0) rfl) rfl)
    have hF := dkF_set hF eI16 (dkIn_atv (i := 6) rfl (Nat.le_refl _) (Nat.le_refl _) dv15 rfl)
    refine lv_aload_n hx hb dX4_settle_69 rfl (lv_at hl 0 rfl) ?_
    refine lv_dup hx hb dX4_settle_70 rfl ?_
    refine dk_get (k := t0) hx hb hts iX4_settle_4 hown hK (dk_aT0 ht0 hW) rfl 4 (by decide) (hts (.fieldLink RX4 55 "DogKings$Town" "people" "I") (List.mem_of_getElem? (i := 1) rfl)) rfl dX4_settle_71 ?_
    refine lv_topi (fun v17 ev17 => ?_)
    have dv17 : dkN [(0, 4)] v17 := by rw [ev17]; exact (by rw [eI16, dkU_n (by omega)]; exact (by rw [eI14, dkU_n (by omega)]; exact (by rw [eI12, dkU_n (by omega)]; exact (by rw [eI10, dkU_n (by omega)]; exact (by rw [eI8, dkU_n (by omega)]; exact (by rw [eI6, dkU_n (by omega)]; exact f4))))))
    refine lv_iconst (v := 1) hx hb dX4_settle_74 (by decide) ?_
    refine lv_iadd hx hb dX4_settle_75 ?_
    refine lv_topi (fun v18 ev18 => ?_)
    have dv18 : dkN [(1, 5)] v18 := by rw [ev18]; exact dkN_add dv17 (dkN_lit (x := 1) (1) rfl) rfl
    refine dk_put (k := t0) hx hb hts iX4_settle_4 tyX4 tyX4_ok nmX4 hown hK hW (dk_aT0 ht0 hW) hS rfl 4 (by decide) (hts (.fieldLink RX4 55 "DogKings$Town" "people" "I") (List.mem_of_getElem? (i := 1) rfl)) rfl rfl (Nat.le_of_ble_eq_true rfl) (dk_eT4 ht0) dX4_settle_76 (fun I19 H19 L19 eI19 hW hS => ?_)
    have eI19 : I19 = dkU I16 t0 4 v18 := eI19
    have hO := dkO_setT hO ht0 (c := 0) (by decide) eI19 (dkN_sub dv18 rfl)
    have hF := dkF_set hF eI19 (dkIn_at (i := 0) rfl (Nat.le_refl _) (Nat.le_refl _) (by decide) (by decide))
    exact W.vret hx hb hr (fun t ht hW9 => ⟨⟨I19, rfl, ⟨hF, hO, ⟨(show dkN [(1, 5)] (I19 t0 4) from dkN_sub (by rw [eI19, dkU_ss]; exact dv18) rfl), trivial⟩⟩, dkW_eq ht hW⟩, hS.F ht⟩) hS.2.2 dX4_settle_79
  ·
    have d20 : dkN [(5, 5)] v1 := dkN_le2 0 (dkN_lit (x := 5) (5) rfl) dv1 (dkc_nlt c2) rfl
    have f21 : dkN [(5, 5)] (I0 t0 4) := by rw [← ev1]; exact d20
    exact W.vret hx hb hr (fun t ht hW9 => ⟨⟨I0, rfl, ⟨hF, hO, ⟨(show dkN [(1, 5)] (I0 t0 4) from dkN_sub f21 rfl), trivial⟩⟩, dkW_eq ht hW⟩, hS.F ht⟩) hS.2.2 dX4_settle_8
set_option maxHeartbeats 4000000 in
set_option maxRecDepth 100000 in
theorem c_X2_readsPerson_0 (l : Launch) (g : dkG) (z : Nat) (I0 : dkI)  (hO : dkOk I0) : Met l yX2_readsPerson wsX2_readsPerson (dkR 2) (dkPc g z [.ref (z + 12)] I0) (dkQi g z (fun r I1 => dkF [(12, 12, 2, 2), (12, 12, 4, 5), (14, 14, 4, 4), (15, 15, 0, 4), (16, 16, 0, 4), (17, 17, 0, 4), (18, 18, 0, 4), (19, 19, 0, 4), (20, 20, 0, 4)] I0 I1 ∧ dkOk I1 ∧ ((dkN [(0, 0)] r ∧ dkN [(0, 90)] (I1 12 4) ∧ dkN [(1, 2)] (I1 12 5) ∧ True) ∨ (dkN [(1, 1)] r ∧ dkN [(1, 90)] (I1 12 1) ∧ dkN [(1, 90)] (I1 12 2) ∧ dkN [(1, 5)] (I1 14 4) ∧ True)))) 0 0 (dkA z) := by
  refine Met.ofW (cc := cX2_readsPerson) (maxL := 4) (ret := (some .boolean)) (by decide) rfl ?_
  intro p e s m args below meth c s₁ B hml hv
  obtain ⟨ha, hW, hK, hT⟩ := hv
  have hx := B.exec
  have hb := B.bytes
  have hr := B.returns
  have hts := atoms_spec (ws := wsX2_readsPerson) B.pre
  have hown : s.vm.findClass RX2 = some m.cls := findClass_of_methodNamed B.named
  have hlocks := B.notSynchronized
  have hS : va_S (dkA z) s.heap s.heap [] := va_S.rf
  have hF : dkF [(12, 12, 2, 2), (12, 12, 4, 5), (14, 14, 4, 4), (15, 15, 0, 4), (16, 16, 0, 4), (17, 17, 0, 4), (18, 18, 0, 4), (19, 19, 0, 4), (20, 20, 0, 4)] I0 I0 := dkF_rf _ _
  have hl := lv_entry ([.ref (z + 12)]) (n := 4) (Nat.le_of_ble_eq_true rfl)
  have hgo : entryFrame m args 4 = entryFrame m ([.ref (z + 12)] : List Value).toArray 4 := by rw [ha]
  rw [hgo, lg_entry_eq]
  generalize (lg_sl ([.ref (z + 12)]) ++ List.replicate (4 - (lg_sl ([.ref (z + 12)])).length) Slot.unset).toArray = ls at hl ⊢
  have hl : lv_has ls 4 [(0, .ref (z + 12))] := hl
  refine lv_aload_n hx hb dX2_readsPerson_0 rfl (lv_at hl 0 rfl) ?_
  refine lv_bipush (v := 109) hx hb dX2_readsPerson_1 (by decide) ?_
  refine dk_Vi (As := [.int 109]) (rest := []) ⟨hx, hb, hml, hown, hts⟩ (c_X2_takes_3 l g z I0 109 (dkN_lit (x := 109) (109) rfl) hO) (cwV 1 hts gX2_readsPerson_X2_takes rfl rfl rfl (by decide +kernel) ⟨Nat.le_of_ble_eq_true rfl, Nat.le_of_ble_eq_true rfl⟩) (dk_at12 hW) rfl hK hT hW hS rfl hl.1 rfl (Nat.le_of_ble_eq_true rfl) dX2_readsPerson_3 ⟨Nat.zero_le _, Nat.zero_le _⟩ (fun v1 I1 H1 L1 hp1 hW hS => ?_)
  obtain ⟨hF1, hO, hc1⟩ := hp1
  have hF := dkF_call hF hF1 rfl
  rcases hc1 with ⟨dv1, f1_12_4, f1_12_5, -⟩ | hc1
  ·
    refine lv_if_ne (tgt := 11) hx hb dX2_readsPerson_6 (by decide) (fun c2 => ?_) (fun c2 => ?_)
    ·
      exact (dkN_nil (show dkN [] v1 from dkN_ne1 (0) dv1 (dkN_lit (x := 0) (0) rfl) (dk_ne c2) rfl)).elim
    ·
      refine lv_iconst (v := 0) hx hb dX2_readsPerson_9 (by decide) ?_
      exact W.zret (v := 0) (ty := .boolean) hx hb hr rfl (fun t ht hW9 => ⟨⟨0, I1, rfl, ⟨hF, hO, Or.inl ⟨dkN_sub (dkN_lit (x := 0) (0) rfl) rfl, (show dkN [(0, 90)] (I1 12 4) from dkN_sub f1_12_4 rfl), (show dkN [(1, 2)] (I1 12 5) from dkN_sub f1_12_5 rfl), trivial⟩⟩, dkW_eq ht hW⟩, hS.F ht⟩) hS.2.2 dX2_readsPerson_10
  ·
    obtain ⟨dv1, f1_12_1, f1_12_2, -⟩ := hc1
    refine lv_if_ne (tgt := 11) hx hb dX2_readsPerson_6 (by decide) (fun c3 => ?_) (fun c3 => ?_)
    ·
      refine lv_aload_n hx hb dX2_readsPerson_11 rfl (lv_at hl 0 rfl) ?_
      refine lv_iconst (v := 0) hx hb dX2_readsPerson_12 (by decide) ?_
      refine lv_aload_n hx hb dX2_readsPerson_13 rfl (lv_at hl 0 rfl) ?_
      refine dk_get (k := 12) hx hb hts iX2_readsPerson_2 hown hK (dk_at12 hW) rfl 3 (by decide) (hts (.fieldLink RX2 18 "DogKings$Reader" "draft" "LDogKings$Town;") (List.mem_of_getElem? (i := 1) rfl)) rfl dX2_readsPerson_14 ?_
      refine dk_get (k := 14) hx hb hts iX2_readsPerson_4 hown hK (dk_at14 hW) rfl 0 (by decide) (hts (.fieldLink RX2 68 "DogKings$Town" "places" "I") (List.mem_of_getElem? (i := 2) rfl)) rfl dX2_readsPerson_17 ?_
      refine lv_topi (fun v4 ev4 => ?_)
      have dv4 : dkN [(0, 9)] v4 := by rw [ev4]; exact (hO 14 0)
      refine lv_iconst (v := 1) hx hb dX2_readsPerson_20 (by decide) ?_
      refine lv_isub hx hb dX2_readsPerson_21 ?_
      refine lv_topi (fun v5 ev5 => ?_)
      have dv5 : dkN [(-1, 8)] v5 := by rw [ev5]; exact dkN_subt dv4 (dkN_lit (x := 1) (1) rfl) rfl
      refine dk_Vi (As := [.int 0, .int v5]) (rest := []) ⟨hx, hb, hml, hown, hts⟩ (c_X2_number_2 l g z I1 0 v5 (dkN_lit (x := 0) (0) rfl) dv5 hO) (cwV 2 hts gX2_readsPerson_X2_number rfl rfl rfl (by decide +kernel) ⟨Nat.le_of_ble_eq_true rfl, Nat.le_of_ble_eq_true rfl⟩) (dk_at12 hW) rfl hK hT hW hS rfl hl.1 rfl (Nat.le_of_ble_eq_true rfl) dX2_readsPerson_22 ⟨Nat.zero_le _, Nat.zero_le _⟩ (fun v6 I6 H6 L6 hp6 hW hS => ?_)
      obtain ⟨hF6, hO, hc6⟩ := hp6
      have hF := dkF_call hF hF6 rfl
      rcases hc6 with ⟨dv6, f6_12_4, f6_12_5, -⟩ | hc6
      ·
        refine lv_istore_n (lv' := [(1, .int v6), (0, .ref (z + 12))]) hx hb dX2_readsPerson_25 rfl hl (by decide) rfl (fun ls hl => ?_)
        refine lv_iload_n hx hb dX2_readsPerson_26 rfl (lv_at hl 0 rfl) ?_
        refine lv_ldc (v := (-1000000)) hx hb hown (hts (.constant RX2 50 (-1000000)) (List.mem_of_getElem? (i := 3) rfl)) dX2_readsPerson_27 ?_
        refine lv_icmp_eq (tgt := 41) hx hb dX2_readsPerson_29 (by decide) (fun c7 => ?_) (fun c7 => ?_)
        ·
          refine lv_iconst (v := 0) hx hb dX2_readsPerson_41 (by decide) ?_
          exact W.zret (v := 0) (ty := .boolean) hx hb hr rfl (fun t ht hW9 => ⟨⟨0, I6, rfl, ⟨hF, hO, Or.inl ⟨dkN_sub (dkN_lit (x := 0) (0) rfl) rfl, (show dkN [(0, 90)] (I6 12 4) from dkN_sub f6_12_4 rfl), (show dkN [(1, 2)] (I6 12 5) from dkN_sub f6_12_5 rfl), trivial⟩⟩, dkW_eq ht hW⟩, hS.F ht⟩) hS.2.2 dX2_readsPerson_42
        ·
          exact (dkN_nil (show dkN [] v6 from dkN_ne1 (-1000000) dv6 (dkN_lit (x := (-1000000)) (-1000000) rfl) (dk_ne c7) rfl)).elim
      ·
        obtain ⟨dv6, a6_1, -⟩ := hc6
        have d8 : dkN [(0, 8)] v5 := dkN_eq1 dv5 a6_1 rfl rfl
        refine lv_istore_n (lv' := [(1, .int v6), (0, .ref (z + 12))]) hx hb dX2_readsPerson_25 rfl hl (by decide) rfl (fun ls hl => ?_)
        refine lv_iload_n hx hb dX2_readsPerson_26 rfl (lv_at hl 0 rfl) ?_
        refine lv_ldc (v := (-1000000)) hx hb hown (hts (.constant RX2 50 (-1000000)) (List.mem_of_getElem? (i := 3) rfl)) dX2_readsPerson_27 ?_
        refine lv_icmp_eq (tgt := 41) hx hb dX2_readsPerson_29 (by decide) (fun c9 => ?_) (fun c9 => ?_)
        ·
          exact (dkN_nil (show dkN [] v6 from dkN_eq1 dv6 (dkN_lit (x := (-1000000)) (-1000000) rfl) (congrArg Int32.toInt c9) rfl)).elim
        ·
          refine lv_aload_n hx hb dX2_readsPerson_32 rfl (lv_at hl 1 rfl) ?_
          refine lv_bipush (v := 44) hx hb dX2_readsPerson_33 (by decide) ?_
          refine dk_Vi (As := [.int 44]) (rest := []) ⟨hx, hb, hml, hown, hts⟩ (c_X2_takes_1 l g z I6 44 (dkN_lit (x := 44) (44) rfl) hO) (cwV 1 hts gX2_readsPerson_X2_takes rfl rfl rfl (by decide +kernel) ⟨Nat.le_of_ble_eq_true rfl, Nat.le_of_ble_eq_true rfl⟩) (dk_at12 hW) rfl hK hT hW hS rfl hl.1 rfl (Nat.le_of_ble_eq_true rfl) dX2_readsPerson_35 ⟨Nat.zero_le _, Nat.zero_le _⟩ (fun v10 I10 H10 L10 hp10 hW hS => ?_)
          obtain ⟨hF10, hO, hc10⟩ := hp10
          have hF := dkF_call hF hF10 rfl
          rcases hc10 with ⟨dv10, f10_12_4, f10_12_5, -⟩ | hc10
          ·
            refine lv_if_ne (tgt := 43) hx hb dX2_readsPerson_38 (by decide) (fun c11 => ?_) (fun c11 => ?_)
            ·
              exact (dkN_nil (show dkN [] v10 from dkN_ne1 (0) dv10 (dkN_lit (x := 0) (0) rfl) (dk_ne c11) rfl)).elim
            ·
              refine lv_iconst (v := 0) hx hb dX2_readsPerson_41 (by decide) ?_
              exact W.zret (v := 0) (ty := .boolean) hx hb hr rfl (fun t ht hW9 => ⟨⟨0, I10, rfl, ⟨hF, hO, Or.inl ⟨dkN_sub (dkN_lit (x := 0) (0) rfl) rfl, (show dkN [(0, 90)] (I10 12 4) from dkN_sub f10_12_4 rfl), (show dkN [(1, 2)] (I10 12 5) from dkN_sub f10_12_5 rfl), trivial⟩⟩, dkW_eq ht hW⟩, hS.F ht⟩) hS.2.2 dX2_readsPerson_42
          ·
            obtain ⟨dv10, f10_12_1, f10_12_2, -⟩ := hc10
            refine lv_if_ne (tgt := 43) hx hb dX2_readsPerson_38 (by decide) (fun c12 => ?_) (fun c12 => ?_)
            ·
              refine lv_aload_n hx hb dX2_readsPerson_43 rfl (lv_at hl 1 rfl) ?_
              refine lv_iconst (v := 0) hx hb dX2_readsPerson_44 (by decide) ?_
              refine lv_bipush (v := 9) hx hb dX2_readsPerson_45 (by decide) ?_
              refine dk_Vi (As := [.int 0, .int 9]) (rest := []) ⟨hx, hb, hml, hown, hts⟩ (c_X2_number_3 l g z I10 0 9 (dkN_lit (x := 0) (0) rfl) (dkN_lit (x := 9) (9) rfl) hO) (cwV 2 hts gX2_readsPerson_X2_number rfl rfl rfl (by decide +kernel) ⟨Nat.le_of_ble_eq_true rfl, Nat.le_of_ble_eq_true rfl⟩) (dk_at12 hW) rfl hK hT hW hS rfl hl.1 rfl (Nat.le_of_ble_eq_true rfl) dX2_readsPerson_47 ⟨Nat.zero_le _, Nat.zero_le _⟩ (fun v13 I13 H13 L13 hp13 hW hS => ?_)
              obtain ⟨hF13, hO, hc13⟩ := hp13
              have hF := dkF_call hF hF13 rfl
              rcases hc13 with ⟨dv13, f13_12_4, f13_12_5, -⟩ | hc13
              ·
                refine lv_istore_n (lv' := [(2, .int v13), (1, .int v6), (0, .ref (z + 12))]) hx hb dX2_readsPerson_50 rfl hl (by decide) rfl (fun ls hl => ?_)
                refine lv_iload_n hx hb dX2_readsPerson_51 rfl (lv_at hl 0 rfl) ?_
                refine lv_ldc (v := (-1000000)) hx hb hown (hts (.constant RX2 50 (-1000000)) (List.mem_of_getElem? (i := 3) rfl)) dX2_readsPerson_52 ?_
                refine lv_icmp_eq (tgt := 66) hx hb dX2_readsPerson_54 (by decide) (fun c14 => ?_) (fun c14 => ?_)
                ·
                  refine lv_iconst (v := 0) hx hb dX2_readsPerson_66 (by decide) ?_
                  exact W.zret (v := 0) (ty := .boolean) hx hb hr rfl (fun t ht hW9 => ⟨⟨0, I13, rfl, ⟨hF, hO, Or.inl ⟨dkN_sub (dkN_lit (x := 0) (0) rfl) rfl, (show dkN [(0, 90)] (I13 12 4) from dkN_sub f13_12_4 rfl), (show dkN [(1, 2)] (I13 12 5) from dkN_sub f13_12_5 rfl), trivial⟩⟩, dkW_eq ht hW⟩, hS.F ht⟩) hS.2.2 dX2_readsPerson_67
                ·
                  exact (dkN_nil (show dkN [] v13 from dkN_ne1 (-1000000) dv13 (dkN_lit (x := (-1000000)) (-1000000) rfl) (dk_ne c14) rfl)).elim
              ·
                obtain ⟨dv13, -⟩ := hc13
                refine lv_istore_n (lv' := [(2, .int v13), (1, .int v6), (0, .ref (z + 12))]) hx hb dX2_readsPerson_50 rfl hl (by decide) rfl (fun ls hl => ?_)
                refine lv_iload_n hx hb dX2_readsPerson_51 rfl (lv_at hl 0 rfl) ?_
                refine lv_ldc (v := (-1000000)) hx hb hown (hts (.constant RX2 50 (-1000000)) (List.mem_of_getElem? (i := 3) rfl)) dX2_readsPerson_52 ?_
                refine lv_icmp_eq (tgt := 66) hx hb dX2_readsPerson_54 (by decide) (fun c15 => ?_) (fun c15 => ?_)
                ·
                  exact (dkN_nil (show dkN [] v13 from dkN_eq1 dv13 (dkN_lit (x := (-1000000)) (-1000000) rfl) (congrArg Int32.toInt c15) rfl)).elim
                ·
                  refine lv_aload_n hx hb dX2_readsPerson_57 rfl (lv_at hl 2 rfl) ?_
                  refine lv_bipush (v := 44) hx hb dX2_readsPerson_58 (by decide) ?_
                  refine dk_Vi (As := [.int 44]) (rest := []) ⟨hx, hb, hml, hown, hts⟩ (c_X2_takes_1 l g z I13 44 (dkN_lit (x := 44) (44) rfl) hO) (cwV 1 hts gX2_readsPerson_X2_takes rfl rfl rfl (by decide +kernel) ⟨Nat.le_of_ble_eq_true rfl, Nat.le_of_ble_eq_true rfl⟩) (dk_at12 hW) rfl hK hT hW hS rfl hl.1 rfl (Nat.le_of_ble_eq_true rfl) dX2_readsPerson_60 ⟨Nat.zero_le _, Nat.zero_le _⟩ (fun v16 I16 H16 L16 hp16 hW hS => ?_)
                  obtain ⟨hF16, hO, hc16⟩ := hp16
                  have hF := dkF_call hF hF16 rfl
                  rcases hc16 with ⟨dv16, f16_12_4, f16_12_5, -⟩ | hc16
                  ·
                    refine lv_if_ne (tgt := 68) hx hb dX2_readsPerson_63 (by decide) (fun c17 => ?_) (fun c17 => ?_)
                    ·
                      exact (dkN_nil (show dkN [] v16 from dkN_ne1 (0) dv16 (dkN_lit (x := 0) (0) rfl) (dk_ne c17) rfl)).elim
                    ·
                      refine lv_iconst (v := 0) hx hb dX2_readsPerson_66 (by decide) ?_
                      exact W.zret (v := 0) (ty := .boolean) hx hb hr rfl (fun t ht hW9 => ⟨⟨0, I16, rfl, ⟨hF, hO, Or.inl ⟨dkN_sub (dkN_lit (x := 0) (0) rfl) rfl, (show dkN [(0, 90)] (I16 12 4) from dkN_sub f16_12_4 rfl), (show dkN [(1, 2)] (I16 12 5) from dkN_sub f16_12_5 rfl), trivial⟩⟩, dkW_eq ht hW⟩, hS.F ht⟩) hS.2.2 dX2_readsPerson_67
                  ·
                    obtain ⟨dv16, f16_12_1, f16_12_2, -⟩ := hc16
                    refine lv_if_ne (tgt := 68) hx hb dX2_readsPerson_63 (by decide) (fun c18 => ?_) (fun c18 => ?_)
                    ·
                      refine lv_aload_n hx hb dX2_readsPerson_68 rfl (lv_at hl 2 rfl) ?_
                      refine lv_iconst (v := 0) hx hb dX2_readsPerson_69 (by decide) ?_
                      refine lv_iconst (v := 2) hx hb dX2_readsPerson_70 (by decide) ?_
                      refine dk_Vi (As := [.int 0, .int 2]) (rest := []) ⟨hx, hb, hml, hown, hts⟩ (c_X2_number_4 l g z I16 0 2 (dkN_lit (x := 0) (0) rfl) (dkN_lit (x := 2) (2) rfl) hO) (cwV 2 hts gX2_readsPerson_X2_number rfl rfl rfl (by decide +kernel) ⟨Nat.le_of_ble_eq_true rfl, Nat.le_of_ble_eq_true rfl⟩) (dk_at12 hW) rfl hK hT hW hS rfl hl.1 rfl (Nat.le_of_ble_eq_true rfl) dX2_readsPerson_71 ⟨Nat.zero_le _, Nat.zero_le _⟩ (fun v19 I19 H19 L19 hp19 hW hS => ?_)
                      obtain ⟨hF19, hO, hc19⟩ := hp19
                      have hF := dkF_call hF hF19 rfl
                      rcases hc19 with ⟨dv19, f19_12_4, f19_12_5, -⟩ | hc19
                      ·
                        refine lv_istore_n (lv' := [(3, .int v19), (2, .int v13), (1, .int v6), (0, .ref (z + 12))]) hx hb dX2_readsPerson_74 rfl hl (by decide) rfl (fun ls hl => ?_)
                        refine lv_iload_n hx hb dX2_readsPerson_75 rfl (lv_at hl 0 rfl) ?_
                        refine lv_ldc (v := (-1000000)) hx hb hown (hts (.constant RX2 50 (-1000000)) (List.mem_of_getElem? (i := 3) rfl)) dX2_readsPerson_76 ?_
                        refine lv_icmp_eq (tgt := 90) hx hb dX2_readsPerson_78 (by decide) (fun c20 => ?_) (fun c20 => ?_)
                        ·
                          refine lv_iconst (v := 0) hx hb dX2_readsPerson_90 (by decide) ?_
                          exact W.zret (v := 0) (ty := .boolean) hx hb hr rfl (fun t ht hW9 => ⟨⟨0, I19, rfl, ⟨hF, hO, Or.inl ⟨dkN_sub (dkN_lit (x := 0) (0) rfl) rfl, (show dkN [(0, 90)] (I19 12 4) from dkN_sub f19_12_4 rfl), (show dkN [(1, 2)] (I19 12 5) from dkN_sub f19_12_5 rfl), trivial⟩⟩, dkW_eq ht hW⟩, hS.F ht⟩) hS.2.2 dX2_readsPerson_91
                        ·
                          exact (dkN_nil (show dkN [] v19 from dkN_ne1 (-1000000) dv19 (dkN_lit (x := (-1000000)) (-1000000) rfl) (dk_ne c20) rfl)).elim
                      ·
                        obtain ⟨dv19, -⟩ := hc19
                        refine lv_istore_n (lv' := [(3, .int v19), (2, .int v13), (1, .int v6), (0, .ref (z + 12))]) hx hb dX2_readsPerson_74 rfl hl (by decide) rfl (fun ls hl => ?_)
                        refine lv_iload_n hx hb dX2_readsPerson_75 rfl (lv_at hl 0 rfl) ?_
                        refine lv_ldc (v := (-1000000)) hx hb hown (hts (.constant RX2 50 (-1000000)) (List.mem_of_getElem? (i := 3) rfl)) dX2_readsPerson_76 ?_
                        refine lv_icmp_eq (tgt := 90) hx hb dX2_readsPerson_78 (by decide) (fun c21 => ?_) (fun c21 => ?_)
                        ·
                          exact (dkN_nil (show dkN [] v19 from dkN_eq1 dv19 (dkN_lit (x := (-1000000)) (-1000000) rfl) (congrArg Int32.toInt c21) rfl)).elim
                        ·
                          refine lv_aload_n hx hb dX2_readsPerson_81 rfl (lv_at hl 3 rfl) ?_
                          refine lv_bipush (v := 59) hx hb dX2_readsPerson_82 (by decide) ?_
                          refine dk_Vi (As := [.int 59]) (rest := []) ⟨hx, hb, hml, hown, hts⟩ (c_X2_takes_2 l g z I19 59 (dkN_lit (x := 59) (59) rfl) hO) (cwV 1 hts gX2_readsPerson_X2_takes rfl rfl rfl (by decide +kernel) ⟨Nat.le_of_ble_eq_true rfl, Nat.le_of_ble_eq_true rfl⟩) (dk_at12 hW) rfl hK hT hW hS rfl hl.1 rfl (Nat.le_of_ble_eq_true rfl) dX2_readsPerson_84 ⟨Nat.zero_le _, Nat.zero_le _⟩ (fun v22 I22 H22 L22 hp22 hW hS => ?_)
                          obtain ⟨hF22, hO, hc22⟩ := hp22
                          have hF := dkF_call hF hF22 rfl
                          rcases hc22 with ⟨dv22, f22_12_4, f22_12_5, -⟩ | hc22
                          ·
                            refine lv_if_ne (tgt := 92) hx hb dX2_readsPerson_87 (by decide) (fun c23 => ?_) (fun c23 => ?_)
                            ·
                              exact (dkN_nil (show dkN [] v22 from dkN_ne1 (0) dv22 (dkN_lit (x := 0) (0) rfl) (dk_ne c23) rfl)).elim
                            ·
                              refine lv_iconst (v := 0) hx hb dX2_readsPerson_90 (by decide) ?_
                              exact W.zret (v := 0) (ty := .boolean) hx hb hr rfl (fun t ht hW9 => ⟨⟨0, I22, rfl, ⟨hF, hO, Or.inl ⟨dkN_sub (dkN_lit (x := 0) (0) rfl) rfl, (show dkN [(0, 90)] (I22 12 4) from dkN_sub f22_12_4 rfl), (show dkN [(1, 2)] (I22 12 5) from dkN_sub f22_12_5 rfl), trivial⟩⟩, dkW_eq ht hW⟩, hS.F ht⟩) hS.2.2 dX2_readsPerson_91
                          ·
                            obtain ⟨dv22, f22_12_1, f22_12_2, -⟩ := hc22
                            refine lv_if_ne (tgt := 92) hx hb dX2_readsPerson_87 (by decide) (fun c24 => ?_) (fun c24 => ?_)
                            ·
                              refine lv_aload_n hx hb dX2_readsPerson_92 rfl (lv_at hl 3 rfl) ?_
                              refine dk_get (k := 12) hx hb hts iX2_readsPerson_2 hown hK (dk_at12 hW) rfl 3 (by decide) (hts (.fieldLink RX2 18 "DogKings$Reader" "draft" "LDogKings$Town;") (List.mem_of_getElem? (i := 1) rfl)) rfl dX2_readsPerson_93 ?_
                              refine lv_iload_n hx hb dX2_readsPerson_96 rfl (lv_at hl 2 rfl) ?_
                              refine lv_iload_n hx hb dX2_readsPerson_97 rfl (lv_at hl 1 rfl) ?_
                              refine lv_iload_n hx hb dX2_readsPerson_98 rfl (lv_at hl 0 rfl) ?_
                              refine dk_Vv (As := [.int v6, .int v13, .int v19]) (rest := []) ⟨hx, hb, hml, hown, hts⟩ (c_X4_settle_0 l g z I22 (14) (by unfold dkT; omega) v6 v13 v19 dv6 dv13 dv19 hO) (cwV 3 hts gX2_readsPerson_X4_settle rfl rfl rfl (by decide +kernel) ⟨Nat.le_of_ble_eq_true rfl, Nat.le_of_ble_eq_true rfl⟩) (dk_at14 hW) rfl hK hT hW hS rfl hl.1 rfl (Nat.le_of_ble_eq_true rfl) dX2_readsPerson_99 ⟨Nat.zero_le _, Nat.zero_le _⟩ (fun I25 H25 L25 hp25 hW hS => ?_)
                              obtain ⟨hF25, hO, hc25⟩ := hp25
                              have hF := dkF_call hF hF25 rfl
                              obtain ⟨f25_14_4, -⟩ := hc25
                              refine lv_iconst (v := 1) hx hb dX2_readsPerson_102 (by decide) ?_
                              exact W.zret (v := 1) (ty := .boolean) hx hb hr rfl (fun t ht hW9 => ⟨⟨1, I25, rfl, ⟨hF, hO, Or.inr (⟨dkN_sub (dkN_lit (x := 1) (1) rfl) rfl, (show dkN [(1, 90)] (I25 12 1) from dkN_sub (by rw [hF25 12 1 rfl]; exact f22_12_1) rfl), (show dkN [(1, 90)] (I25 12 2) from dkN_sub (by rw [hF25 12 2 rfl]; exact f22_12_2) rfl), (show dkN [(1, 5)] (I25 14 4) from dkN_sub f25_14_4 rfl), trivial⟩)⟩, dkW_eq ht hW⟩, hS.F ht⟩) hS.2.2 dX2_readsPerson_103
                            ·
                              exact (dkN_nil (show dkN [] v22 from dkN_eq1 dv22 (dkN_lit (x := 0) (0) rfl) (congrArg Int32.toInt c24) rfl)).elim
                    ·
                      exact (dkN_nil (show dkN [] v16 from dkN_eq1 dv16 (dkN_lit (x := 0) (0) rfl) (congrArg Int32.toInt c18) rfl)).elim
            ·
              exact (dkN_nil (show dkN [] v10 from dkN_eq1 dv10 (dkN_lit (x := 0) (0) rfl) (congrArg Int32.toInt c12) rfl)).elim
    ·
      exact (dkN_nil (show dkN [] v1 from dkN_eq1 dv1 (dkN_lit (x := 0) (0) rfl) (congrArg Int32.toInt c3) rfl)).elim
set_option maxHeartbeats 4000000 in
set_option maxRecDepth 100000 in
theorem c_X2_meets_2 (l : Launch) (g : dkG) (z : Nat) (I0 : dkI) (p0 : Int32) (dp0 : dkN [(3, 3)] p0)  (hO : dkOk I0) : Met l yX2_meets wsX2_meets (dkR 0) (dkPc g z [.ref (z + 12), .int p0] I0) (dkQi g z (fun r I1 => dkF [(12, 12, 4, 5)] I0 I1 ∧ dkOk I1 ∧ ((dkN [(0, 0)] r ∧ dkN [(0, 90)] (I1 12 4) ∧ dkN [(3, 3)] (I1 12 5) ∧ True)))) 0 0 (dkA z) := by
  refine Met.ofW (cc := cX2_meets) (maxL := 2) (ret := (some .boolean)) (by decide) rfl ?_
  intro p e s m args below meth c s₁ B hml hv
  obtain ⟨ha, hW, hK, hT⟩ := hv
  have hx := B.exec
  have hb := B.bytes
  have hr := B.returns
  have hts := atoms_spec (ws := wsX2_meets) B.pre
  have hown : s.vm.findClass RX2 = some m.cls := findClass_of_methodNamed B.named
  have hlocks := B.notSynchronized
  have hS : va_S (dkA z) s.heap s.heap [] := va_S.rf
  have hF : dkF [(12, 12, 4, 5)] I0 I0 := dkF_rf _ _
  have hl := lv_entry ([.ref (z + 12), .int p0]) (n := 2) (Nat.le_of_ble_eq_true rfl)
  have hgo : entryFrame m args 2 = entryFrame m ([.ref (z + 12), .int p0] : List Value).toArray 2 := by rw [ha]
  rw [hgo, lg_entry_eq]
  generalize (lg_sl ([.ref (z + 12), .int p0]) ++ List.replicate (2 - (lg_sl ([.ref (z + 12), .int p0])).length) Slot.unset).toArray = ls at hl ⊢
  have hl : lv_has ls 2 [(0, .ref (z + 12)), (1, .int p0)] := hl
  refine lv_aload_n hx hb dX2_meets_0 rfl (lv_at hl 0 rfl) ?_
  refine lv_aload_n hx hb dX2_meets_1 rfl (lv_at hl 0 rfl) ?_
  refine dk_get (k := 12) hx hb hts iX2_meets_2 hown hK (dk_at12 hW) rfl 2 (by decide) (hts (.fieldLink RX2 30 "DogKings$Reader" "at" "I") (List.mem_of_getElem? (i := 1) rfl)) rfl dX2_meets_2 ?_
  refine lv_topi (fun v1 ev1 => ?_)
  have dv1 : dkN [(0, 90)] v1 := by rw [ev1]; exact (hO 12 2)
  refine dk_put (k := 12) hx hb hts iX2_meets_2 tyX2 tyX2_ok nmX2 hown hK hW (dk_at12 hW) hS rfl 4 (by decide) (hts (.fieldLink RX2 88 "DogKings$Reader" "faultPlace" "I") (List.mem_of_getElem? (i := 2) rfl)) rfl rfl (Nat.le_of_ble_eq_true rfl) rfl dX2_meets_5 (fun I2 H2 L2 eI2 hW hS => ?_)
  have eI2 : I2 = dkU I0 12 4 v1 := eI2
  have hO := dkO_set hO eI2 (dkN_sub dv1 rfl)
  have hF := dkF_set hF eI2 rfl
  refine lv_aload_n hx hb dX2_meets_8 rfl (lv_at hl 0 rfl) ?_
  refine lv_iload_n hx hb dX2_meets_9 rfl (lv_at hl 1 rfl) ?_
  refine dk_put (k := 12) hx hb hts iX2_meets_2 tyX2 tyX2_ok nmX2 hown hK hW (dk_at12 hW) hS rfl 5 (by decide) (hts (.fieldLink RX2 91 "DogKings$Reader" "faultNumber" "I") (List.mem_of_getElem? (i := 3) rfl)) rfl rfl (Nat.le_of_ble_eq_true rfl) rfl dX2_meets_10 (fun I3 H3 L3 eI3 hW hS => ?_)
  have eI3 : I3 = dkU I2 12 5 p0 := eI3
  have hO := dkO_set hO eI3 (dkN_sub dp0 rfl)
  have hF := dkF_set hF eI3 rfl
  refine lv_iconst (v := 0) hx hb dX2_meets_13 (by decide) ?_
  exact W.zret (v := 0) (ty := .boolean) hx hb hr rfl (fun t ht hW9 => ⟨⟨0, I3, rfl, ⟨hF, hO, ⟨dkN_sub (dkN_lit (x := 0) (0) rfl) rfl, (show dkN [(0, 90)] (I3 12 4) from dkN_sub (by rw [eI3, dkU_sn (by decide)]; exact (by rw [eI2, dkU_ss]; exact dv1)) rfl), (show dkN [(3, 3)] (I3 12 5) from dkN_sub (by rw [eI3, dkU_ss]; exact dp0) rfl), trivial⟩⟩, dkW_eq ht hW⟩, hS.F ht⟩) hS.2.2 dX2_meets_14
set_option maxHeartbeats 4000000 in
set_option maxRecDepth 100000 in
theorem c_X2_readsPeople_0 (l : Launch) (g : dkG) (z : Nat) (I0 : dkI)  (hO : dkOk I0) : Met l yX2_readsPeople wsX2_readsPeople (dkR 3) (dkPc g z [.ref (z + 12)] I0) (dkQi g z (fun r I1 => dkF [(12, 12, 2, 2), (12, 12, 4, 5), (14, 14, 4, 4), (15, 15, 0, 4), (16, 16, 0, 4), (17, 17, 0, 4), (18, 18, 0, 4), (19, 19, 0, 4), (20, 20, 0, 4)] I0 I1 ∧ dkOk I1 ∧ ((dkN [(0, 0)] r ∧ dkN [(0, 90)] (I1 12 4) ∧ dkN [(1, 3)] (I1 12 5) ∧ True) ∨ (dkN [(1, 1)] r ∧ dkN [(1, 90)] (I1 12 1) ∧ dkN [(1, 5)] (I1 14 4) ∧ True)))) 0 0 (dkA z) := by
  refine Met.ofW (cc := cX2_readsPeople) (maxL := 2) (ret := (some .boolean)) (by decide) rfl ?_
  intro p e s m args below meth c s₁ B hml hv
  obtain ⟨ha, hW, hK, hT⟩ := hv
  have hx := B.exec
  have hb := B.bytes
  have hr := B.returns
  have hts := atoms_spec (ws := wsX2_readsPeople) B.pre
  have hown : s.vm.findClass RX2 = some m.cls := findClass_of_methodNamed B.named
  have hlocks := B.notSynchronized
  have hS : va_S (dkA z) s.heap s.heap [] := va_S.rf
  have hF : dkF [(12, 12, 2, 2), (12, 12, 4, 5), (14, 14, 4, 4), (15, 15, 0, 4), (16, 16, 0, 4), (17, 17, 0, 4), (18, 18, 0, 4), (19, 19, 0, 4), (20, 20, 0, 4)] I0 I0 := dkF_rf _ _
  have hl := lv_entry ([.ref (z + 12)]) (n := 2) (Nat.le_of_ble_eq_true rfl)
  have hgo : entryFrame m args 2 = entryFrame m ([.ref (z + 12)] : List Value).toArray 2 := by rw [ha]
  rw [hgo, lg_entry_eq]
  generalize (lg_sl ([.ref (z + 12)]) ++ List.replicate (2 - (lg_sl ([.ref (z + 12)])).length) Slot.unset).toArray = ls at hl ⊢
  have hl : lv_has ls 2 [(0, .ref (z + 12))] := hl
  have C11 : ∀ (n : Nat), ∀ (I : dkI) (H : Heap) (locs : List Loc) (ls : Array Slot) (x11_1 : Int32), (90 - x11_1.toInt).toNat < n → dkW g z I H → va_S (dkA z) s.heap H locs → dkF [(12, 12, 2, 2), (12, 12, 4, 5), (14, 14, 4, 4), (15, 15, 0, 4), (16, 16, 0, 4), (17, 17, 0, 4), (18, 18, 0, 4), (19, 19, 0, 4), (20, 20, 0, 4)] I0 I → dkOk I → dkN [(0, 90)] x11_1 → dkN [(1, 90)] (I 12 1) → dkN [(1, 90)] (I 12 2) → dkN [(1, 5)] (I 14 4) → lv_has ls 2 [(0, .ref (z + 12)), (1, .int x11_1)] → W p l e (headSpec wsX2_readsPeople (dkR 3)).room s m args below meth c H locs 0 0 (MQ below (dkQi g z (fun r I1 => dkF [(12, 12, 2, 2), (12, 12, 4, 5), (14, 14, 4, 4), (15, 15, 0, 4), (16, 16, 0, 4), (17, 17, 0, 4), (18, 18, 0, 4), (19, 19, 0, 4), (20, 20, 0, 4)] I0 I1 ∧ dkOk I1 ∧ ((dkN [(0, 0)] r ∧ dkN [(0, 90)] (I1 12 4) ∧ dkN [(1, 3)] (I1 12 5) ∧ True) ∨ (dkN [(1, 1)] r ∧ dkN [(1, 90)] (I1 12 1) ∧ dkN [(1, 5)] (I1 14 4) ∧ True)))) args s 0 0 (dkA z)) (F0 m 11 ls []) := by
    intro n
    induction n with
    | zero => intro I H locs ls x11_1 hn; exact absurd hn (Nat.not_lt_zero _)
    | succ n ih11 =>
      intro I11_ H locs ls x11_1 hn11 hW hS hF_11 hO k11_0 f11_0 f11_1 f11_2 hl
      have hF := hF_11
      refine lv_iload_n hx hb dX2_readsPeople_11 rfl (lv_at hl 1 rfl) ?_
      refine lv_bipush (v := 90) hx hb dX2_readsPeople_12 (by decide) ?_
      refine lv_icmp_ge (tgt := 58) hx hb dX2_readsPeople_14 (by decide) (fun c1 => ?_) (fun c1 => ?_)
      ·
        have d2 : dkN [(90, 90)] x11_1 := dkN_le2 0 (dkN_lit (x := 90) (90) rfl) k11_0 (dkc_le c1) rfl
        refine lv_iconst (v := 1) hx hb dX2_readsPeople_58 (by decide) ?_
        exact W.zret (v := 1) (ty := .boolean) hx hb hr rfl (fun t ht hW9 => ⟨⟨1, I11_, rfl, ⟨hF, hO, Or.inr (⟨dkN_sub (dkN_lit (x := 1) (1) rfl) rfl, (show dkN [(1, 90)] (I11_ 12 1) from dkN_sub f11_0 rfl), (show dkN [(1, 5)] (I11_ 14 4) from dkN_sub f11_2 rfl), trivial⟩)⟩, dkW_eq ht hW⟩, hS.F ht⟩) hS.2.2 dX2_readsPeople_59
      ·
        have d3 : dkN [(0, 89)] x11_1 := dkN_le1 1 k11_0 (dkN_lit (x := 90) (90) rfl) (dkc_nle c1) rfl
        refine lv_aload_n hx hb dX2_readsPeople_17 rfl (lv_at hl 0 rfl) ?_
        refine dk_Vi (As := []) (rest := []) ⟨hx, hb, hml, hown, hts⟩ (c_X2_coming_0 l g z I11_ hO) (cwV 0 hts gX2_readsPeople_X2_coming rfl rfl rfl (by decide +kernel) ⟨Nat.le_of_ble_eq_true rfl, Nat.le_of_ble_eq_true rfl⟩) (dk_at12 hW) rfl hK hT hW hS rfl hl.1 rfl (Nat.le_of_ble_eq_true rfl) dX2_readsPeople_18 ⟨Nat.zero_le _, Nat.zero_le _⟩ (fun v4 I4 H4 L4 hp4 hW hS => ?_)
        obtain ⟨hF4, hO, hc4⟩ := hp4
        have hF := dkF_call hF hF4 rfl
        rcases hc4 with ⟨dv4, -⟩ | hc4
        ·
          refine lv_bipush (v := 109) hx hb dX2_readsPeople_21 (by decide) ?_
          refine lv_icmp_ne (tgt := 58) hx hb dX2_readsPeople_23 (by decide) (fun c5 => ?_) (fun c5 => ?_)
          ·
            refine lv_iconst (v := 1) hx hb dX2_readsPeople_58 (by decide) ?_
            exact W.zret (v := 1) (ty := .boolean) hx hb hr rfl (fun t ht hW9 => ⟨⟨1, I4, rfl, ⟨hF, hO, Or.inr (⟨dkN_sub (dkN_lit (x := 1) (1) rfl) rfl, (show dkN [(1, 90)] (I4 12 1) from dkN_sub (by rw [hF4 12 1 rfl]; exact f11_0) rfl), (show dkN [(1, 5)] (I4 14 4) from dkN_sub (by rw [hF4 14 4 rfl]; exact f11_2) rfl), trivial⟩)⟩, dkW_eq ht hW⟩, hS.F ht⟩) hS.2.2 dX2_readsPeople_59
          ·
            exact (dkN_nil (show dkN [] v4 from dkN_eq1 dv4 (dkN_lit (x := 109) (109) rfl) (congrArg Int32.toInt c5) rfl)).elim
        ·
          obtain ⟨dv4, f4_12_1, f4_12_2, -⟩ := hc4
          refine lv_bipush (v := 109) hx hb dX2_readsPeople_21 (by decide) ?_
          refine lv_icmp_ne (tgt := 58) hx hb dX2_readsPeople_23 (by decide) (fun c6 => ?_) (fun c6 => ?_)
          ·
            have d7 : dkN [(0, 108), (110, 255)] v4 := dkN_ne1 (109) dv4 (dkN_lit (x := 109) (109) rfl) (dk_ne c6) rfl
            refine lv_iconst (v := 1) hx hb dX2_readsPeople_58 (by decide) ?_
            exact W.zret (v := 1) (ty := .boolean) hx hb hr rfl (fun t ht hW9 => ⟨⟨1, I4, rfl, ⟨hF, hO, Or.inr (⟨dkN_sub (dkN_lit (x := 1) (1) rfl) rfl, (show dkN [(1, 90)] (I4 12 1) from dkN_sub f4_12_1 rfl), (show dkN [(1, 5)] (I4 14 4) from dkN_sub (by rw [hF4 14 4 rfl]; exact f11_2) rfl), trivial⟩)⟩, dkW_eq ht hW⟩, hS.F ht⟩) hS.2.2 dX2_readsPeople_59
          ·
            have d8 : dkN [(109, 109)] v4 := dkN_eq1 dv4 (dkN_lit (x := 109) (109) rfl) (congrArg Int32.toInt c6) rfl
            refine lv_aload_n hx hb dX2_readsPeople_26 rfl (lv_at hl 0 rfl) ?_
            refine dk_get (k := 12) hx hb hts iX2_readsPeople_2 hown hK (dk_at12 hW) rfl 3 (by decide) (hts (.fieldLink RX2 18 "DogKings$Reader" "draft" "LDogKings$Town;") (List.mem_of_getElem? (i := 1) rfl)) rfl dX2_readsPeople_27 ?_
            refine dk_get (k := 14) hx hb hts iX2_readsPeople_4 hown hK (dk_at14 hW) rfl 4 (by decide) (hts (.fieldLink RX2 62 "DogKings$Town" "people" "I") (List.mem_of_getElem? (i := 2) rfl)) rfl dX2_readsPeople_30 ?_
            refine lv_topi (fun v9 ev9 => ?_)
            have dv9 : dkN [(1, 5)] v9 := by rw [ev9]; exact (by rw [hF4 14 4 rfl]; exact f11_2)
            refine lv_iconst (v := 5) hx hb dX2_readsPeople_33 (by decide) ?_
            refine lv_icmp_lt (tgt := 43) hx hb dX2_readsPeople_34 (by decide) (fun c10 => ?_) (fun c10 => ?_)
            ·
              have d11 : dkN [(1, 4)] v9 := dkN_le1 1 dv9 (dkN_lit (x := 5) (5) rfl) (dkc_lt c10) rfl
              have f12 : dkN [(1, 4)] (I4 14 4) := by rw [← ev9]; exact d11
              refine lv_aload_n hx hb dX2_readsPeople_43 rfl (lv_at hl 0 rfl) ?_
              refine dk_Vi (As := []) (rest := []) ⟨hx, hb, hml, hown, hts⟩ (c_X2_readsPerson_0 l g z I4 hO) (cwV 0 hts gX2_readsPeople_X2_readsPerson rfl rfl rfl (by decide +kernel) ⟨Nat.le_of_ble_eq_true rfl, Nat.le_of_ble_eq_true rfl⟩) (dk_at12 hW) rfl hK hT hW hS rfl hl.1 rfl (Nat.le_of_ble_eq_true rfl) dX2_readsPeople_44 ⟨Nat.zero_le _, Nat.zero_le _⟩ (fun v13 I13 H13 L13 hp13 hW hS => ?_)
              obtain ⟨hF13, hO, hc13⟩ := hp13
              have hF := dkF_call hF hF13 rfl
              rcases hc13 with ⟨dv13, f13_12_4, f13_12_5, -⟩ | hc13
              ·
                refine lv_if_ne (tgt := 52) hx hb dX2_readsPeople_47 (by decide) (fun c14 => ?_) (fun c14 => ?_)
                ·
                  exact (dkN_nil (show dkN [] v13 from dkN_ne1 (0) dv13 (dkN_lit (x := 0) (0) rfl) (dk_ne c14) rfl)).elim
                ·
                  refine lv_iconst (v := 0) hx hb dX2_readsPeople_50 (by decide) ?_
                  exact W.zret (v := 0) (ty := .boolean) hx hb hr rfl (fun t ht hW9 => ⟨⟨0, I13, rfl, ⟨hF, hO, Or.inl ⟨dkN_sub (dkN_lit (x := 0) (0) rfl) rfl, (show dkN [(0, 90)] (I13 12 4) from dkN_sub f13_12_4 rfl), (show dkN [(1, 3)] (I13 12 5) from dkN_sub f13_12_5 rfl), trivial⟩⟩, dkW_eq ht hW⟩, hS.F ht⟩) hS.2.2 dX2_readsPeople_51
              ·
                obtain ⟨dv13, f13_12_1, f13_12_2, f13_14_4, -⟩ := hc13
                refine lv_if_ne (tgt := 52) hx hb dX2_readsPeople_47 (by decide) (fun c15 => ?_) (fun c15 => ?_)
                ·
                  obtain ⟨v16, ev16⟩ : ∃ y : Int32, y = x11_1 + 1 := ⟨_, rfl⟩
                  have dv16 : dkN [(1, 90)] v16 := by rw [ev16]; exact dkN_add d3 (dkN_lit (x := 1) (1) rfl) rfl
                  refine lv_iinc (v := v16) (lv' := [(1, .int v16), (0, .ref (z + 12))]) hx hb dX2_readsPeople_52 hl (k := 1) rfl (by rw [ev16]; rfl) (by decide) rfl (fun ls hl => ?_)
                  refine lv_goto (tgt := 11) hx hb dX2_readsPeople_55 (by decide) ?_
                  exact ih11 I13 _ _ ls v16 (dk_near hn11 (by rw [ev16]; exact dk_inc d3 rfl) (dkN_lt d3 rfl)) hW hS hF hO (dkN_sub dv16 rfl) (show dkN [(1, 90)] (I13 12 1) from dkN_sub f13_12_1 rfl) (show dkN [(1, 90)] (I13 12 2) from dkN_sub f13_12_2 rfl) (show dkN [(1, 5)] (I13 14 4) from dkN_sub f13_14_4 rfl) (lv_sub hl [1, 0] rfl)
                ·
                  exact (dkN_nil (show dkN [] v13 from dkN_eq1 dv13 (dkN_lit (x := 0) (0) rfl) (congrArg Int32.toInt c15) rfl)).elim
            ·
              have d17 : dkN [(5, 5)] v9 := dkN_le2 0 (dkN_lit (x := 5) (5) rfl) dv9 (dkc_nlt c10) rfl
              have f18 : dkN [(5, 5)] (I4 14 4) := by rw [← ev9]; exact d17
              refine lv_aload_n hx hb dX2_readsPeople_37 rfl (lv_at hl 0 rfl) ?_
              refine lv_iconst (v := 3) hx hb dX2_readsPeople_38 (by decide) ?_
              refine dk_Vi (As := [.int 3]) (rest := []) ⟨hx, hb, hml, hown, hts⟩ (c_X2_meets_2 l g z I4 3 (dkN_lit (x := 3) (3) rfl) hO) (cwV 1 hts gX2_readsPeople_X2_meets rfl rfl rfl (by decide +kernel) ⟨Nat.le_of_ble_eq_true rfl, Nat.le_of_ble_eq_true rfl⟩) (dk_at12 hW) rfl hK hT hW hS rfl hl.1 rfl (Nat.le_of_ble_eq_true rfl) dX2_readsPeople_39 ⟨Nat.zero_le _, Nat.zero_le _⟩ (fun v19 I19 H19 L19 hp19 hW hS => ?_)
              obtain ⟨hF19, hO, hc19⟩ := hp19
              have hF := dkF_call hF hF19 rfl
              obtain ⟨dv19, f19_12_4, f19_12_5, -⟩ := hc19
              exact W.zret (v := v19) (ty := .boolean) hx hb hr (dkN_zr dv19 rfl) (fun t ht hW9 => ⟨⟨v19, I19, rfl, ⟨hF, hO, Or.inl ⟨dkN_sub dv19 rfl, (show dkN [(0, 90)] (I19 12 4) from dkN_sub f19_12_4 rfl), (show dkN [(1, 3)] (I19 12 5) from dkN_sub f19_12_5 rfl), trivial⟩⟩, dkW_eq ht hW⟩, hS.F ht⟩) hS.2.2 dX2_readsPeople_42
  refine lv_aload_n hx hb dX2_readsPeople_0 rfl (lv_at hl 0 rfl) ?_
  refine dk_Vi (As := []) (rest := []) ⟨hx, hb, hml, hown, hts⟩ (c_X2_readsPerson_0 l g z I0 hO) (cwV 0 hts gX2_readsPeople_X2_readsPerson rfl rfl rfl (by decide +kernel) ⟨Nat.le_of_ble_eq_true rfl, Nat.le_of_ble_eq_true rfl⟩) (dk_at12 hW) rfl hK hT hW hS rfl hl.1 rfl (Nat.le_of_ble_eq_true rfl) dX2_readsPeople_1 ⟨Nat.zero_le _, Nat.zero_le _⟩ (fun v20 I20 H20 L20 hp20 hW hS => ?_)
  obtain ⟨hF20, hO, hc20⟩ := hp20
  have hF := dkF_call hF hF20 rfl
  rcases hc20 with ⟨dv20, f20_12_4, f20_12_5, -⟩ | hc20
  ·
    refine lv_if_ne (tgt := 9) hx hb dX2_readsPeople_4 (by decide) (fun c21 => ?_) (fun c21 => ?_)
    ·
      exact (dkN_nil (show dkN [] v20 from dkN_ne1 (0) dv20 (dkN_lit (x := 0) (0) rfl) (dk_ne c21) rfl)).elim
    ·
      refine lv_iconst (v := 0) hx hb dX2_readsPeople_7 (by decide) ?_
      exact W.zret (v := 0) (ty := .boolean) hx hb hr rfl (fun t ht hW9 => ⟨⟨0, I20, rfl, ⟨hF, hO, Or.inl ⟨dkN_sub (dkN_lit (x := 0) (0) rfl) rfl, (show dkN [(0, 90)] (I20 12 4) from dkN_sub f20_12_4 rfl), (show dkN [(1, 3)] (I20 12 5) from dkN_sub f20_12_5 rfl), trivial⟩⟩, dkW_eq ht hW⟩, hS.F ht⟩) hS.2.2 dX2_readsPeople_8
  ·
    obtain ⟨dv20, f20_12_1, f20_12_2, f20_14_4, -⟩ := hc20
    refine lv_if_ne (tgt := 9) hx hb dX2_readsPeople_4 (by decide) (fun c22 => ?_) (fun c22 => ?_)
    ·
      refine lv_iconst (v := 0) hx hb dX2_readsPeople_9 (by decide) ?_
      refine lv_istore_n (lv' := [(1, .int 0), (0, .ref (z + 12))]) hx hb dX2_readsPeople_10 rfl hl (by decide) rfl (fun ls hl => ?_)
      exact C11 _ I20 _ _ ls 0 (Nat.lt_succ_self _) hW hS hF hO (dkN_sub (dkN_lit (x := 0) (0) rfl) rfl) (show dkN [(1, 90)] (I20 12 1) from dkN_sub f20_12_1 rfl) (show dkN [(1, 90)] (I20 12 2) from dkN_sub f20_12_2 rfl) (show dkN [(1, 5)] (I20 14 4) from dkN_sub f20_14_4 rfl) (lv_sub hl [1, 0] rfl)
    ·
      exact (dkN_nil (show dkN [] v20 from dkN_eq1 dv20 (dkN_lit (x := 0) (0) rfl) (congrArg Int32.toInt c22) rfl)).elim
set_option maxHeartbeats 4000000 in
set_option maxRecDepth 100000 in
theorem c_X2_sortOf_0 (l : Launch) (g : dkG) (z : Nat) (I0 : dkI) (p0 : Int32) (dp0 : dkN [(-1000000, -1000000)] p0)  (hO : dkOk I0) : Met l yX2_sortOf wsX2_sortOf (dkR 0) (dkPc g z [.int p0] I0) (dkQi g z (fun r I1 => dkF [] I0 I1 ∧ dkOk I1 ∧ ((dkN [(-1000000, -1000000)] r ∧ True)))) 0 0 (dkA z) := by
  refine Met.ofW (cc := cX2_sortOf) (maxL := 1) (ret := (some .int)) (by decide) rfl ?_
  intro p e s m args below meth c s₁ B hml hv
  obtain ⟨ha, hW, hK, hT⟩ := hv
  have hx := B.exec
  have hb := B.bytes
  have hr := B.returns
  have hts := atoms_spec (ws := wsX2_sortOf) B.pre
  have hown : s.vm.findClass RX2 = some m.cls := findClass_of_methodNamed B.named
  have hlocks := B.notSynchronized
  have hS : va_S (dkA z) s.heap s.heap [] := va_S.rf
  have hF : dkF [] I0 I0 := dkF_rf _ _
  have hl := lv_entry ([.int p0]) (n := 1) (Nat.le_of_ble_eq_true rfl)
  have hgo : entryFrame m args 1 = entryFrame m ([.int p0] : List Value).toArray 1 := by rw [ha]
  rw [hgo, lg_entry_eq]
  generalize (lg_sl ([.int p0]) ++ List.replicate (1 - (lg_sl ([.int p0])).length) Slot.unset).toArray = ls at hl ⊢
  have hl : lv_has ls 1 [(0, .int p0)] := hl
  refine lv_iload_n hx hb dX2_sortOf_0 rfl (lv_at hl 0 rfl) ?_
  refine lv_tableOut (tgt := 78) hx hb dX2_sortOf_1 (dkN_out dp0 rfl) (by decide) ?_
  refine lv_ldc (v := (-1000000)) hx hb hown (hts (.constant RX2 50 (-1000000)) (List.mem_of_getElem? (i := 1) rfl)) dX2_sortOf_78 ?_
  exact W.iret (v := (-1000000)) hx hb hr (fun t ht hW9 => ⟨⟨(-1000000), I0, rfl, ⟨hF, hO, ⟨dkN_sub (dkN_lit (x := (-1000000)) (-1000000) rfl) rfl, trivial⟩⟩, dkW_eq ht hW⟩, hS.F ht⟩) hS.2.2 dX2_sortOf_80
set_option maxHeartbeats 4000000 in
set_option maxRecDepth 100000 in
theorem c_X2_sortOf_1 (l : Launch) (g : dkG) (z : Nat) (I0 : dkI) (p0 : Int32) (dp0 : dkN [(0, 255)] p0)  (hO : dkOk I0) : Met l yX2_sortOf wsX2_sortOf (dkR 0) (dkPc g z [.int p0] I0) (dkQi g z (fun r I1 => dkF [] I0 I1 ∧ dkOk I1 ∧ ((dkN [(-1000000, -1000000), (1, 5)] r ∧ True)))) 0 0 (dkA z) := by
  refine Met.ofW (cc := cX2_sortOf) (maxL := 1) (ret := (some .int)) (by decide) rfl ?_
  intro p e s m args below meth c s₁ B hml hv
  obtain ⟨ha, hW, hK, hT⟩ := hv
  have hx := B.exec
  have hb := B.bytes
  have hr := B.returns
  have hts := atoms_spec (ws := wsX2_sortOf) B.pre
  have hown : s.vm.findClass RX2 = some m.cls := findClass_of_methodNamed B.named
  have hlocks := B.notSynchronized
  have hS : va_S (dkA z) s.heap s.heap [] := va_S.rf
  have hF : dkF [] I0 I0 := dkF_rf _ _
  have hl := lv_entry ([.int p0]) (n := 1) (Nat.le_of_ble_eq_true rfl)
  have hgo : entryFrame m args 1 = entryFrame m ([.int p0] : List Value).toArray 1 := by rw [ha]
  rw [hgo, lg_entry_eq]
  generalize (lg_sl ([.int p0]) ++ List.replicate (1 - (lg_sl ([.int p0])).length) Slot.unset).toArray = ls at hl ⊢
  have hl : lv_has ls 1 [(0, .int p0)] := hl
  refine lv_iload_n hx hb dX2_sortOf_0 rfl (lv_at hl 0 rfl) ?_
  by_cases c1 : p0 = 104
  ·
    have qc1 : p0.toInt = 104 := by rw [c1]; rfl
    have d2 : dkN [(104, 104)] p0 := dkN_lit (104) qc1
    refine lv_tableIn (tgt := 68) hx hb dX2_sortOf_1 (by rw [qc1]; decide) (by rw [qc1]; decide) (by rw [qc1]; rfl) (by decide) ?_
    refine lv_iconst (v := 1) hx hb dX2_sortOf_68 (by decide) ?_
    exact W.iret (v := 1) hx hb hr (fun t ht hW9 => ⟨⟨1, I0, rfl, ⟨hF, hO, ⟨dkN_sub (dkN_lit (x := 1) (1) rfl) rfl, trivial⟩⟩, dkW_eq ht hW⟩, hS.F ht⟩) hS.2.2 dX2_sortOf_69
  ·
    have d3 : dkN [(0, 103), (105, 255)] p0 := dkN_ne1 (104) dp0 (dkN_lit (x := 104) (104) rfl) (dk_ne c1) rfl
    by_cases c4 : p0 = 105
    ·
      have qc4 : p0.toInt = 105 := by rw [c4]; rfl
      have d5 : dkN [(105, 105)] p0 := dkN_lit (105) qc4
      refine lv_tableIn (tgt := 78) hx hb dX2_sortOf_1 (by rw [qc4]; decide) (by rw [qc4]; decide) (by rw [qc4]; rfl) (by decide) ?_
      refine lv_ldc (v := (-1000000)) hx hb hown (hts (.constant RX2 50 (-1000000)) (List.mem_of_getElem? (i := 1) rfl)) dX2_sortOf_78 ?_
      exact W.iret (v := (-1000000)) hx hb hr (fun t ht hW9 => ⟨⟨(-1000000), I0, rfl, ⟨hF, hO, ⟨dkN_sub (dkN_lit (x := (-1000000)) (-1000000) rfl) rfl, trivial⟩⟩, dkW_eq ht hW⟩, hS.F ht⟩) hS.2.2 dX2_sortOf_80
    ·
      have d6 : dkN [(0, 103), (106, 255)] p0 := dkN_ne1 (105) d3 (dkN_lit (x := 105) (105) rfl) (dk_ne c4) rfl
      by_cases c7 : p0 = 106
      ·
        have qc7 : p0.toInt = 106 := by rw [c7]; rfl
        have d8 : dkN [(106, 106)] p0 := dkN_lit (106) qc7
        refine lv_tableIn (tgt := 78) hx hb dX2_sortOf_1 (by rw [qc7]; decide) (by rw [qc7]; decide) (by rw [qc7]; rfl) (by decide) ?_
        refine lv_ldc (v := (-1000000)) hx hb hown (hts (.constant RX2 50 (-1000000)) (List.mem_of_getElem? (i := 1) rfl)) dX2_sortOf_78 ?_
        exact W.iret (v := (-1000000)) hx hb hr (fun t ht hW9 => ⟨⟨(-1000000), I0, rfl, ⟨hF, hO, ⟨dkN_sub (dkN_lit (x := (-1000000)) (-1000000) rfl) rfl, trivial⟩⟩, dkW_eq ht hW⟩, hS.F ht⟩) hS.2.2 dX2_sortOf_80
      ·
        have d9 : dkN [(0, 103), (107, 255)] p0 := dkN_ne1 (106) d6 (dkN_lit (x := 106) (106) rfl) (dk_ne c7) rfl
        by_cases c10 : p0 = 107
        ·
          have qc10 : p0.toInt = 107 := by rw [c10]; rfl
          have d11 : dkN [(107, 107)] p0 := dkN_lit (107) qc10
          refine lv_tableIn (tgt := 74) hx hb dX2_sortOf_1 (by rw [qc10]; decide) (by rw [qc10]; decide) (by rw [qc10]; rfl) (by decide) ?_
          refine lv_iconst (v := 4) hx hb dX2_sortOf_74 (by decide) ?_
          exact W.iret (v := 4) hx hb hr (fun t ht hW9 => ⟨⟨4, I0, rfl, ⟨hF, hO, ⟨dkN_sub (dkN_lit (x := 4) (4) rfl) rfl, trivial⟩⟩, dkW_eq ht hW⟩, hS.F ht⟩) hS.2.2 dX2_sortOf_75
        ·
          have d12 : dkN [(0, 103), (108, 255)] p0 := dkN_ne1 (107) d9 (dkN_lit (x := 107) (107) rfl) (dk_ne c10) rfl
          by_cases c13 : p0 = 108
          ·
            have qc13 : p0.toInt = 108 := by rw [c13]; rfl
            have d14 : dkN [(108, 108)] p0 := dkN_lit (108) qc13
            refine lv_tableIn (tgt := 78) hx hb dX2_sortOf_1 (by rw [qc13]; decide) (by rw [qc13]; decide) (by rw [qc13]; rfl) (by decide) ?_
            refine lv_ldc (v := (-1000000)) hx hb hown (hts (.constant RX2 50 (-1000000)) (List.mem_of_getElem? (i := 1) rfl)) dX2_sortOf_78 ?_
            exact W.iret (v := (-1000000)) hx hb hr (fun t ht hW9 => ⟨⟨(-1000000), I0, rfl, ⟨hF, hO, ⟨dkN_sub (dkN_lit (x := (-1000000)) (-1000000) rfl) rfl, trivial⟩⟩, dkW_eq ht hW⟩, hS.F ht⟩) hS.2.2 dX2_sortOf_80
          ·
            have d15 : dkN [(0, 103), (109, 255)] p0 := dkN_ne1 (108) d12 (dkN_lit (x := 108) (108) rfl) (dk_ne c13) rfl
            by_cases c16 : p0 = 109
            ·
              have qc16 : p0.toInt = 109 := by rw [c16]; rfl
              have d17 : dkN [(109, 109)] p0 := dkN_lit (109) qc16
              refine lv_tableIn (tgt := 78) hx hb dX2_sortOf_1 (by rw [qc16]; decide) (by rw [qc16]; decide) (by rw [qc16]; rfl) (by decide) ?_
              refine lv_ldc (v := (-1000000)) hx hb hown (hts (.constant RX2 50 (-1000000)) (List.mem_of_getElem? (i := 1) rfl)) dX2_sortOf_78 ?_
              exact W.iret (v := (-1000000)) hx hb hr (fun t ht hW9 => ⟨⟨(-1000000), I0, rfl, ⟨hF, hO, ⟨dkN_sub (dkN_lit (x := (-1000000)) (-1000000) rfl) rfl, trivial⟩⟩, dkW_eq ht hW⟩, hS.F ht⟩) hS.2.2 dX2_sortOf_80
            ·
              have d18 : dkN [(0, 103), (110, 255)] p0 := dkN_ne1 (109) d15 (dkN_lit (x := 109) (109) rfl) (dk_ne c16) rfl
              by_cases c19 : p0 = 110
              ·
                have qc19 : p0.toInt = 110 := by rw [c19]; rfl
                have d20 : dkN [(110, 110)] p0 := dkN_lit (110) qc19
                refine lv_tableIn (tgt := 78) hx hb dX2_sortOf_1 (by rw [qc19]; decide) (by rw [qc19]; decide) (by rw [qc19]; rfl) (by decide) ?_
                refine lv_ldc (v := (-1000000)) hx hb hown (hts (.constant RX2 50 (-1000000)) (List.mem_of_getElem? (i := 1) rfl)) dX2_sortOf_78 ?_
                exact W.iret (v := (-1000000)) hx hb hr (fun t ht hW9 => ⟨⟨(-1000000), I0, rfl, ⟨hF, hO, ⟨dkN_sub (dkN_lit (x := (-1000000)) (-1000000) rfl) rfl, trivial⟩⟩, dkW_eq ht hW⟩, hS.F ht⟩) hS.2.2 dX2_sortOf_80
              ·
                have d21 : dkN [(0, 103), (111, 255)] p0 := dkN_ne1 (110) d18 (dkN_lit (x := 110) (110) rfl) (dk_ne c19) rfl
                by_cases c22 : p0 = 111
                ·
                  have qc22 : p0.toInt = 111 := by rw [c22]; rfl
                  have d23 : dkN [(111, 111)] p0 := dkN_lit (111) qc22
                  refine lv_tableIn (tgt := 78) hx hb dX2_sortOf_1 (by rw [qc22]; decide) (by rw [qc22]; decide) (by rw [qc22]; rfl) (by decide) ?_
                  refine lv_ldc (v := (-1000000)) hx hb hown (hts (.constant RX2 50 (-1000000)) (List.mem_of_getElem? (i := 1) rfl)) dX2_sortOf_78 ?_
                  exact W.iret (v := (-1000000)) hx hb hr (fun t ht hW9 => ⟨⟨(-1000000), I0, rfl, ⟨hF, hO, ⟨dkN_sub (dkN_lit (x := (-1000000)) (-1000000) rfl) rfl, trivial⟩⟩, dkW_eq ht hW⟩, hS.F ht⟩) hS.2.2 dX2_sortOf_80
                ·
                  have d24 : dkN [(0, 103), (112, 255)] p0 := dkN_ne1 (111) d21 (dkN_lit (x := 111) (111) rfl) (dk_ne c22) rfl
                  by_cases c25 : p0 = 112
                  ·
                    have qc25 : p0.toInt = 112 := by rw [c25]; rfl
                    have d26 : dkN [(112, 112)] p0 := dkN_lit (112) qc25
                    refine lv_tableIn (tgt := 72) hx hb dX2_sortOf_1 (by rw [qc25]; decide) (by rw [qc25]; decide) (by rw [qc25]; rfl) (by decide) ?_
                    refine lv_iconst (v := 3) hx hb dX2_sortOf_72 (by decide) ?_
                    exact W.iret (v := 3) hx hb hr (fun t ht hW9 => ⟨⟨3, I0, rfl, ⟨hF, hO, ⟨dkN_sub (dkN_lit (x := 3) (3) rfl) rfl, trivial⟩⟩, dkW_eq ht hW⟩, hS.F ht⟩) hS.2.2 dX2_sortOf_73
                  ·
                    have d27 : dkN [(0, 103), (113, 255)] p0 := dkN_ne1 (112) d24 (dkN_lit (x := 112) (112) rfl) (dk_ne c25) rfl
                    by_cases c28 : p0 = 113
                    ·
                      have qc28 : p0.toInt = 113 := by rw [c28]; rfl
                      have d29 : dkN [(113, 113)] p0 := dkN_lit (113) qc28
                      refine lv_tableIn (tgt := 78) hx hb dX2_sortOf_1 (by rw [qc28]; decide) (by rw [qc28]; decide) (by rw [qc28]; rfl) (by decide) ?_
                      refine lv_ldc (v := (-1000000)) hx hb hown (hts (.constant RX2 50 (-1000000)) (List.mem_of_getElem? (i := 1) rfl)) dX2_sortOf_78 ?_
                      exact W.iret (v := (-1000000)) hx hb hr (fun t ht hW9 => ⟨⟨(-1000000), I0, rfl, ⟨hF, hO, ⟨dkN_sub (dkN_lit (x := (-1000000)) (-1000000) rfl) rfl, trivial⟩⟩, dkW_eq ht hW⟩, hS.F ht⟩) hS.2.2 dX2_sortOf_80
                    ·
                      have d30 : dkN [(0, 103), (114, 255)] p0 := dkN_ne1 (113) d27 (dkN_lit (x := 113) (113) rfl) (dk_ne c28) rfl
                      by_cases c31 : p0 = 114
                      ·
                        have qc31 : p0.toInt = 114 := by rw [c31]; rfl
                        have d32 : dkN [(114, 114)] p0 := dkN_lit (114) qc31
                        refine lv_tableIn (tgt := 78) hx hb dX2_sortOf_1 (by rw [qc31]; decide) (by rw [qc31]; decide) (by rw [qc31]; rfl) (by decide) ?_
                        refine lv_ldc (v := (-1000000)) hx hb hown (hts (.constant RX2 50 (-1000000)) (List.mem_of_getElem? (i := 1) rfl)) dX2_sortOf_78 ?_
                        exact W.iret (v := (-1000000)) hx hb hr (fun t ht hW9 => ⟨⟨(-1000000), I0, rfl, ⟨hF, hO, ⟨dkN_sub (dkN_lit (x := (-1000000)) (-1000000) rfl) rfl, trivial⟩⟩, dkW_eq ht hW⟩, hS.F ht⟩) hS.2.2 dX2_sortOf_80
                      ·
                        have d33 : dkN [(0, 103), (115, 255)] p0 := dkN_ne1 (114) d30 (dkN_lit (x := 114) (114) rfl) (dk_ne c31) rfl
                        by_cases c34 : p0 = 115
                        ·
                          have qc34 : p0.toInt = 115 := by rw [c34]; rfl
                          have d35 : dkN [(115, 115)] p0 := dkN_lit (115) qc34
                          refine lv_tableIn (tgt := 76) hx hb dX2_sortOf_1 (by rw [qc34]; decide) (by rw [qc34]; decide) (by rw [qc34]; rfl) (by decide) ?_
                          refine lv_iconst (v := 5) hx hb dX2_sortOf_76 (by decide) ?_
                          exact W.iret (v := 5) hx hb hr (fun t ht hW9 => ⟨⟨5, I0, rfl, ⟨hF, hO, ⟨dkN_sub (dkN_lit (x := 5) (5) rfl) rfl, trivial⟩⟩, dkW_eq ht hW⟩, hS.F ht⟩) hS.2.2 dX2_sortOf_77
                        ·
                          have d36 : dkN [(0, 103), (116, 255)] p0 := dkN_ne1 (115) d33 (dkN_lit (x := 115) (115) rfl) (dk_ne c34) rfl
                          by_cases c37 : p0 = 116
                          ·
                            have qc37 : p0.toInt = 116 := by rw [c37]; rfl
                            have d38 : dkN [(116, 116)] p0 := dkN_lit (116) qc37
                            refine lv_tableIn (tgt := 70) hx hb dX2_sortOf_1 (by rw [qc37]; decide) (by rw [qc37]; decide) (by rw [qc37]; rfl) (by decide) ?_
                            refine lv_iconst (v := 2) hx hb dX2_sortOf_70 (by decide) ?_
                            exact W.iret (v := 2) hx hb hr (fun t ht hW9 => ⟨⟨2, I0, rfl, ⟨hF, hO, ⟨dkN_sub (dkN_lit (x := 2) (2) rfl) rfl, trivial⟩⟩, dkW_eq ht hW⟩, hS.F ht⟩) hS.2.2 dX2_sortOf_71
                          ·
                            have d39 : dkN [(0, 103), (117, 255)] p0 := dkN_ne1 (116) d36 (dkN_lit (x := 116) (116) rfl) (dk_ne c37) rfl
                            refine lv_tableOut (tgt := 78) hx hb dX2_sortOf_1 (dkN_out d39 rfl) (by decide) ?_
                            refine lv_ldc (v := (-1000000)) hx hb hown (hts (.constant RX2 50 (-1000000)) (List.mem_of_getElem? (i := 1) rfl)) dX2_sortOf_78 ?_
                            exact W.iret (v := (-1000000)) hx hb hr (fun t ht hW9 => ⟨⟨(-1000000), I0, rfl, ⟨hF, hO, ⟨dkN_sub (dkN_lit (x := (-1000000)) (-1000000) rfl) rfl, trivial⟩⟩, dkW_eq ht hW⟩, hS.F ht⟩) hS.2.2 dX2_sortOf_80
