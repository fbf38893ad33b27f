set_option maxHeartbeats 4000000 in
set_option maxRecDepth 100000 in
theorem c_X4_stroll_0 (l : Launch) (g : dkG) (z : Nat) (I0 : dkI) (t0 : Nat) (ht0 : dkT t0) (p0 : Int32) (dp0 : dkN [(0, 4)] p0)  (hO : dkOk I0) : Met l yX4_stroll wsX4_stroll (dkR 0) (dkPc g z [.ref (z + t0), .int p0] I0) (dkQv g z (fun I1 => dkF [(t0 + 3, t0 + 3, 0, 4), (t0 + 5, t0 + 5, 0, 4)] I0 I1 ∧ dkOk I1 ∧ ((True)))) 0 0 (dkA z) := by
  refine Met.ofW (cc := cX4_stroll) (maxL := 2) (ret := none) (by decide) rfl ?_
  intro p e s m args below meth c s₁ B hml hv
  obtain ⟨ha, hW, hK, hT⟩ := hv
  have hx := B.exec
  have hb := B.bytes
  have hr := B.returns
  have hts := atoms_spec (ws := wsX4_stroll) B.pre
  have hown : s.vm.findClass RX4 = some m.cls := findClass_of_methodNamed B.named
  have hlocks := B.notSynchronized
  have hS : va_S (dkA z) s.heap s.heap [] := va_S.rf
  have hF : dkF [(t0 + 3, t0 + 3, 0, 4), (t0 + 5, t0 + 5, 0, 4)] I0 I0 := dkF_rf _ _
  have hl := lv_entry ([.ref (z + t0), .int p0]) (n := 2) (Nat.le_of_ble_eq_true rfl)
  have hgo : entryFrame m args 2 = entryFrame m ([.ref (z + t0), .int p0] : List Value).toArray 2 := by rw [ha]
  rw [hgo, lg_entry_eq]
  generalize (lg_sl ([.ref (z + t0), .int p0]) ++ List.replicate (2 - (lg_sl ([.ref (z + t0), .int p0])).length) Slot.unset).toArray = ls at hl ⊢
  have hl : lv_has ls 2 [(0, .ref (z + t0)), (1, .int p0)] := hl
  have C61 : ∀ (I : dkI) (H : Heap) (locs : List Loc) (ls : Array Slot), dkW g z I H → va_S (dkA z) s.heap H locs → dkF [(t0 + 3, t0 + 3, 0, 4), (t0 + 5, t0 + 5, 0, 4)] I0 I → dkOk I → lv_has ls 2 [(0, .ref (z + t0)), (1, .int p0)] → W p l e (headSpec wsX4_stroll (dkR 0)).room s m args below meth c H locs 0 0 (MQ below (dkQv g z (fun I1 => dkF [(t0 + 3, t0 + 3, 0, 4), (t0 + 5, t0 + 5, 0, 4)] I0 I1 ∧ dkOk I1 ∧ ((True)))) args s 0 0 (dkA z)) (F0 m 61 ls []) := by
    intro I61_ H locs ls hW hS hF_61 hO hl
    have hF := hF_61
    refine lv_aload_n hx hb dX4_stroll_61 rfl (lv_at hl 0 rfl) ?_
    refine dk_get (k := t0) hx hb hts iX4_stroll_4 hown hK (dk_aT0 ht0 hW) rfl 9 (by decide) (hts (.fieldLink RX4 24 "DogKings$Town" "gait" "[I") (List.mem_of_getElem? (i := 1) rfl)) rfl dX4_stroll_62 ?_
    refine lv_iload_n hx hb dX4_stroll_65 rfl (lv_at hl 1 rfl) ?_
    refine dk_ild (k := (t0 + 5)) hx hb hK (dk_aT5 ht0 hW) (dkN_in (n := 5) dp0 rfl) dX4_stroll_66 ?_
    refine lv_topi (fun v1 ev1 => ?_)
    refine lv_if_eq (tgt := 94) hx hb dX4_stroll_67 (by decide) (fun c2 => ?_) (fun c2 => ?_)
    ·
      have d3 : dkN [(0, 0)] v1 := dkN_eq1 (dkN_top v1) (dkN_lit (x := 0) (0) rfl) (congrArg Int32.toInt c2) rfl
      exact W.vret hx hb hr (fun t ht hW9 => ⟨⟨I61_, rfl, ⟨hF, hO, trivial⟩, dkW_eq ht hW⟩, hS.F ht⟩) hS.2.2 dX4_stroll_94
    ·
      have d4 : dkN [(-2147483648, -1), (1, 2147483647)] v1 := dkN_ne1 (0) (dkN_top v1) (dkN_lit (x := 0) (0) rfl) (dk_ne c2) rfl
      refine lv_aload_n hx hb dX4_stroll_70 rfl (lv_at hl 0 rfl) ?_
      refine dk_get (k := t0) hx hb hts iX4_stroll_4 hown hK (dk_aT0 ht0 hW) rfl 7 (by decide) (hts (.fieldLink RX4 18 "DogKings$Town" "personAt" "[I") (List.mem_of_getElem? (i := 2) rfl)) rfl dX4_stroll_71 ?_
      refine lv_iload_n hx hb dX4_stroll_74 rfl (lv_at hl 1 rfl) ?_
      refine lv_dup2_11 hx hb dX4_stroll_75 rfl rfl ?_
      refine dk_ild (k := (t0 + 3)) hx hb hK (dk_aT3 ht0 hW) (dkN_in (n := 5) dp0 rfl) dX4_stroll_76 ?_
      refine lv_topi (fun v5 ev5 => ?_)
      refine lv_aload_n hx hb dX4_stroll_77 rfl (lv_at hl 0 rfl) ?_
      refine dk_get (k := t0) hx hb hts iX4_stroll_4 hown hK (dk_aT0 ht0 hW) rfl 9 (by decide) (hts (.fieldLink RX4 24 "DogKings$Town" "gait" "[I") (List.mem_of_getElem? (i := 1) rfl)) rfl dX4_stroll_78 ?_
      refine lv_iload_n hx hb dX4_stroll_81 rfl (lv_at hl 1 rfl) ?_
      refine dk_ild (k := (t0 + 5)) hx hb hK (dk_aT5 ht0 hW) (dkN_in (n := 5) dp0 rfl) dX4_stroll_82 ?_
      refine lv_topi (fun v6 ev6 => ?_)
      refine lv_iconst (v := 1) hx hb dX4_stroll_83 (by decide) ?_
      refine lv_icmp_ne (tgt := 91) hx hb dX4_stroll_84 (by decide) (fun c7 => ?_) (fun c7 => ?_)
      ·
        have d8 : dkN [(-2147483648, 0), (2, 2147483647)] v6 := dkN_ne1 (1) (dkN_top v6) (dkN_lit (x := 1) (1) rfl) (dk_ne c7) rfl
        refine lv_iconst (v := (-1)) hx hb dX4_stroll_91 (by decide) ?_
        refine lv_iadd hx hb dX4_stroll_92 ?_
        refine lv_topi (fun v9 ev9 => ?_)
        refine dk_ist (k := (t0 + 3)) hx hb hK hW (fun _ => dkC_T g z ht0 (c := 3) (by decide) _) (by have := dkT_lt ht0; omega) hS (dkN_in (n := 5) dp0 rfl) dX4_stroll_93 (fun I10 H10 L10 eI10 hW hS => ?_)
        have hO := dkO_setT hO ht0 (c := 3) (by decide) eI10 (dkN_sub (dkN_top v9) rfl)
        have hF := dkF_set hF eI10 (dkIn_atv (i := 0) rfl (Nat.le_refl _) (Nat.le_refl _) dp0 rfl)
        exact W.vret hx hb hr (fun t ht hW9 => ⟨⟨I10, rfl, ⟨hF, hO, trivial⟩, dkW_eq ht hW⟩, hS.F ht⟩) hS.2.2 dX4_stroll_94
      ·
        have d11 : dkN [(1, 1)] v6 := dkN_eq1 (dkN_top v6) (dkN_lit (x := 1) (1) rfl) (congrArg Int32.toInt c7) rfl
        refine lv_iconst (v := 1) hx hb dX4_stroll_87 (by decide) ?_
        refine lv_goto (tgt := 92) hx hb dX4_stroll_88 (by decide) ?_
        refine lv_iadd hx hb dX4_stroll_92 ?_
        refine lv_topi (fun v12 ev12 => ?_)
        refine dk_ist (k := (t0 + 3)) hx hb hK hW (fun _ => dkC_T g z ht0 (c := 3) (by decide) _) (by have := dkT_lt ht0; omega) hS (dkN_in (n := 5) dp0 rfl) dX4_stroll_93 (fun I13 H13 L13 eI13 hW hS => ?_)
        have hO := dkO_setT hO ht0 (c := 3) (by decide) eI13 (dkN_sub (dkN_top v12) rfl)
        have hF := dkF_set hF eI13 (dkIn_atv (i := 0) rfl (Nat.le_refl _) (Nat.le_refl _) dp0 rfl)
        exact W.vret hx hb hr (fun t ht hW9 => ⟨⟨I13, rfl, ⟨hF, hO, trivial⟩, dkW_eq ht hW⟩, hS.F ht⟩) hS.2.2 dX4_stroll_94
  have C35 : ∀ (I : dkI) (H : Heap) (locs : List Loc) (ls : Array Slot), dkW g z I H → va_S (dkA z) s.heap H locs → dkF [(t0 + 3, t0 + 3, 0, 4), (t0 + 5, t0 + 5, 0, 4)] I0 I → dkOk I → lv_has ls 2 [(0, .ref (z + t0)), (1, .int p0)] → W p l e (headSpec wsX4_stroll (dkR 0)).room s m args below meth c H locs 0 0 (MQ below (dkQv g z (fun I1 => dkF [(t0 + 3, t0 + 3, 0, 4), (t0 + 5, t0 + 5, 0, 4)] I0 I1 ∧ dkOk I1 ∧ ((True)))) args s 0 0 (dkA z)) (F0 m 35 ls []) := by
    intro I35_ H locs ls hW hS hF_35 hO hl
    have hF := hF_35
    refine lv_aload_n hx hb dX4_stroll_35 rfl (lv_at hl 0 rfl) ?_
    refine dk_get (k := t0) hx hb hts iX4_stroll_4 hown hK (dk_aT0 ht0 hW) rfl 9 (by decide) (hts (.fieldLink RX4 24 "DogKings$Town" "gait" "[I") (List.mem_of_getElem? (i := 1) rfl)) rfl dX4_stroll_36 ?_
    refine lv_iload_n hx hb dX4_stroll_39 rfl (lv_at hl 1 rfl) ?_
    refine dk_ild (k := (t0 + 5)) hx hb hK (dk_aT5 ht0 hW) (dkN_in (n := 5) dp0 rfl) dX4_stroll_40 ?_
    refine lv_topi (fun v14 ev14 => ?_)
    refine lv_iconst (v := 2) hx hb dX4_stroll_41 (by decide) ?_
    refine lv_icmp_ne (tgt := 61) hx hb dX4_stroll_42 (by decide) (fun c15 => ?_) (fun c15 => ?_)
    ·
      have d16 : dkN [(-2147483648, 1), (3, 2147483647)] v14 := dkN_ne1 (2) (dkN_top v14) (dkN_lit (x := 2) (2) rfl) (dk_ne c15) rfl
      exact C61 I35_ _ _ ls  hW hS hF hO  (lv_sub hl [0, 1] rfl)
    ·
      have d17 : dkN [(2, 2)] v14 := dkN_eq1 (dkN_top v14) (dkN_lit (x := 2) (2) rfl) (congrArg Int32.toInt c15) rfl
      refine lv_aload_n hx hb dX4_stroll_45 rfl (lv_at hl 0 rfl) ?_
      refine dk_get (k := t0) hx hb hts iX4_stroll_4 hown hK (dk_aT0 ht0 hW) rfl 7 (by decide) (hts (.fieldLink RX4 18 "DogKings$Town" "personAt" "[I") (List.mem_of_getElem? (i := 2) rfl)) rfl dX4_stroll_46 ?_
      refine lv_iload_n hx hb dX4_stroll_49 rfl (lv_at hl 1 rfl) ?_
      refine dk_ild (k := (t0 + 3)) hx hb hK (dk_aT3 ht0 hW) (dkN_in (n := 5) dp0 rfl) dX4_stroll_50 ?_
      refine lv_topi (fun v18 ev18 => ?_)
      refine lv_if_ne (tgt := 61) hx hb dX4_stroll_51 (by decide) (fun c19 => ?_) (fun c19 => ?_)
      ·
        have d20 : dkN [(-2147483648, -1), (1, 2147483647)] v18 := dkN_ne1 (0) (dkN_top v18) (dkN_lit (x := 0) (0) rfl) (dk_ne c19) rfl
        exact C61 I35_ _ _ ls  hW hS hF hO  (lv_sub hl [0, 1] rfl)
      ·
        have d21 : dkN [(0, 0)] v18 := dkN_eq1 (dkN_top v18) (dkN_lit (x := 0) (0) rfl) (congrArg Int32.toInt c19) rfl
        refine lv_aload_n hx hb dX4_stroll_54 rfl (lv_at hl 0 rfl) ?_
        refine dk_get (k := t0) hx hb hts iX4_stroll_4 hown hK (dk_aT0 ht0 hW) rfl 9 (by decide) (hts (.fieldLink RX4 24 "DogKings$Town" "gait" "[I") (List.mem_of_getElem? (i := 1) rfl)) rfl dX4_stroll_55 ?_
        refine lv_iload_n hx hb dX4_stroll_58 rfl (lv_at hl 1 rfl) ?_
        refine lv_iconst (v := 1) hx hb dX4_stroll_59 (by decide) ?_
        refine dk_ist (k := (t0 + 5)) hx hb hK hW (fun _ => dkC_T g z ht0 (c := 5) (by decide) _) (by have := dkT_lt ht0; omega) hS (dkN_in (n := 5) dp0 rfl) dX4_stroll_60 (fun I22 H22 L22 eI22 hW hS => ?_)
        have hO := dkO_setT hO ht0 (c := 5) (by decide) eI22 (dkN_sub (dkN_lit (x := 1) (1) rfl) rfl)
        have hF := dkF_set hF eI22 (dkIn_atv (i := 1) rfl (Nat.le_refl _) (Nat.le_refl _) dp0 rfl)
        exact C61 I22 _ _ ls  hW hS hF hO  (lv_sub hl [0, 1] rfl)
  refine lv_aload_n hx hb dX4_stroll_0 rfl (lv_at hl 0 rfl) ?_
  refine dk_get (k := t0) hx hb hts iX4_stroll_4 hown hK (dk_aT0 ht0 hW) rfl 9 (by decide) (hts (.fieldLink RX4 24 "DogKings$Town" "gait" "[I") (List.mem_of_getElem? (i := 1) rfl)) rfl dX4_stroll_1 ?_
  refine lv_iload_n hx hb dX4_stroll_4 rfl (lv_at hl 1 rfl) ?_
  refine dk_ild (k := (t0 + 5)) hx hb hK (dk_aT5 ht0 hW) (dkN_in (n := 5) dp0 rfl) dX4_stroll_5 ?_
  refine lv_topi (fun v23 ev23 => ?_)
  refine lv_iconst (v := 1) hx hb dX4_stroll_6 (by decide) ?_
  refine lv_icmp_ne (tgt := 35) hx hb dX4_stroll_7 (by decide) (fun c24 => ?_) (fun c24 => ?_)
  ·
    have d25 : dkN [(-2147483648, 0), (2, 2147483647)] v23 := dkN_ne1 (1) (dkN_top v23) (dkN_lit (x := 1) (1) rfl) (dk_ne c24) rfl
    exact C35 I0 _ _ ls  hW hS hF hO  (lv_sub hl [0, 1] rfl)
  ·
    have d26 : dkN [(1, 1)] v23 := dkN_eq1 (dkN_top v23) (dkN_lit (x := 1) (1) rfl) (congrArg Int32.toInt c24) rfl
    refine lv_aload_n hx hb dX4_stroll_10 rfl (lv_at hl 0 rfl) ?_
    refine dk_get (k := t0) hx hb hts iX4_stroll_4 hown hK (dk_aT0 ht0 hW) rfl 7 (by decide) (hts (.fieldLink RX4 18 "DogKings$Town" "personAt" "[I") (List.mem_of_getElem? (i := 2) rfl)) rfl dX4_stroll_11 ?_
    refine lv_iload_n hx hb dX4_stroll_14 rfl (lv_at hl 1 rfl) ?_
    refine dk_ild (k := (t0 + 3)) hx hb hK (dk_aT3 ht0 hW) (dkN_in (n := 5) dp0 rfl) dX4_stroll_15 ?_
    refine lv_topi (fun v27 ev27 => ?_)
    refine lv_aload_n hx hb dX4_stroll_16 rfl (lv_at hl 0 rfl) ?_
    refine dk_get (k := t0) hx hb hts iX4_stroll_4 hown hK (dk_aT0 ht0 hW) rfl 0 (by decide) (hts (.fieldLink RX4 42 "DogKings$Town" "places" "I") (List.mem_of_getElem? (i := 3) rfl)) rfl dX4_stroll_17 ?_
    refine lv_topi (fun v28 ev28 => ?_)
    have dv28 : dkN [(0, 9)] v28 := by rw [ev28]; exact (dkO_at hO ht0 (c := 0) (by decide) 0)
    refine lv_iconst (v := 1) hx hb dX4_stroll_20 (by decide) ?_
    refine lv_isub hx hb dX4_stroll_21 ?_
    refine lv_topi (fun v29 ev29 => ?_)
    have dv29 : dkN [(-1, 8)] v29 := by rw [ev29]; exact dkN_subt dv28 (dkN_lit (x := 1) (1) rfl) rfl
    refine lv_icmp_ne (tgt := 35) hx hb dX4_stroll_22 (by decide) (fun c30 => ?_) (fun c30 => ?_)
    ·
      exact C35 I0 _ _ ls  hW hS hF hO  (lv_sub hl [0, 1] rfl)
    ·
      have d31 : dkN [(-1, 8)] v27 := dkN_eq1 (dkN_top v27) dv29 (congrArg Int32.toInt c30) rfl
      refine lv_aload_n hx hb dX4_stroll_25 rfl (lv_at hl 0 rfl) ?_
      refine dk_get (k := t0) hx hb hts iX4_stroll_4 hown hK (dk_aT0 ht0 hW) rfl 9 (by decide) (hts (.fieldLink RX4 24 "DogKings$Town" "gait" "[I") (List.mem_of_getElem? (i := 1) rfl)) rfl dX4_stroll_26 ?_
      refine lv_iload_n hx hb dX4_stroll_29 rfl (lv_at hl 1 rfl) ?_
      refine lv_iconst (v := 2) hx hb dX4_stroll_30 (by decide) ?_
      refine dk_ist (k := (t0 + 5)) hx hb hK hW (fun _ => dkC_T g z ht0 (c := 5) (by decide) _) (by have := dkT_lt ht0; omega) hS (dkN_in (n := 5) dp0 rfl) dX4_stroll_31 (fun I32 H32 L32 eI32 hW hS => ?_)
      have hO := dkO_setT hO ht0 (c := 5) (by decide) eI32 (dkN_sub (dkN_lit (x := 2) (2) rfl) rfl)
      have hF := dkF_set hF eI32 (dkIn_atv (i := 1) rfl (Nat.le_refl _) (Nat.le_refl _) dp0 rfl)
      refine lv_goto (tgt := 61) hx hb dX4_stroll_32 (by decide) ?_
      exact C61 I32 _ _ ls  hW hS hF hO  (lv_sub hl [0, 1] rfl)
set_option maxHeartbeats 4000000 in
set_option maxRecDepth 100000 in
theorem c_X5_holds_0 (l : Launch) (g : dkG) (z : Nat) (I0 : dkI) (p0 : Int32) (p1 : Int32)  (hO : dkOk I0) : Met l yX5_holds wsX5_holds (dkR 0) (dkPc g z [.int p0, .int p1] I0) (dkQi g z (fun r I1 => dkF [] I0 I1 ∧ dkOk I1 ∧ ((dkN [(0, 1)] r ∧ True)))) 0 0 (dkA z) := by
  refine Met.ofW (cc := cX5_holds) (maxL := 2) (ret := (some .boolean)) (by decide) rfl ?_
  intro p e s m args below meth c s₁ B hml hv
  obtain ⟨ha, hW, hK, hT⟩ := hv
  have hx := B.exec
  have hb := B.bytes
  have hr := B.returns
  have hts := atoms_spec (ws := wsX5_holds) B.pre
  have hown : s.vm.findClass RX5 = some m.cls := findClass_of_methodNamed B.named
  have hlocks := B.notSynchronized
  have hS : va_S (dkA z) s.heap s.heap [] := va_S.rf
  have hF : dkF [] I0 I0 := dkF_rf _ _
  have hl := lv_entry ([.int p0, .int p1]) (n := 2) (Nat.le_of_ble_eq_true rfl)
  have hgo : entryFrame m args 2 = entryFrame m ([.int p0, .int p1] : List Value).toArray 2 := by rw [ha]
  rw [hgo, lg_entry_eq]
  generalize (lg_sl ([.int p0, .int p1]) ++ List.replicate (2 - (lg_sl ([.int p0, .int p1])).length) Slot.unset).toArray = ls at hl ⊢
  have hl : lv_has ls 2 [(0, .int p0), (1, .int p1)] := hl
  refine lv_iload_n hx hb dX5_holds_0 rfl (lv_at hl 0 rfl) ?_
  refine lv_iload_n hx hb dX5_holds_1 rfl (lv_at hl 1 rfl) ?_
  refine lv_ishr hx hb dX5_holds_2 ?_
  refine lv_topi (fun v1 ev1 => ?_)
  refine lv_iconst (v := 1) hx hb dX5_holds_3 (by decide) ?_
  refine lv_iand hx hb dX5_holds_4 ?_
  refine lv_topi (fun v2 ev2 => ?_)
  have dv2 : dkN [(0, 1)] v2 := by rw [ev2]; exact dkN_and (dkN_lit (x := 1) (1) rfl) rfl
  refine lv_iconst (v := 1) hx hb dX5_holds_5 (by decide) ?_
  refine lv_icmp_ne (tgt := 13) hx hb dX5_holds_6 (by decide) (fun c3 => ?_) (fun c3 => ?_)
  ·
    have d4 : dkN [(0, 0)] v2 := dkN_ne1 (1) dv2 (dkN_lit (x := 1) (1) rfl) (dk_ne c3) rfl
    refine lv_iconst (v := 0) hx hb dX5_holds_13 (by decide) ?_
    exact W.zret (v := 0) (ty := .boolean) hx hb hr rfl (fun t ht hW9 => ⟨⟨0, I0, rfl, ⟨hF, hO, ⟨dkN_sub (dkN_lit (x := 0) (0) rfl) rfl, trivial⟩⟩, dkW_eq ht hW⟩, hS.F ht⟩) hS.2.2 dX5_holds_14
  ·
    have d5 : dkN [(1, 1)] v2 := dkN_eq1 dv2 (dkN_lit (x := 1) (1) rfl) (congrArg Int32.toInt c3) rfl
    refine lv_iconst (v := 1) hx hb dX5_holds_9 (by decide) ?_
    refine lv_goto (tgt := 14) hx hb dX5_holds_10 (by decide) ?_
    exact W.zret (v := 1) (ty := .boolean) hx hb hr rfl (fun t ht hW9 => ⟨⟨1, I0, rfl, ⟨hF, hO, ⟨dkN_sub (dkN_lit (x := 1) (1) rfl) rfl, trivial⟩⟩, dkW_eq ht hW⟩, hS.F ht⟩) hS.2.2 dX5_holds_14
set_option maxHeartbeats 4000000 in
set_option maxRecDepth 100000 in
theorem c_X5_isA_0 (l : Launch) (g : dkG) (z : Nat) (I0 : dkI) (p0 : Int32) (p1 : Int32) (dp1 : dkN [(4, 4)] p1)  (hO : dkOk I0) : Met l yX5_isA wsX5_isA (dkR 0) (dkPc g z [.int p0, .int p1] I0) (dkQi g z (fun r I1 => dkF [] I0 I1 ∧ dkOk I1 ∧ ((dkN [(0, 0)] r ∧ dkN [(-2147483648, 3), (6, 2147483647)] p0 ∧ True) ∨ (dkN [(1, 1)] r ∧ dkN [(4, 5)] p0 ∧ True)))) 0 0 (dkA z) := by
  refine Met.ofW (cc := cX5_isA) (maxL := 2) (ret := (some .boolean)) (by decide) rfl ?_
  intro p e s m args below meth c s₁ B hml hv
  obtain ⟨ha, hW, hK, hT⟩ := hv
  have hx := B.exec
  have hb := B.bytes
  have hr := B.returns
  have hts := atoms_spec (ws := wsX5_isA) B.pre
  have hown : s.vm.findClass RX5 = some m.cls := findClass_of_methodNamed B.named
  have hlocks := B.notSynchronized
  have hS : va_S (dkA z) s.heap s.heap [] := va_S.rf
  have hF : dkF [] I0 I0 := dkF_rf _ _
  have hl := lv_entry ([.int p0, .int p1]) (n := 2) (Nat.le_of_ble_eq_true rfl)
  have hgo : entryFrame m args 2 = entryFrame m ([.int p0, .int p1] : List Value).toArray 2 := by rw [ha]
  rw [hgo, lg_entry_eq]
  generalize (lg_sl ([.int p0, .int p1]) ++ List.replicate (2 - (lg_sl ([.int p0, .int p1])).length) Slot.unset).toArray = ls at hl ⊢
  have hl : lv_has ls 2 [(0, .int p0), (1, .int p1)] := hl
  refine lv_iload_n hx hb dX5_isA_0 rfl (lv_at hl 1 rfl) ?_
  by_cases c1 : p1 = 4
  ·
    have qc1 : p1.toInt = 4 := by rw [c1]; rfl
    have d2 : dkN [(4, 4)] p1 := dkN_lit (4) qc1
    refine lv_tableIn (tgt := 59) hx hb dX5_isA_1 (by rw [qc1]; decide) (by rw [qc1]; decide) (by rw [qc1]; rfl) (by decide) ?_
    refine lv_iload_n hx hb dX5_isA_59 rfl (lv_at hl 0 rfl) ?_
    refine lv_iconst (v := 4) hx hb dX5_isA_60 (by decide) ?_
    refine lv_icmp_eq (tgt := 69) hx hb dX5_isA_61 (by decide) (fun c3 => ?_) (fun c3 => ?_)
    ·
      have d4 : dkN [(4, 4)] p0 := dkN_eq1 (dkN_top p0) (dkN_lit (x := 4) (4) rfl) (congrArg Int32.toInt c3) rfl
      refine lv_iconst (v := 1) hx hb dX5_isA_69 (by decide) ?_
      refine lv_goto (tgt := 74) hx hb dX5_isA_70 (by decide) ?_
      exact W.zret (v := 1) (ty := .boolean) hx hb hr rfl (fun t ht hW9 => ⟨⟨1, I0, rfl, ⟨hF, hO, Or.inr (⟨dkN_sub (dkN_lit (x := 1) (1) rfl) rfl, dkN_sub d4 rfl, trivial⟩)⟩, dkW_eq ht hW⟩, hS.F ht⟩) hS.2.2 dX5_isA_74
    ·
      have d5 : dkN [(-2147483648, 3), (5, 2147483647)] p0 := dkN_ne1 (4) (dkN_top p0) (dkN_lit (x := 4) (4) rfl) (dk_ne c3) rfl
      refine lv_iload_n hx hb dX5_isA_64 rfl (lv_at hl 0 rfl) ?_
      refine lv_iconst (v := 5) hx hb dX5_isA_65 (by decide) ?_
      refine lv_icmp_ne (tgt := 73) hx hb dX5_isA_66 (by decide) (fun c6 => ?_) (fun c6 => ?_)
      ·
        have d7 : dkN [(-2147483648, 3), (6, 2147483647)] p0 := dkN_ne1 (5) d5 (dkN_lit (x := 5) (5) rfl) (dk_ne c6) rfl
        refine lv_iconst (v := 0) hx hb dX5_isA_73 (by decide) ?_
        exact W.zret (v := 0) (ty := .boolean) hx hb hr rfl (fun t ht hW9 => ⟨⟨0, I0, rfl, ⟨hF, hO, Or.inl ⟨dkN_sub (dkN_lit (x := 0) (0) rfl) rfl, dkN_sub d7 rfl, trivial⟩⟩, dkW_eq ht hW⟩, hS.F ht⟩) hS.2.2 dX5_isA_74
      ·
        have d8 : dkN [(5, 5)] p0 := dkN_eq1 d5 (dkN_lit (x := 5) (5) rfl) (congrArg Int32.toInt c6) rfl
        refine lv_iconst (v := 1) hx hb dX5_isA_69 (by decide) ?_
        refine lv_goto (tgt := 74) hx hb dX5_isA_70 (by decide) ?_
        exact W.zret (v := 1) (ty := .boolean) hx hb hr rfl (fun t ht hW9 => ⟨⟨1, I0, rfl, ⟨hF, hO, Or.inr (⟨dkN_sub (dkN_lit (x := 1) (1) rfl) rfl, dkN_sub d8 rfl, trivial⟩)⟩, dkW_eq ht hW⟩, hS.F ht⟩) hS.2.2 dX5_isA_74
  ·
    exact (dkN_nil (show dkN [] p1 from dkN_ne1 (4) dp1 (dkN_lit (x := 4) (4) rfl) (dk_ne c1) rfl)).elim
set_option maxHeartbeats 4000000 in
set_option maxRecDepth 100000 in
theorem c_X5_isA_1 (l : Launch) (g : dkG) (z : Nat) (I0 : dkI) (p0 : Int32) (p1 : Int32) (dp1 : dkN [(1, 1)] p1)  (hO : dkOk I0) : Met l yX5_isA wsX5_isA (dkR 0) (dkPc g z [.int p0, .int p1] I0) (dkQi g z (fun r I1 => dkF [] I0 I1 ∧ dkOk I1 ∧ ((dkN [(0, 0)] r ∧ dkN [(-2147483648, 0), (4, 2147483647)] p0 ∧ True) ∨ (dkN [(1, 1)] r ∧ dkN [(1, 3)] p0 ∧ True)))) 0 0 (dkA z) := by
  refine Met.ofW (cc := cX5_isA) (maxL := 2) (ret := (some .boolean)) (by decide) rfl ?_
  intro p e s m args below meth c s₁ B hml hv
  obtain ⟨ha, hW, hK, hT⟩ := hv
  have hx := B.exec
  have hb := B.bytes
  have hr := B.returns
  have hts := atoms_spec (ws := wsX5_isA) B.pre
  have hown : s.vm.findClass RX5 = some m.cls := findClass_of_methodNamed B.named
  have hlocks := B.notSynchronized
  have hS : va_S (dkA z) s.heap s.heap [] := va_S.rf
  have hF : dkF [] I0 I0 := dkF_rf _ _
  have hl := lv_entry ([.int p0, .int p1]) (n := 2) (Nat.le_of_ble_eq_true rfl)
  have hgo : entryFrame m args 2 = entryFrame m ([.int p0, .int p1] : List Value).toArray 2 := by rw [ha]
  rw [hgo, lg_entry_eq]
  generalize (lg_sl ([.int p0, .int p1]) ++ List.replicate (2 - (lg_sl ([.int p0, .int p1])).length) Slot.unset).toArray = ls at hl ⊢
  have hl : lv_has ls 2 [(0, .int p0), (1, .int p1)] := hl
  refine lv_iload_n hx hb dX5_isA_0 rfl (lv_at hl 1 rfl) ?_
  by_cases c1 : p1 = 1
  ·
    have qc1 : p1.toInt = 1 := by rw [c1]; rfl
    have d2 : dkN [(1, 1)] p1 := dkN_lit (1) qc1
    refine lv_tableIn (tgt := 38) hx hb dX5_isA_1 (by rw [qc1]; decide) (by rw [qc1]; decide) (by rw [qc1]; rfl) (by decide) ?_
    refine lv_iload_n hx hb dX5_isA_38 rfl (lv_at hl 0 rfl) ?_
    refine lv_iconst (v := 1) hx hb dX5_isA_39 (by decide) ?_
    refine lv_icmp_eq (tgt := 53) hx hb dX5_isA_40 (by decide) (fun c3 => ?_) (fun c3 => ?_)
    ·
      have d4 : dkN [(1, 1)] p0 := dkN_eq1 (dkN_top p0) (dkN_lit (x := 1) (1) rfl) (congrArg Int32.toInt c3) rfl
      refine lv_iconst (v := 1) hx hb dX5_isA_53 (by decide) ?_
      refine lv_goto (tgt := 58) hx hb dX5_isA_54 (by decide) ?_
      exact W.zret (v := 1) (ty := .boolean) hx hb hr rfl (fun t ht hW9 => ⟨⟨1, I0, rfl, ⟨hF, hO, Or.inr (⟨dkN_sub (dkN_lit (x := 1) (1) rfl) rfl, dkN_sub d4 rfl, trivial⟩)⟩, dkW_eq ht hW⟩, hS.F ht⟩) hS.2.2 dX5_isA_58
    ·
      have d5 : dkN [(-2147483648, 0), (2, 2147483647)] p0 := dkN_ne1 (1) (dkN_top p0) (dkN_lit (x := 1) (1) rfl) (dk_ne c3) rfl
      refine lv_iload_n hx hb dX5_isA_43 rfl (lv_at hl 0 rfl) ?_
      refine lv_iconst (v := 2) hx hb dX5_isA_44 (by decide) ?_
      refine lv_icmp_eq (tgt := 53) hx hb dX5_isA_45 (by decide) (fun c6 => ?_) (fun c6 => ?_)
      ·
        have d7 : dkN [(2, 2)] p0 := dkN_eq1 d5 (dkN_lit (x := 2) (2) rfl) (congrArg Int32.toInt c6) rfl
        refine lv_iconst (v := 1) hx hb dX5_isA_53 (by decide) ?_
        refine lv_goto (tgt := 58) hx hb dX5_isA_54 (by decide) ?_
        exact W.zret (v := 1) (ty := .boolean) hx hb hr rfl (fun t ht hW9 => ⟨⟨1, I0, rfl, ⟨hF, hO, Or.inr (⟨dkN_sub (dkN_lit (x := 1) (1) rfl) rfl, dkN_sub d7 rfl, trivial⟩)⟩, dkW_eq ht hW⟩, hS.F ht⟩) hS.2.2 dX5_isA_58
      ·
        have d8 : dkN [(-2147483648, 0), (3, 2147483647)] p0 := dkN_ne1 (2) d5 (dkN_lit (x := 2) (2) rfl) (dk_ne c6) rfl
        refine lv_iload_n hx hb dX5_isA_48 rfl (lv_at hl 0 rfl) ?_
        refine lv_iconst (v := 3) hx hb dX5_isA_49 (by decide) ?_
        refine lv_icmp_ne (tgt := 57) hx hb dX5_isA_50 (by decide) (fun c9 => ?_) (fun c9 => ?_)
        ·
          have d10 : dkN [(-2147483648, 0), (4, 2147483647)] p0 := dkN_ne1 (3) d8 (dkN_lit (x := 3) (3) rfl) (dk_ne c9) rfl
          refine lv_iconst (v := 0) hx hb dX5_isA_57 (by decide) ?_
          exact W.zret (v := 0) (ty := .boolean) hx hb hr rfl (fun t ht hW9 => ⟨⟨0, I0, rfl, ⟨hF, hO, Or.inl ⟨dkN_sub (dkN_lit (x := 0) (0) rfl) rfl, dkN_sub d10 rfl, trivial⟩⟩, dkW_eq ht hW⟩, hS.F ht⟩) hS.2.2 dX5_isA_58
        ·
          have d11 : dkN [(3, 3)] p0 := dkN_eq1 d8 (dkN_lit (x := 3) (3) rfl) (congrArg Int32.toInt c9) rfl
          refine lv_iconst (v := 1) hx hb dX5_isA_53 (by decide) ?_
          refine lv_goto (tgt := 58) hx hb dX5_isA_54 (by decide) ?_
          exact W.zret (v := 1) (ty := .boolean) hx hb hr rfl (fun t ht hW9 => ⟨⟨1, I0, rfl, ⟨hF, hO, Or.inr (⟨dkN_sub (dkN_lit (x := 1) (1) rfl) rfl, dkN_sub d11 rfl, trivial⟩)⟩, dkW_eq ht hW⟩, hS.F ht⟩) hS.2.2 dX5_isA_58
  ·
    exact (dkN_nil (show dkN [] p1 from dkN_ne1 (1) dp1 (dkN_lit (x := 1) (1) rfl) (dk_ne c1) rfl)).elim
set_option maxHeartbeats 4000000 in
set_option maxRecDepth 100000 in
theorem c_X4_pull_0 (l : Launch) (g : dkG) (z : Nat) (I0 : dkI) (t0 : Nat) (ht0 : dkT t0) (p0 : Int32) (p1 : Int32) (dp0 : dkN [(0, 4)] p0) (dp1 : dkN [(0, 5)] p1)  (hO : dkOk I0) : Met l yX4_pull wsX4_pull (dkR 0) (dkPc g z [.ref (z + t0), .int p0, .int p1] I0) (dkQi g z (fun r I1 => dkF [] I0 I1 ∧ dkOk I1 ∧ ((True ∧ True)))) 0 0 (dkA z) := by
  refine Met.ofW (cc := cX4_pull) (maxL := 5) (ret := (some .int)) (by decide) rfl ?_
  intro p e s m args below meth c s₁ B hml hv
  obtain ⟨ha, hW, hK, hT⟩ := hv
  have hx := B.exec
  have hb := B.bytes
  have hr := B.returns
  have hts := atoms_spec (ws := wsX4_pull) B.pre
  have hown : s.vm.findClass RX4 = some m.cls := findClass_of_methodNamed B.named
  have hlocks := B.notSynchronized
  have hS : va_S (dkA z) s.heap s.heap [] := va_S.rf
  have hF : dkF [] I0 I0 := dkF_rf _ _
  have hl := lv_entry ([.ref (z + t0), .int p0, .int p1]) (n := 5) (Nat.le_of_ble_eq_true rfl)
  have hgo : entryFrame m args 5 = entryFrame m ([.ref (z + t0), .int p0, .int p1] : List Value).toArray 5 := by rw [ha]
  rw [hgo, lg_entry_eq]
  generalize (lg_sl ([.ref (z + t0), .int p0, .int p1]) ++ List.replicate (5 - (lg_sl ([.ref (z + t0), .int p0, .int p1])).length) Slot.unset).toArray = ls at hl ⊢
  have hl : lv_has ls 5 [(0, .ref (z + t0)), (1, .int p0), (2, .int p1)] := hl
  have C20 : ∀ (I : dkI) (H : Heap) (locs : List Loc) (ls : Array Slot) (x20_s0 : Int32), dkW g z I H → va_S (dkA z) s.heap H locs → dkF [] I0 I → dkOk I → lv_has ls 5 [(0, .ref (z + t0)), (1, .int p0), (2, .int p1)] → W p l e (headSpec wsX4_pull (dkR 0)).room s m args below meth c H locs 0 0 (MQ below (dkQi g z (fun r I1 => dkF [] I0 I1 ∧ dkOk I1 ∧ ((True ∧ True)))) args s 0 0 (dkA z)) (F0 m 20 ls [.int x20_s0]) := by
    intro I20_ H locs ls x20_s0 hW hS hF_20 hO hl
    have hF := hF_20
    refine lv_istore_n (lv' := [(3, .int x20_s0), (0, .ref (z + t0)), (1, .int p0), (2, .int p1)]) hx hb dX4_pull_20 rfl hl (by decide) rfl (fun ls hl => ?_)
    refine lv_aload_n hx hb dX4_pull_21 rfl (lv_at hl 1 rfl) ?_
    refine dk_get (k := t0) hx hb hts iX4_pull_4 hown hK (dk_aT0 ht0 hW) rfl 7 (by decide) (hts (.fieldLink RX4 18 "DogKings$Town" "personAt" "[I") (List.mem_of_getElem? (i := 3) rfl)) rfl dX4_pull_22 ?_
    refine lv_iload_n hx hb dX4_pull_25 rfl (lv_at hl 2 rfl) ?_
    refine dk_ild (k := (t0 + 3)) hx hb hK (dk_aT3 ht0 hW) (dkN_in (n := 5) dp0 rfl) dX4_pull_26 ?_
    refine lv_topi (fun v1 ev1 => ?_)
    refine lv_aload_n hx hb dX4_pull_27 rfl (lv_at hl 1 rfl) ?_
    refine dk_get (k := t0) hx hb hts iX4_pull_4 hown hK (dk_aT0 ht0 hW) rfl 14 (by decide) (hts (.fieldLink RX4 36 "DogKings$Town" "dogAt" "[I") (List.mem_of_getElem? (i := 4) rfl)) rfl dX4_pull_28 ?_
    refine lv_iload_n hx hb dX4_pull_31 rfl (lv_at hl 3 rfl) ?_
    refine dk_ild (k := (t0 + 9)) hx hb hK (dk_aT9 ht0 hW) (dkN_in (n := 6) dp1 rfl) dX4_pull_32 ?_
    refine lv_topi (fun v2 ev2 => ?_)
    refine lv_isub hx hb dX4_pull_33 ?_
    refine lv_topi (fun v3 ev3 => ?_)
    refine lv_istore (lv' := [(4, .int v3), (3, .int x20_s0), (0, .ref (z + t0)), (1, .int p0), (2, .int p1)]) hx hb dX4_pull_34 hl (by decide) rfl (fun ls hl => ?_)
    refine lv_iload_n hx hb dX4_pull_36 rfl (lv_at hl 1 rfl) ?_
    refine lv_iconst (v := 3) hx hb dX4_pull_37 (by decide) ?_
    refine lv_aload_n hx hb dX4_pull_38 rfl (lv_at hl 2 rfl) ?_
    refine dk_get (k := t0) hx hb hts iX4_pull_4 hown hK (dk_aT0 ht0 hW) rfl 8 (by decide) (hts (.fieldLink RX4 21 "DogKings$Town" "bones" "[I") (List.mem_of_getElem? (i := 5) rfl)) rfl dX4_pull_39 ?_
    refine lv_iload_n hx hb dX4_pull_42 rfl (lv_at hl 3 rfl) ?_
    refine dk_ild (k := (t0 + 4)) hx hb hK (dk_aT4 ht0 hW) (dkN_in (n := 5) dp0 rfl) dX4_pull_43 ?_
    refine lv_topi (fun v4 ev4 => ?_)
    refine lv_imul hx hb dX4_pull_44 ?_
    refine lv_topi (fun v5 ev5 => ?_)
    refine lv_iadd hx hb dX4_pull_45 ?_
    refine lv_topi (fun v6 ev6 => ?_)
    refine lv_iload hx hb dX4_pull_46 (lv_at hl 0 rfl) ?_
    refine lv_if_ge (tgt := 57) hx hb dX4_pull_48 (by decide) (fun c7 => ?_) (fun c7 => ?_)
    ·
      have d8 : dkN [(0, 2147483647)] v3 := dkN_le2 0 (dkN_lit (x := 0) (0) rfl) (dkN_top v3) (dkc_le c7) rfl
      refine lv_iload hx hb dX4_pull_57 (lv_at hl 0 rfl) ?_
      refine lv_isub hx hb dX4_pull_59 ?_
      refine lv_topi (fun v9 ev9 => ?_)
      exact W.iret (v := v9) hx hb hr (fun t ht hW9 => ⟨⟨v9, I20_, rfl, ⟨hF, hO, ⟨trivial, trivial⟩⟩, dkW_eq ht hW⟩, hS.F ht⟩) hS.2.2 dX4_pull_60
    ·
      have d10 : dkN [(-2147483648, -1)] v3 := dkN_le1 1 (dkN_top v3) (dkN_lit (x := 0) (0) rfl) (dkc_nle c7) rfl
      refine lv_iload hx hb dX4_pull_51 (lv_at hl 0 rfl) ?_
      refine lv_ineg hx hb dX4_pull_53 ?_
      refine lv_topi (fun v11 ev11 => ?_)
      refine lv_goto (tgt := 59) hx hb dX4_pull_54 (by decide) ?_
      refine lv_isub hx hb dX4_pull_59 ?_
      refine lv_topi (fun v12 ev12 => ?_)
      exact W.iret (v := v12) hx hb hr (fun t ht hW9 => ⟨⟨v12, I20_, rfl, ⟨hF, hO, ⟨trivial, trivial⟩⟩, dkW_eq ht hW⟩, hS.F ht⟩) hS.2.2 dX4_pull_60
  refine lv_aload_n hx hb dX4_pull_0 rfl (lv_at hl 0 rfl) ?_
  refine dk_get (k := t0) hx hb hts iX4_pull_4 hown hK (dk_aT0 ht0 hW) rfl 12 (by decide) (hts (.fieldLink RX4 30 "DogKings$Town" "sort" "[I") (List.mem_of_getElem? (i := 1) rfl)) rfl dX4_pull_1 ?_
  refine lv_iload_n hx hb dX4_pull_4 rfl (lv_at hl 2 rfl) ?_
  refine dk_ild (k := (t0 + 7)) hx hb hK (dk_aT7 ht0 hW) (dkN_in (n := 6) dp1 rfl) dX4_pull_5 ?_
  refine lv_topi (fun v13 ev13 => ?_)
  refine lv_iconst (v := 2) hx hb dX4_pull_6 (by decide) ?_
  refine lv_icmp_ne (tgt := 14) hx hb dX4_pull_7 (by decide) (fun c14 => ?_) (fun c14 => ?_)
  ·
    have d15 : dkN [(-2147483648, 1), (3, 2147483647)] v13 := dkN_ne1 (2) (dkN_top v13) (dkN_lit (x := 2) (2) rfl) (dk_ne c14) rfl
    refine lv_aload_n hx hb dX4_pull_14 rfl (lv_at hl 0 rfl) ?_
    refine dk_get (k := t0) hx hb hts iX4_pull_4 hown hK (dk_aT0 ht0 hW) rfl 6 (by decide) (hts (.fieldLink RX4 15 "DogKings$Town" "smell" "[I") (List.mem_of_getElem? (i := 2) rfl)) rfl dX4_pull_15 ?_
    refine lv_iload_n hx hb dX4_pull_18 rfl (lv_at hl 1 rfl) ?_
    refine dk_ild (k := (t0 + 2)) hx hb hK (dk_aT2 ht0 hW) (dkN_in (n := 5) dp0 rfl) dX4_pull_19 ?_
    refine lv_topi (fun v16 ev16 => ?_)
    exact C20 I0 _ _ ls v16 hW hS hF hO  (lv_sub hl [0, 1, 2] rfl)
  ·
    have d17 : dkN [(2, 2)] v13 := dkN_eq1 (dkN_top v13) (dkN_lit (x := 2) (2) rfl) (congrArg Int32.toInt c14) rfl
    refine lv_iconst (v := 0) hx hb dX4_pull_10 (by decide) ?_
    refine lv_goto (tgt := 20) hx hb dX4_pull_11 (by decide) ?_
    exact C20 I0 _ _ ls 0 hW hS hF hO  (lv_sub hl [0, 1, 2] rfl)
set_option maxHeartbeats 4000000 in
set_option maxRecDepth 100000 in
theorem c_X4_favourite_0 (l : Launch) (g : dkG) (z : Nat) (I0 : dkI) (t0 : Nat) (ht0 : dkT t0) (p0 : Int32) (dp0 : dkN [(0, 5)] p0)  (hO : dkOk I0) : Met l yX4_favourite wsX4_favourite (dkR 1) (dkPc g z [.ref (z + t0), .int p0] I0) (dkQi g z (fun r I1 => dkF [] I0 I1 ∧ dkOk I1 ∧ ((dkN [(-1000000, -1000000), (0, 4)] r ∧ True)))) 0 0 (dkA z) := by
  refine Met.ofW (cc := cX4_favourite) (maxL := 4) (ret := (some .int)) (by decide) rfl ?_
  intro p e s m args below meth c s₁ B hml hv
  obtain ⟨ha, hW, hK, hT⟩ := hv
  have hx := B.exec
  have hb := B.bytes
  have hr := B.returns
  have hts := atoms_spec (ws := wsX4_favourite) B.pre
  have hown : s.vm.findClass RX4 = some m.cls := findClass_of_methodNamed B.named
  have hlocks := B.notSynchronized
  have hS : va_S (dkA z) s.heap s.heap [] := va_S.rf
  have hF : dkF [] I0 I0 := dkF_rf _ _
  have hl := lv_entry ([.ref (z + t0), .int p0]) (n := 4) (Nat.le_of_ble_eq_true rfl)
  have hgo : entryFrame m args 4 = entryFrame m ([.ref (z + t0), .int p0] : List Value).toArray 4 := by rw [ha]
  rw [hgo, lg_entry_eq]
  generalize (lg_sl ([.ref (z + t0), .int p0]) ++ List.replicate (4 - (lg_sl ([.ref (z + t0), .int p0])).length) Slot.unset).toArray = ls at hl ⊢
  have hl : lv_has ls 4 [(0, .ref (z + t0)), (1, .int p0)] := hl
  have C21 : ∀ (n : Nat), ∀ (I : dkI) (H : Heap) (locs : List Loc) (ls : Array Slot) (x21_2 : Int32) (x21_3 : Int32), (5 - x21_3.toInt).toNat < n → dkW g z I H → va_S (dkA z) s.heap H locs → dkF [] I0 I → dkOk I → dkN [(-1000000, -1000000), (0, 4)] x21_2 → dkN [(0, 5)] x21_3 → lv_has ls 4 [(0, .ref (z + t0)), (1, .int p0), (2, .int x21_2), (3, .int x21_3)] → W p l e (headSpec wsX4_favourite (dkR 1)).room s m args below meth c H locs 0 0 (MQ below (dkQi g z (fun r I1 => dkF [] I0 I1 ∧ dkOk I1 ∧ ((dkN [(-1000000, -1000000), (0, 4)] r ∧ True)))) args s 0 0 (dkA z)) (F0 m 21 ls []) := by
    intro n
    induction n with
    | zero => intro I H locs ls x21_2 x21_3 hn; exact absurd hn (Nat.not_lt_zero _)
    | succ n ih21 =>
      intro I21_ H locs ls x21_2 x21_3 hn21 hW hS hF_21 hO k21_0 k21_1 hl
      have hF := hF_21
      have C52 : ∀ (I : dkI) (H : Heap) (locs : List Loc) (ls : Array Slot) (x52_2 : Int32), dkW g z I H → va_S (dkA z) s.heap H locs → dkF [] I0 I → dkOk I → dkN [(0, 4)] x52_2 → dkN [(0, 4)] x21_3 → dkN [(1, 5)] (I t0 4) → lv_has ls 4 [(0, .ref (z + t0)), (1, .int p0), (2, .int x52_2), (3, .int x21_3)] → W p l e (headSpec wsX4_favourite (dkR 1)).room s m args below meth c H locs 0 0 (MQ below (dkQi g z (fun r I1 => dkF [] I0 I1 ∧ dkOk I1 ∧ ((dkN [(-1000000, -1000000), (0, 4)] r ∧ True)))) args s 0 0 (dkA z)) (F0 m 52 ls []) := by
        intro I52_ H locs ls x52_2 hW hS hF_52 hO k52_0 r52_0 f52_0 hl
        have hF := hF_52
        obtain ⟨v1, ev1⟩ : ∃ y : Int32, y = x21_3 + 1 := ⟨_, rfl⟩
        have dv1 : dkN [(1, 5)] v1 := by rw [ev1]; exact dkN_add r52_0 (dkN_lit (x := 1) (1) rfl) rfl
        refine lv_iinc (v := v1) (lv' := [(3, .int v1), (0, .ref (z + t0)), (1, .int p0), (2, .int x52_2)]) hx hb dX4_favourite_52 hl (k := 3) rfl (by rw [ev1]; rfl) (by decide) rfl (fun ls hl => ?_)
        refine lv_goto (tgt := 21) hx hb dX4_favourite_55 (by decide) ?_
        exact ih21 I52_ _ _ ls x52_2 v1 (dk_near hn21 (by rw [ev1]; exact dk_inc r52_0 rfl) (dkN_lt r52_0 rfl)) hW hS hF hO (dkN_sub k52_0 rfl) (dkN_sub dv1 rfl) (lv_sub hl [1, 2, 3, 0] rfl)
      have C50 : ∀ (I : dkI) (H : Heap) (locs : List Loc) (ls : Array Slot), dkW g z I H → va_S (dkA z) s.heap H locs → dkF [] I0 I → dkOk I → dkN [(-1000000, -1000000), (0, 4)] x21_2 → dkN [(0, 4)] x21_3 → dkN [(1, 5)] (I t0 4) → lv_has ls 4 [(0, .ref (z + t0)), (1, .int p0), (2, .int x21_2), (3, .int x21_3)] → W p l e (headSpec wsX4_favourite (dkR 1)).room s m args below meth c H locs 0 0 (MQ below (dkQi g z (fun r I1 => dkF [] I0 I1 ∧ dkOk I1 ∧ ((dkN [(-1000000, -1000000), (0, 4)] r ∧ True)))) args s 0 0 (dkA z)) (F0 m 50 ls []) := by
        intro I50_ H locs ls hW hS hF_50 hO r50_0 r50_1 f50_0 hl
        have hF := hF_50
        refine lv_iload_n hx hb dX4_favourite_50 rfl (lv_at hl 3 rfl) ?_
        refine lv_istore_n (lv' := [(2, .int x21_3), (0, .ref (z + t0)), (1, .int p0), (3, .int x21_3)]) hx hb dX4_favourite_51 rfl hl (by decide) rfl (fun ls hl => ?_)
        exact C52 I50_ _ _ ls x21_3 hW hS hF hO (dkN_sub r50_1 rfl) (dkN_sub r50_1 rfl) (show dkN [(1, 5)] (I50_ t0 4) from dkN_sub f50_0 rfl) (lv_sub hl [1, 2, 0, 3] rfl)
      refine lv_iload_n hx hb dX4_favourite_21 rfl (lv_at hl 3 rfl) ?_
      refine lv_aload_n hx hb dX4_favourite_22 rfl (lv_at hl 0 rfl) ?_
      refine dk_get (k := t0) hx hb hts iX4_favourite_4 hown hK (dk_aT0 ht0 hW) rfl 4 (by decide) (hts (.fieldLink RX4 55 "DogKings$Town" "people" "I") (List.mem_of_getElem? (i := 3) rfl)) rfl dX4_favourite_23 ?_
      refine lv_topi (fun v2 ev2 => ?_)
      have dv2 : dkN [(0, 5)] v2 := by rw [ev2]; exact (dkO_at hO ht0 (c := 0) (by decide) 4)
      refine lv_icmp_ge (tgt := 58) hx hb dX4_favourite_26 (by decide) (fun c3 => ?_) (fun c3 => ?_)
      ·
        refine lv_aload_n hx hb dX4_favourite_58 rfl (lv_at hl 0 rfl) ?_
        refine dk_get (k := t0) hx hb hts iX4_favourite_4 hown hK (dk_aT0 ht0 hW) rfl 12 (by decide) (hts (.fieldLink RX4 30 "DogKings$Town" "sort" "[I") (List.mem_of_getElem? (i := 1) rfl)) rfl dX4_favourite_59 ?_
        refine lv_iload_n hx hb dX4_favourite_62 rfl (lv_at hl 1 rfl) ?_
        refine dk_ild (k := (t0 + 7)) hx hb hK (dk_aT7 ht0 hW) (dkN_in (n := 6) dp0 rfl) dX4_favourite_63 ?_
        refine lv_topi (fun v4 ev4 => ?_)
        refine lv_iconst (v := 3) hx hb dX4_favourite_64 (by decide) ?_
        refine lv_icmp_ne (tgt := 88) hx hb dX4_favourite_65 (by decide) (fun c5 => ?_) (fun c5 => ?_)
        ·
          have d6 : dkN [(-2147483648, 2), (4, 2147483647)] v4 := dkN_ne1 (3) (dkN_top v4) (dkN_lit (x := 3) (3) rfl) (dk_ne c5) rfl
          refine lv_iload_n hx hb dX4_favourite_88 rfl (lv_at hl 2 rfl) ?_
          exact W.iret (v := x21_2) hx hb hr (fun t ht hW9 => ⟨⟨x21_2, I21_, rfl, ⟨hF, hO, ⟨dkN_sub k21_0 rfl, trivial⟩⟩, dkW_eq ht hW⟩, hS.F ht⟩) hS.2.2 dX4_favourite_89
        ·
          have d7 : dkN [(3, 3)] v4 := dkN_eq1 (dkN_top v4) (dkN_lit (x := 3) (3) rfl) (congrArg Int32.toInt c5) rfl
          refine lv_iload_n hx hb dX4_favourite_68 rfl (lv_at hl 2 rfl) ?_
          refine lv_ldc (v := (-1000000)) hx hb hown (hts (.constant RX4 89 (-1000000)) (List.mem_of_getElem? (i := 2) rfl)) dX4_favourite_69 ?_
          refine lv_icmp_eq (tgt := 88) hx hb dX4_favourite_71 (by decide) (fun c8 => ?_) (fun c8 => ?_)
          ·
            have d9 : dkN [(-1000000, -1000000)] x21_2 := dkN_eq1 k21_0 (dkN_lit (x := (-1000000)) (-1000000) rfl) (congrArg Int32.toInt c8) rfl
            refine lv_iload_n hx hb dX4_favourite_88 rfl (lv_at hl 2 rfl) ?_
            exact W.iret (v := x21_2) hx hb hr (fun t ht hW9 => ⟨⟨x21_2, I21_, rfl, ⟨hF, hO, ⟨dkN_sub d9 rfl, trivial⟩⟩, dkW_eq ht hW⟩, hS.F ht⟩) hS.2.2 dX4_favourite_89
          ·
            have d10 : dkN [(0, 4)] x21_2 := dkN_ne1 (-1000000) k21_0 (dkN_lit (x := (-1000000)) (-1000000) rfl) (dk_ne c8) rfl
            refine lv_aload_n hx hb dX4_favourite_74 rfl (lv_at hl 0 rfl) ?_
            refine lv_iload_n hx hb dX4_favourite_75 rfl (lv_at hl 2 rfl) ?_
            refine lv_iload_n hx hb dX4_favourite_76 rfl (lv_at hl 1 rfl) ?_
            refine dk_Vi (As := [.int x21_2, .int p0]) (rest := []) ⟨hx, hb, hml, hown, hts⟩ (c_X4_pull_0 l g z I21_ t0 ht0 x21_2 p0 d10 dp0 hO) (cwV 2 hts gX4_favourite_X4_pull rfl rfl rfl (by decide +kernel) ⟨Nat.le_of_ble_eq_true rfl, Nat.le_of_ble_eq_true rfl⟩) (dk_aT0 ht0 hW) rfl hK hT hW hS rfl hl.1 rfl (Nat.le_of_ble_eq_true rfl) dX4_favourite_77 ⟨Nat.zero_le _, Nat.zero_le _⟩ (fun v11 I11 H11 L11 hp11 hW hS => ?_)
            obtain ⟨hF11, hO, hc11⟩ := hp11
            have hF := dkF_call hF hF11 rfl
            obtain ⟨_, -⟩ := hc11
            refine lv_if_gt (tgt := 88) hx hb dX4_favourite_80 (by decide) (fun c12 => ?_) (fun c12 => ?_)
            ·
              have d13 : dkN [(1, 2147483647)] v11 := dkN_le2 1 (dkN_lit (x := 0) (0) rfl) (dkN_top v11) (dkc_lt c12) rfl
              refine lv_iload_n hx hb dX4_favourite_88 rfl (lv_at hl 2 rfl) ?_
              exact W.iret (v := x21_2) hx hb hr (fun t ht hW9 => ⟨⟨x21_2, I11, rfl, ⟨hF, hO, ⟨dkN_sub d10 rfl, trivial⟩⟩, dkW_eq ht hW⟩, hS.F ht⟩) hS.2.2 dX4_favourite_89
            ·
              have d14 : dkN [(-2147483648, 0)] v11 := dkN_le1 0 (dkN_top v11) (dkN_lit (x := 0) (0) rfl) (dkc_nlt c12) rfl
              refine lv_ldc (v := (-1000000)) hx hb hown (hts (.constant RX4 89 (-1000000)) (List.mem_of_getElem? (i := 2) rfl)) dX4_favourite_83 ?_
              refine lv_goto (tgt := 89) hx hb dX4_favourite_85 (by decide) ?_
              exact W.iret (v := (-1000000)) hx hb hr (fun t ht hW9 => ⟨⟨(-1000000), I11, rfl, ⟨hF, hO, ⟨dkN_sub (dkN_lit (x := (-1000000)) (-1000000) rfl) rfl, trivial⟩⟩, dkW_eq ht hW⟩, hS.F ht⟩) hS.2.2 dX4_favourite_89
      ·
        have d15 : dkN [(1, 5)] v2 := dkN_le2 1 k21_1 dv2 (dkc_nle c3) rfl
        have f16 : dkN [(1, 5)] (I21_ t0 4) := by rw [← ev2]; exact d15
        have d17 : dkN [(0, 4)] x21_3 := dkN_le1 1 k21_1 dv2 (dkc_nle c3) rfl
        refine lv_iload_n hx hb dX4_favourite_29 rfl (lv_at hl 2 rfl) ?_
        refine lv_ldc (v := (-1000000)) hx hb hown (hts (.constant RX4 89 (-1000000)) (List.mem_of_getElem? (i := 2) rfl)) dX4_favourite_30 ?_
        refine lv_icmp_eq (tgt := 50) hx hb dX4_favourite_32 (by decide) (fun c18 => ?_) (fun c18 => ?_)
        ·
          have d19 : dkN [(-1000000, -1000000)] x21_2 := dkN_eq1 k21_0 (dkN_lit (x := (-1000000)) (-1000000) rfl) (congrArg Int32.toInt c18) rfl
          exact C50 I21_ _ _ ls  hW hS hF hO (dkN_sub d19 rfl) (dkN_sub d17 rfl) (show dkN [(1, 5)] (I21_ t0 4) from dkN_sub f16 rfl) (lv_sub hl [0, 1, 2, 3] rfl)
        ·
          have d20 : dkN [(0, 4)] x21_2 := dkN_ne1 (-1000000) k21_0 (dkN_lit (x := (-1000000)) (-1000000) rfl) (dk_ne c18) rfl
          refine lv_aload_n hx hb dX4_favourite_35 rfl (lv_at hl 0 rfl) ?_
          refine lv_iload_n hx hb dX4_favourite_36 rfl (lv_at hl 3 rfl) ?_
          refine lv_iload_n hx hb dX4_favourite_37 rfl (lv_at hl 1 rfl) ?_
          refine dk_Vi (As := [.int x21_3, .int p0]) (rest := []) ⟨hx, hb, hml, hown, hts⟩ (c_X4_pull_0 l g z I21_ t0 ht0 x21_3 p0 d17 dp0 hO) (cwV 2 hts gX4_favourite_X4_pull rfl rfl rfl (by decide +kernel) ⟨Nat.le_of_ble_eq_true rfl, Nat.le_of_ble_eq_true rfl⟩) (dk_aT0 ht0 hW) rfl hK hT hW hS rfl hl.1 rfl (Nat.le_of_ble_eq_true rfl) dX4_favourite_38 ⟨Nat.zero_le _, Nat.zero_le _⟩ (fun v21 I21 H21 L21 hp21 hW hS => ?_)
          obtain ⟨hF21, hO, hc21⟩ := hp21
          have hF := dkF_call hF hF21 rfl
          obtain ⟨_, -⟩ := hc21
          refine lv_aload_n hx hb dX4_favourite_41 rfl (lv_at hl 0 rfl) ?_
          refine lv_iload_n hx hb dX4_favourite_42 rfl (lv_at hl 2 rfl) ?_
          refine lv_iload_n hx hb dX4_favourite_43 rfl (lv_at hl 1 rfl) ?_
          refine dk_Vi (As := [.int x21_2, .int p0]) (rest := [.int v21]) ⟨hx, hb, hml, hown, hts⟩ (c_X4_pull_0 l g z I21 t0 ht0 x21_2 p0 d20 dp0 hO) (cwV 2 hts gX4_favourite_X4_pull rfl rfl rfl (by decide +kernel) ⟨Nat.le_of_ble_eq_true rfl, Nat.le_of_ble_eq_true rfl⟩) (dk_aT0 ht0 hW) rfl hK hT hW hS rfl hl.1 rfl (Nat.le_of_ble_eq_true rfl) dX4_favourite_44 ⟨Nat.zero_le _, Nat.zero_le _⟩ (fun v22 I22 H22 L22 hp22 hW hS => ?_)
          obtain ⟨hF22, hO, hc22⟩ := hp22
          have hF := dkF_call hF hF22 rfl
          obtain ⟨_, -⟩ := hc22
          refine lv_icmp_le (tgt := 52) hx hb dX4_favourite_47 (by decide) (fun c23 => ?_) (fun c23 => ?_)
          ·
            exact C52 I22 _ _ ls x21_2 hW hS hF hO (dkN_sub d20 rfl) (dkN_sub d17 rfl) (show dkN [(1, 5)] (I22 t0 4) from dkN_sub (by rw [hF22 t0 4 dkNin_nil]; exact (by rw [hF21 t0 4 dkNin_nil]; exact f16)) rfl) (lv_sub hl [0, 1, 2, 3] rfl)
          ·
            have d24 : dkN [(-2147483647, 2147483647)] v21 := dkN_le2 1 (dkN_top v22) (dkN_top v21) (dkc_nle c23) rfl
            have d25 : dkN [(-2147483648, 2147483646)] v22 := dkN_le1 1 (dkN_top v22) (dkN_top v21) (dkc_nle c23) rfl
            exact C50 I22 _ _ ls  hW hS hF hO (dkN_sub d20 rfl) (dkN_sub d17 rfl) (show dkN [(1, 5)] (I22 t0 4) from dkN_sub (by rw [hF22 t0 4 dkNin_nil]; exact (by rw [hF21 t0 4 dkNin_nil]; exact f16)) rfl) (lv_sub hl [0, 1, 2, 3] rfl)
  refine lv_aload_n hx hb dX4_favourite_0 rfl (lv_at hl 0 rfl) ?_
  refine dk_get (k := t0) hx hb hts iX4_favourite_4 hown hK (dk_aT0 ht0 hW) rfl 12 (by decide) (hts (.fieldLink RX4 30 "DogKings$Town" "sort" "[I") (List.mem_of_getElem? (i := 1) rfl)) rfl dX4_favourite_1 ?_
  refine lv_iload_n hx hb dX4_favourite_4 rfl (lv_at hl 1 rfl) ?_
  refine dk_ild (k := (t0 + 7)) hx hb hK (dk_aT7 ht0 hW) (dkN_in (n := 6) dp0 rfl) dX4_favourite_5 ?_
  refine lv_topi (fun v26 ev26 => ?_)
  refine lv_iconst (v := 1) hx hb dX4_favourite_6 (by decide) ?_
  refine dk_SiN (As := [.int v26, .int 1]) (rest := []) ⟨hx, hb, hml, hown, hts⟩ (c_X5_isA_1 l g z I0 v26 1 (dkN_lit (x := 1) (1) rfl) hO) ⟨va_cnB 2 hts gX4_favourite_X5_isA_n112 rfl rfl rfl (hK.2.1 (RX4, 112, yX5_isA) (by decide)) (hts (.initialized RX5) (List.mem_of_getElem? (i := 5) rfl)) (by decide +kernel) ⟨Nat.le_of_ble_eq_true rfl, Nat.le_of_ble_eq_true rfl⟩, (hts (.static yX5_isA) (List.mem_of_getElem? (i := 4) rfl)), trivial⟩ hK hT hW hS rfl hl.1 rfl (Nat.le_of_ble_eq_true rfl) dX4_favourite_7 ⟨Nat.zero_le _, Nat.zero_le _⟩ (fun v27 I27 H27 L27 hp27 hW hS => ?_)
  obtain ⟨hF27, hO, hc27⟩ := hp27
  have hF := dkF_call hF hF27 rfl
  rcases hc27 with ⟨dv27, a27_0, -⟩ | hc27
  ·
    have d28 : dkN [(-2147483648, 0), (4, 2147483647)] v26 := dkN_eq1 (dkN_top v26) a27_0 rfl rfl
    refine lv_if_ne (tgt := 16) hx hb dX4_favourite_10 (by decide) (fun c29 => ?_) (fun c29 => ?_)
    ·
      exact (dkN_nil (show dkN [] v27 from dkN_ne1 (0) dv27 (dkN_lit (x := 0) (0) rfl) (dk_ne c29) rfl)).elim
    ·
      refine lv_ldc (v := (-1000000)) hx hb hown (hts (.constant RX4 89 (-1000000)) (List.mem_of_getElem? (i := 2) rfl)) dX4_favourite_13 ?_
      exact W.iret (v := (-1000000)) hx hb hr (fun t ht hW9 => ⟨⟨(-1000000), I27, rfl, ⟨hF, hO, ⟨dkN_sub (dkN_lit (x := (-1000000)) (-1000000) rfl) rfl, trivial⟩⟩, dkW_eq ht hW⟩, hS.F ht⟩) hS.2.2 dX4_favourite_15
  ·
    obtain ⟨dv27, a27_0, -⟩ := hc27
    have d30 : dkN [(1, 3)] v26 := dkN_eq1 (dkN_top v26) a27_0 rfl rfl
    refine lv_if_ne (tgt := 16) hx hb dX4_favourite_10 (by decide) (fun c31 => ?_) (fun c31 => ?_)
    ·
      refine lv_ldc (v := (-1000000)) hx hb hown (hts (.constant RX4 89 (-1000000)) (List.mem_of_getElem? (i := 2) rfl)) dX4_favourite_16 ?_
      refine lv_istore_n (lv' := [(2, .int ((-1000000))), (0, .ref (z + t0)), (1, .int p0)]) hx hb dX4_favourite_18 rfl hl (by decide) rfl (fun ls hl => ?_)
      refine lv_iconst (v := 0) hx hb dX4_favourite_19 (by decide) ?_
      refine lv_istore_n (lv' := [(3, .int 0), (2, .int ((-1000000))), (0, .ref (z + t0)), (1, .int p0)]) hx hb dX4_favourite_20 rfl hl (by decide) rfl (fun ls hl => ?_)
      exact C21 _ I27 _ _ ls ((-1000000)) 0 (Nat.lt_succ_self _) hW hS hF hO (dkN_sub (dkN_lit (x := (-1000000)) (-1000000) rfl) rfl) (dkN_sub (dkN_lit (x := 0) (0) rfl) rfl) (lv_sub hl [2, 3, 1, 0] rfl)
    ·
      exact (dkN_nil (show dkN [] v27 from dkN_eq1 dv27 (dkN_lit (x := 0) (0) rfl) (congrArg Int32.toInt c31) rfl)).elim
set_option maxHeartbeats 4000000 in
set_option maxRecDepth 100000 in
theorem c_X4_countOthers_0 (l : Launch) (g : dkG) (z : Nat) (I0 : dkI) (t0 : Nat) (ht0 : dkT t0) (p0 : Int32)  (hO : dkOk I0) : Met l yX4_countOthers wsX4_countOthers (dkR 1) (dkPc g z [.ref (z + t0), .int p0] I0) (dkQv g z (fun I1 => dkF [(t0 + 10, t0 + 10, 0, 8)] I0 I1 ∧ dkOk I1 ∧ ((True)))) 0 0 (dkA z) := by
  refine Met.ofW (cc := cX4_countOthers) (maxL := 4) (ret := none) (by decide) rfl ?_
  intro p e s m args below meth c s₁ B hml hv
  obtain ⟨ha, hW, hK, hT⟩ := hv
  have hx := B.exec
  have hb := B.bytes
  have hr := B.returns
  have hts := atoms_spec (ws := wsX4_countOthers) B.pre
  have hown : s.vm.findClass RX4 = some m.cls := findClass_of_methodNamed B.named
  have hlocks := B.notSynchronized
  have hS : va_S (dkA z) s.heap s.heap [] := va_S.rf
  have hF : dkF [(t0 + 10, t0 + 10, 0, 8)] I0 I0 := dkF_rf _ _
  have hl := lv_entry ([.ref (z + t0), .int p0]) (n := 4) (Nat.le_of_ble_eq_true rfl)
  have hgo : entryFrame m args 4 = entryFrame m ([.ref (z + t0), .int p0] : List Value).toArray 4 := by rw [ha]
  rw [hgo, lg_entry_eq]
  generalize (lg_sl ([.ref (z + t0), .int p0]) ++ List.replicate (4 - (lg_sl ([.ref (z + t0), .int p0])).length) Slot.unset).toArray = ls at hl ⊢
  have hl : lv_has ls 4 [(0, .ref (z + t0)), (1, .int p0)] := hl
  have C25 : ∀ (n : Nat), ∀ (I : dkI) (H : Heap) (locs : List Loc) (ls : Array Slot) (x25_2 : Int32), (6 - x25_2.toInt).toNat < n → dkW g z I H → va_S (dkA z) s.heap H locs → dkF [(t0 + 10, t0 + 10, 0, 8)] I0 I → dkOk I → dkN [(0, 6)] x25_2 → lv_has ls 4 [(0, .ref (z + t0)), (1, .int p0), (2, .int x25_2)] → W p l e (headSpec wsX4_countOthers (dkR 1)).room s m args below meth c H locs 0 0 (MQ below (dkQv g z (fun I1 => dkF [(t0 + 10, t0 + 10, 0, 8)] I0 I1 ∧ dkOk I1 ∧ ((True)))) args s 0 0 (dkA z)) (F0 m 25 ls []) := by
    intro n
    induction n with
    | zero => intro I H locs ls x25_2 hn; exact absurd hn (Nat.not_lt_zero _)
    | succ n ih25 =>
      intro I25_ H locs ls x25_2 hn25 hW hS hF_25 hO k25_0 hl
      have hF := hF_25
      have C78 : ∀ (I : dkI) (H : Heap) (locs : List Loc) (ls : Array Slot) (x78_3 : Int32), dkW g z I H → va_S (dkA z) s.heap H locs → dkF [(t0 + 10, t0 + 10, 0, 8)] I0 I → dkOk I → dkN [(0, 5)] x25_2 → dkN [(1, 6)] (I t0 11) → lv_has ls 4 [(0, .ref (z + t0)), (1, .int p0), (2, .int x25_2), (3, .int x78_3)] → W p l e (headSpec wsX4_countOthers (dkR 1)).room s m args below meth c H locs 0 0 (MQ below (dkQv g z (fun I1 => dkF [(t0 + 10, t0 + 10, 0, 8)] I0 I1 ∧ dkOk I1 ∧ ((True)))) args s 0 0 (dkA z)) (F0 m 78 ls []) := by
        intro I78_ H locs ls x78_3 hW hS hF_78 hO r78_0 f78_0 hl
        have hF := hF_78
        obtain ⟨v1, ev1⟩ : ∃ y : Int32, y = x25_2 + 1 := ⟨_, rfl⟩
        have dv1 : dkN [(1, 6)] v1 := by rw [ev1]; exact dkN_add r78_0 (dkN_lit (x := 1) (1) rfl) rfl
        refine lv_iinc (v := v1) (lv' := [(2, .int v1), (0, .ref (z + t0)), (1, .int p0), (3, .int x78_3)]) hx hb dX4_countOthers_78 hl (k := 2) rfl (by rw [ev1]; rfl) (by decide) rfl (fun ls hl => ?_)
        refine lv_goto (tgt := 25) hx hb dX4_countOthers_81 (by decide) ?_
        exact ih25 I78_ _ _ ls v1 (dk_near hn25 (by rw [ev1]; exact dk_inc r78_0 rfl) (dkN_lt r78_0 rfl)) hW hS hF hO (dkN_sub dv1 rfl) (lv_sub hl [1, 2, 0] rfl)
      refine lv_iload_n hx hb dX4_countOthers_25 rfl (lv_at hl 2 rfl) ?_
      refine lv_aload_n hx hb dX4_countOthers_26 rfl (lv_at hl 0 rfl) ?_
      refine dk_get (k := t0) hx hb hts iX4_countOthers_4 hown hK (dk_aT0 ht0 hW) rfl 11 (by decide) (hts (.fieldLink RX4 58 "DogKings$Town" "dogs" "I") (List.mem_of_getElem? (i := 3) rfl)) rfl dX4_countOthers_27 ?_
      refine lv_topi (fun v2 ev2 => ?_)
      have dv2 : dkN [(0, 6)] v2 := by rw [ev2]; exact (dkO_at hO ht0 (c := 0) (by decide) 11)
      refine lv_icmp_ge (tgt := 84) hx hb dX4_countOthers_30 (by decide) (fun c3 => ?_) (fun c3 => ?_)
      ·
        exact W.vret hx hb hr (fun t ht hW9 => ⟨⟨I25_, rfl, ⟨hF, hO, trivial⟩, dkW_eq ht hW⟩, hS.F ht⟩) hS.2.2 dX4_countOthers_84
      ·
        have d4 : dkN [(1, 6)] v2 := dkN_le2 1 k25_0 dv2 (dkc_nle c3) rfl
        have f5 : dkN [(1, 6)] (I25_ t0 11) := by rw [← ev2]; exact d4
        have d6 : dkN [(0, 5)] x25_2 := dkN_le1 1 k25_0 dv2 (dkc_nle c3) rfl
        refine lv_aload_n hx hb dX4_countOthers_33 rfl (lv_at hl 0 rfl) ?_
        refine dk_get (k := t0) hx hb hts iX4_countOthers_4 hown hK (dk_aT0 ht0 hW) rfl 14 (by decide) (hts (.fieldLink RX4 36 "DogKings$Town" "dogAt" "[I") (List.mem_of_getElem? (i := 4) rfl)) rfl dX4_countOthers_34 ?_
        refine lv_iload_n hx hb dX4_countOthers_37 rfl (lv_at hl 2 rfl) ?_
        refine dk_ild (k := (t0 + 9)) hx hb hK (dk_aT9 ht0 hW) (dkN_in (n := 6) d6 rfl) dX4_countOthers_38 ?_
        refine lv_topi (fun v7 ev7 => ?_)
        refine lv_istore_n (lv' := [(3, .int v7), (0, .ref (z + t0)), (1, .int p0), (2, .int x25_2)]) hx hb dX4_countOthers_39 rfl hl (by decide) rfl (fun ls hl => ?_)
        refine lv_iload_n hx hb dX4_countOthers_40 rfl (lv_at hl 3 rfl) ?_
        refine lv_iload_n hx hb dX4_countOthers_41 rfl (lv_at hl 2 rfl) ?_
        refine lv_icmp_eq (tgt := 78) hx hb dX4_countOthers_42 (by decide) (fun c8 => ?_) (fun c8 => ?_)
        ·
          have d9 : dkN [(0, 5)] p0 := dkN_eq1 (dkN_top p0) d6 (congrArg Int32.toInt c8).symm rfl
          exact C78 I25_ _ _ ls v7 hW hS hF hO (dkN_sub d6 rfl) (show dkN [(1, 6)] (I25_ t0 11) from dkN_sub f5 rfl) (lv_sub hl [1, 2, 3, 0] rfl)
        ·
          refine lv_aload_n hx hb dX4_countOthers_45 rfl (lv_at hl 1 rfl) ?_
          refine dk_get (k := t0) hx hb hts iX4_countOthers_4 hown hK (dk_aT0 ht0 hW) rfl 15 (by decide) (hts (.fieldLink RX4 61 "DogKings$Town" "dogsThere" "I") (List.mem_of_getElem? (i := 5) rfl)) rfl dX4_countOthers_46 ?_
          refine lv_topi (fun v10 ev10 => ?_)
          refine lv_iload_n hx hb dX4_countOthers_49 rfl (lv_at hl 3 rfl) ?_
          refine dk_SiN (As := [.int v10, .int x25_2]) (rest := []) ⟨hx, hb, hml, hown, hts⟩ (c_X5_holds_0 l g z I25_ v10 x25_2 hO) ⟨va_cnB 2 hts gX4_countOthers_X5_holds_n74 rfl rfl rfl (hK.2.1 (RX4, 74, yX5_holds) (by decide)) (hts (.initialized RX5) (List.mem_of_getElem? (i := 7) rfl)) (by decide +kernel) ⟨Nat.le_of_ble_eq_true rfl, Nat.le_of_ble_eq_true rfl⟩, (hts (.static yX5_holds) (List.mem_of_getElem? (i := 6) rfl)), trivial⟩ hK hT hW hS rfl hl.1 rfl (Nat.le_of_ble_eq_true rfl) dX4_countOthers_50 ⟨Nat.zero_le _, Nat.zero_le _⟩ (fun v11 I11 H11 L11 hp11 hW hS => ?_)
          obtain ⟨hF11, hO, hc11⟩ := hp11
          have hF := dkF_callP hF hF11 dkSub_nil
          obtain ⟨dv11, -⟩ := hc11
          refine lv_if_eq (tgt := 78) hx hb dX4_countOthers_53 (by decide) (fun c12 => ?_) (fun c12 => ?_)
          ·
            have d13 : dkN [(0, 0)] v11 := dkN_eq1 dv11 (dkN_lit (x := 0) (0) rfl) (congrArg Int32.toInt c12) rfl
            exact C78 I11 _ _ ls v7 hW hS hF hO (dkN_sub d6 rfl) (show dkN [(1, 6)] (I11 t0 11) from dkN_sub (by rw [hF11 t0 11 dkNin_nil]; exact f5) rfl) (lv_sub hl [1, 2, 3, 0] rfl)
          ·
            have d14 : dkN [(1, 1)] v11 := dkN_ne1 (0) dv11 (dkN_lit (x := 0) (0) rfl) (dk_ne c12) rfl
            refine lv_iload_n hx hb dX4_countOthers_56 rfl (lv_at hl 0 rfl) ?_
            refine lv_if_lt (tgt := 78) hx hb dX4_countOthers_57 (by decide) (fun c15 => ?_) (fun c15 => ?_)
            ·
              have d16 : dkN [(-2147483648, -1)] v7 := dkN_le1 1 (dkN_top v7) (dkN_lit (x := 0) (0) rfl) (dkc_lt c15) rfl
              exact C78 I11 _ _ ls v7 hW hS hF hO (dkN_sub d6 rfl) (show dkN [(1, 6)] (I11 t0 11) from dkN_sub (by rw [hF11 t0 11 dkNin_nil]; exact f5) rfl) (lv_sub hl [1, 2, 3, 0] rfl)
            ·
              have d17 : dkN [(0, 2147483647)] v7 := dkN_le2 0 (dkN_lit (x := 0) (0) rfl) (dkN_top v7) (dkc_nlt c15) rfl
              refine lv_iload_n hx hb dX4_countOthers_60 rfl (lv_at hl 0 rfl) ?_
              refine lv_aload_n hx hb dX4_countOthers_61 rfl (lv_at hl 1 rfl) ?_
              refine dk_get (k := t0) hx hb hts iX4_countOthers_4 hown hK (dk_aT0 ht0 hW) rfl 0 (by decide) (hts (.fieldLink RX4 42 "DogKings$Town" "places" "I") (List.mem_of_getElem? (i := 1) rfl)) rfl dX4_countOthers_62 ?_
              refine lv_topi (fun v18 ev18 => ?_)
              have dv18 : dkN [(0, 9)] v18 := by rw [ev18]; exact (dkO_at hO ht0 (c := 0) (by decide) 0)
              refine lv_icmp_ge (tgt := 78) hx hb dX4_countOthers_65 (by decide) (fun c19 => ?_) (fun c19 => ?_)
              ·
                exact C78 I11 _ _ ls v7 hW hS hF hO (dkN_sub d6 rfl) (show dkN [(1, 6)] (I11 t0 11) from dkN_sub (by rw [hF11 t0 11 dkNin_nil]; exact f5) rfl) (lv_sub hl [1, 2, 3, 0] rfl)
              ·
                have d20 : dkN [(1, 9)] v18 := dkN_le2 1 d17 dv18 (dkc_nle c19) rfl
                have f21 : dkN [(1, 9)] (I11 t0 0) := by rw [← ev18]; exact d20
                have d22 : dkN [(0, 8)] v7 := dkN_le1 1 d17 dv18 (dkc_nle c19) rfl
                refine lv_aload_n hx hb dX4_countOthers_68 rfl (lv_at hl 1 rfl) ?_
                refine dk_get (k := t0) hx hb hts iX4_countOthers_4 hown hK (dk_aT0 ht0 hW) rfl 18 (by decide) (hts (.fieldLink RX4 39 "DogKings$Town" "others" "[I") (List.mem_of_getElem? (i := 2) rfl)) rfl dX4_countOthers_69 ?_
                refine lv_iload_n hx hb dX4_countOthers_72 rfl (lv_at hl 0 rfl) ?_
                refine lv_dup2_11 hx hb dX4_countOthers_73 rfl rfl ?_
                refine dk_ild (k := (t0 + 10)) hx hb hK (dk_aT10 ht0 hW) (dkN_in (n := 9) d22 rfl) dX4_countOthers_74 ?_
                refine lv_topi (fun v23 ev23 => ?_)
                refine lv_iconst (v := 1) hx hb dX4_countOthers_75 (by decide) ?_
                refine lv_iadd hx hb dX4_countOthers_76 ?_
                refine lv_topi (fun v24 ev24 => ?_)
                refine dk_ist (k := (t0 + 10)) hx hb hK hW (fun _ => dkC_T g z ht0 (c := 10) (by decide) _) (by have := dkT_lt ht0; omega) hS (dkN_in (n := 9) d22 rfl) dX4_countOthers_77 (fun I25 H25 L25 eI25 hW hS => ?_)
                have hO := dkO_setT hO ht0 (c := 10) (by decide) eI25 (dkN_sub (dkN_top v24) rfl)
                have hF := dkF_set hF eI25 (dkIn_atv (i := 0) rfl (Nat.le_refl _) (Nat.le_refl _) d22 rfl)
                exact C78 I25 _ _ ls v7 hW hS hF hO (dkN_sub d6 rfl) (show dkN [(1, 6)] (I25 t0 11) from dkN_sub (by rw [eI25, dkU_n (by omega)]; exact (by rw [hF11 t0 11 dkNin_nil]; exact f5)) rfl) (lv_sub hl [1, 2, 3, 0] rfl)
  have C2 : ∀ (n : Nat), ∀ (I : dkI) (H : Heap) (locs : List Loc) (ls : Array Slot) (x2_2 : Int32), (9 - x2_2.toInt).toNat < n → dkW g z I H → va_S (dkA z) s.heap H locs → dkF [(t0 + 10, t0 + 10, 0, 8)] I0 I → dkOk I → dkN [(0, 9)] x2_2 → lv_has ls 4 [(0, .ref (z + t0)), (1, .int p0), (2, .int x2_2)] → W p l e (headSpec wsX4_countOthers (dkR 1)).room s m args below meth c H locs 0 0 (MQ below (dkQv g z (fun I1 => dkF [(t0 + 10, t0 + 10, 0, 8)] I0 I1 ∧ dkOk I1 ∧ ((True)))) args s 0 0 (dkA z)) (F0 m 2 ls []) := by
    intro n
    induction n with
    | zero => intro I H locs ls x2_2 hn; exact absurd hn (Nat.not_lt_zero _)
    | succ n ih2 =>
      intro I2_ H locs ls x2_2 hn2 hW hS hF_2 hO k2_0 hl
      have hF := hF_2
      refine lv_iload_n hx hb dX4_countOthers_2 rfl (lv_at hl 2 rfl) ?_
      refine lv_aload_n hx hb dX4_countOthers_3 rfl (lv_at hl 0 rfl) ?_
      refine dk_get (k := t0) hx hb hts iX4_countOthers_4 hown hK (dk_aT0 ht0 hW) rfl 0 (by decide) (hts (.fieldLink RX4 42 "DogKings$Town" "places" "I") (List.mem_of_getElem? (i := 1) rfl)) rfl dX4_countOthers_4 ?_
      refine lv_topi (fun v26 ev26 => ?_)
      have dv26 : dkN [(0, 9)] v26 := by rw [ev26]; exact (dkO_at hO ht0 (c := 0) (by decide) 0)
      refine lv_icmp_ge (tgt := 23) hx hb dX4_countOthers_7 (by decide) (fun c27 => ?_) (fun c27 => ?_)
      ·
        refine lv_iconst (v := 0) hx hb dX4_countOthers_23 (by decide) ?_
        refine lv_istore_n (lv' := [(2, .int 0), (0, .ref (z + t0)), (1, .int p0)]) hx hb dX4_countOthers_24 rfl hl (by decide) rfl (fun ls hl => ?_)
        exact C25 _ I2_ _ _ ls 0 (Nat.lt_succ_self _) hW hS hF hO (dkN_sub (dkN_lit (x := 0) (0) rfl) rfl) (lv_sub hl [1, 2, 0] rfl)
      ·
        have d28 : dkN [(1, 9)] v26 := dkN_le2 1 k2_0 dv26 (dkc_nle c27) rfl
        have f29 : dkN [(1, 9)] (I2_ t0 0) := by rw [← ev26]; exact d28
        have d30 : dkN [(0, 8)] x2_2 := dkN_le1 1 k2_0 dv26 (dkc_nle c27) rfl
        refine lv_aload_n hx hb dX4_countOthers_10 rfl (lv_at hl 0 rfl) ?_
        refine dk_get (k := t0) hx hb hts iX4_countOthers_4 hown hK (dk_aT0 ht0 hW) rfl 18 (by decide) (hts (.fieldLink RX4 39 "DogKings$Town" "others" "[I") (List.mem_of_getElem? (i := 2) rfl)) rfl dX4_countOthers_11 ?_
        refine lv_iload_n hx hb dX4_countOthers_14 rfl (lv_at hl 2 rfl) ?_
        refine lv_iconst (v := 0) hx hb dX4_countOthers_15 (by decide) ?_
        refine dk_ist (k := (t0 + 10)) hx hb hK hW (fun _ => dkC_T g z ht0 (c := 10) (by decide) _) (by have := dkT_lt ht0; omega) hS (dkN_in (n := 9) d30 rfl) dX4_countOthers_16 (fun I31 H31 L31 eI31 hW hS => ?_)
        have hO := dkO_setT hO ht0 (c := 10) (by decide) eI31 (dkN_sub (dkN_lit (x := 0) (0) rfl) rfl)
        have hF := dkF_set hF eI31 (dkIn_atv (i := 0) rfl (Nat.le_refl _) (Nat.le_refl _) d30 rfl)
        obtain ⟨v32, ev32⟩ : ∃ y : Int32, y = x2_2 + 1 := ⟨_, rfl⟩
        have dv32 : dkN [(1, 9)] v32 := by rw [ev32]; exact dkN_add d30 (dkN_lit (x := 1) (1) rfl) rfl
        refine lv_iinc (v := v32) (lv' := [(2, .int v32), (0, .ref (z + t0)), (1, .int p0)]) hx hb dX4_countOthers_17 hl (k := 2) rfl (by rw [ev32]; rfl) (by decide) rfl (fun ls hl => ?_)
        refine lv_goto (tgt := 2) hx hb dX4_countOthers_20 (by decide) ?_
        exact ih2 I31 _ _ ls v32 (dk_near hn2 (by rw [ev32]; exact dk_inc d30 rfl) (dkN_lt d30 rfl)) hW hS hF hO (dkN_sub dv32 rfl) (lv_sub hl [1, 2, 0] rfl)
  refine lv_iconst (v := 0) hx hb dX4_countOthers_0 (by decide) ?_
  refine lv_istore_n (lv' := [(2, .int 0), (0, .ref (z + t0)), (1, .int p0)]) hx hb dX4_countOthers_1 rfl hl (by decide) rfl (fun ls hl => ?_)
  exact C2 _ I0 _ _ ls 0 (Nat.lt_succ_self _) hW hS hF hO (dkN_sub (dkN_lit (x := 0) (0) rfl) rfl) (lv_sub hl [1, 2, 0] rfl)
set_option maxHeartbeats 4000000 in
set_option maxRecDepth 100000 in
theorem c_X4_fullestPlace_0 (l : Launch) (g : dkG) (z : Nat) (I0 : dkI) (t0 : Nat) (ht0 : dkT t0)  (hO : dkOk I0) : Met l yX4_fullestPlace wsX4_fullestPlace (dkR 0) (dkPc g z [.ref (z + t0)] I0) (dkQi g z (fun r I1 => dkF [] I0 I1 ∧ dkOk I1 ∧ ((dkN [(-1000000, -1000000), (0, 8)] r ∧ True)))) 0 0 (dkA z) := by
  refine Met.ofW (cc := cX4_fullestPlace) (maxL := 4) (ret := (some .int)) (by decide) rfl ?_
  intro p e s m args below meth c s₁ B hml hv
  obtain ⟨ha, hW, hK, hT⟩ := hv
  have hx := B.exec
  have hb := B.bytes
  have hr := B.returns
  have hts := atoms_spec (ws := wsX4_fullestPlace) B.pre
  have hown : s.vm.findClass RX4 = some m.cls := findClass_of_methodNamed B.named
  have hlocks := B.notSynchronized
  have hS : va_S (dkA z) s.heap s.heap [] := va_S.rf
  have hF : dkF [] I0 I0 := dkF_rf _ _
  have hl := lv_entry ([.ref (z + t0)]) (n := 4) (Nat.le_of_ble_eq_true rfl)
  have hgo : entryFrame m args 4 = entryFrame m ([.ref (z + t0)] : List Value).toArray 4 := by rw [ha]
  rw [hgo, lg_entry_eq]
  generalize (lg_sl ([.ref (z + t0)]) ++ List.replicate (4 - (lg_sl ([.ref (z + t0)])).length) Slot.unset).toArray = ls at hl ⊢
  have hl : lv_has ls 4 [(0, .ref (z + t0))] := hl
  have C7 : ∀ (n : Nat), ∀ (I : dkI) (H : Heap) (locs : List Loc) (ls : Array Slot) (x7_1 : Int32) (x7_2 : Int32) (x7_3 : Int32), (9 - x7_3.toInt).toNat < n → dkW g z I H → va_S (dkA z) s.heap H locs → dkF [] I0 I → dkOk I → dkN [(-1000000, -1000000), (0, 8)] x7_1 → dkN [(0, 9)] x7_3 → lv_has ls 4 [(0, .ref (z + t0)), (1, .int x7_1), (2, .int x7_2), (3, .int x7_3)] → W p l e (headSpec wsX4_fullestPlace (dkR 0)).room s m args below meth c H locs 0 0 (MQ below (dkQi g z (fun r I1 => dkF [] I0 I1 ∧ dkOk I1 ∧ ((dkN [(-1000000, -1000000), (0, 8)] r ∧ True)))) args s 0 0 (dkA z)) (F0 m 7 ls []) := by
    intro n
    induction n with
    | zero => intro I H locs ls x7_1 x7_2 x7_3 hn; exact absurd hn (Nat.not_lt_zero _)
    | succ n ih7 =>
      intro I7_ H locs ls x7_1 x7_2 x7_3 hn7 hW hS hF_7 hO k7_0 k7_2 hl
      have hF := hF_7
      have C34 : ∀ (I : dkI) (H : Heap) (locs : List Loc) (ls : Array Slot) (x34_1 : Int32) (x34_2 : Int32), dkW g z I H → va_S (dkA z) s.heap H locs → dkF [] I0 I → dkOk I → dkN [(-1000000, -1000000), (0, 8)] x34_1 → dkN [(0, 8)] x7_3 → dkN [(1, 9)] (I t0 0) → lv_has ls 4 [(0, .ref (z + t0)), (1, .int x34_1), (2, .int x34_2), (3, .int x7_3)] → W p l e (headSpec wsX4_fullestPlace (dkR 0)).room s m args below meth c H locs 0 0 (MQ below (dkQi g z (fun r I1 => dkF [] I0 I1 ∧ dkOk I1 ∧ ((dkN [(-1000000, -1000000), (0, 8)] r ∧ True)))) args s 0 0 (dkA z)) (F0 m 34 ls []) := by
        intro I34_ H locs ls x34_1 x34_2 hW hS hF_34 hO k34_0 r34_0 f34_0 hl
        have hF := hF_34
        obtain ⟨v1, ev1⟩ : ∃ y : Int32, y = x7_3 + 1 := ⟨_, rfl⟩
        have dv1 : dkN [(1, 9)] v1 := by rw [ev1]; exact dkN_add r34_0 (dkN_lit (x := 1) (1) rfl) rfl
        refine lv_iinc (v := v1) (lv' := [(3, .int v1), (0, .ref (z + t0)), (1, .int x34_1), (2, .int x34_2)]) hx hb dX4_fullestPlace_34 hl (k := 3) rfl (by rw [ev1]; rfl) (by decide) rfl (fun ls hl => ?_)
        refine lv_goto (tgt := 7) hx hb dX4_fullestPlace_37 (by decide) ?_
        exact ih7 I34_ _ _ ls x34_1 x34_2 v1 (dk_near hn7 (by rw [ev1]; exact dk_inc r34_0 rfl) (dkN_lt r34_0 rfl)) hW hS hF hO (dkN_sub k34_0 rfl) (dkN_sub dv1 rfl) (lv_sub hl [1, 2, 3, 0] rfl)
      refine lv_iload_n hx hb dX4_fullestPlace_7 rfl (lv_at hl 3 rfl) ?_
      refine lv_aload_n hx hb dX4_fullestPlace_8 rfl (lv_at hl 0 rfl) ?_
      refine dk_get (k := t0) hx hb hts iX4_fullestPlace_4 hown hK (dk_aT0 ht0 hW) rfl 0 (by decide) (hts (.fieldLink RX4 42 "DogKings$Town" "places" "I") (List.mem_of_getElem? (i := 2) rfl)) rfl dX4_fullestPlace_9 ?_
      refine lv_topi (fun v2 ev2 => ?_)
      have dv2 : dkN [(0, 9)] v2 := by rw [ev2]; exact (dkO_at hO ht0 (c := 0) (by decide) 0)
      refine lv_icmp_ge (tgt := 40) hx hb dX4_fullestPlace_12 (by decide) (fun c3 => ?_) (fun c3 => ?_)
      ·
        refine lv_iload_n hx hb dX4_fullestPlace_40 rfl (lv_at hl 1 rfl) ?_
        exact W.iret (v := x7_1) hx hb hr (fun t ht hW9 => ⟨⟨x7_1, I7_, rfl, ⟨hF, hO, ⟨dkN_sub k7_0 rfl, trivial⟩⟩, dkW_eq ht hW⟩, hS.F ht⟩) hS.2.2 dX4_fullestPlace_41
      ·
        have d4 : dkN [(1, 9)] v2 := dkN_le2 1 k7_2 dv2 (dkc_nle c3) rfl
        have f5 : dkN [(1, 9)] (I7_ t0 0) := by rw [← ev2]; exact d4
        have d6 : dkN [(0, 8)] x7_3 := dkN_le1 1 k7_2 dv2 (dkc_nle c3) rfl
        refine lv_aload_n hx hb dX4_fullestPlace_15 rfl (lv_at hl 0 rfl) ?_
        refine dk_get (k := t0) hx hb hts iX4_fullestPlace_4 hown hK (dk_aT0 ht0 hW) rfl 18 (by decide) (hts (.fieldLink RX4 39 "DogKings$Town" "others" "[I") (List.mem_of_getElem? (i := 3) rfl)) rfl dX4_fullestPlace_16 ?_
        refine lv_iload_n hx hb dX4_fullestPlace_19 rfl (lv_at hl 3 rfl) ?_
        refine dk_ild (k := (t0 + 10)) hx hb hK (dk_aT10 ht0 hW) (dkN_in (n := 9) d6 rfl) dX4_fullestPlace_20 ?_
        refine lv_topi (fun v7 ev7 => ?_)
        refine lv_iload_n hx hb dX4_fullestPlace_21 rfl (lv_at hl 2 rfl) ?_
        refine lv_icmp_le (tgt := 34) hx hb dX4_fullestPlace_22 (by decide) (fun c8 => ?_) (fun c8 => ?_)
        ·
          exact C34 I7_ _ _ ls x7_1 x7_2 hW hS hF hO (dkN_sub k7_0 rfl) (dkN_sub d6 rfl) (show dkN [(1, 9)] (I7_ t0 0) from dkN_sub f5 rfl) (lv_sub hl [0, 1, 2, 3] rfl)
        ·
          have d9 : dkN [(-2147483647, 2147483647)] v7 := dkN_le2 1 (dkN_top x7_2) (dkN_top v7) (dkc_nle c8) rfl
          have d10 : dkN [(-2147483648, 2147483646)] x7_2 := dkN_le1 1 (dkN_top x7_2) (dkN_top v7) (dkc_nle c8) rfl
          refine lv_aload_n hx hb dX4_fullestPlace_25 rfl (lv_at hl 0 rfl) ?_
          refine dk_get (k := t0) hx hb hts iX4_fullestPlace_4 hown hK (dk_aT0 ht0 hW) rfl 18 (by decide) (hts (.fieldLink RX4 39 "DogKings$Town" "others" "[I") (List.mem_of_getElem? (i := 3) rfl)) rfl dX4_fullestPlace_26 ?_
          refine lv_iload_n hx hb dX4_fullestPlace_29 rfl (lv_at hl 3 rfl) ?_
          refine dk_ild (k := (t0 + 10)) hx hb hK (dk_aT10 ht0 hW) (dkN_in (n := 9) d6 rfl) dX4_fullestPlace_30 ?_
          refine lv_topi (fun v11 ev11 => ?_)
          refine lv_istore_n (lv' := [(2, .int v11), (0, .ref (z + t0)), (1, .int x7_1), (3, .int x7_3)]) hx hb dX4_fullestPlace_31 rfl hl (by decide) rfl (fun ls hl => ?_)
          refine lv_iload_n hx hb dX4_fullestPlace_32 rfl (lv_at hl 3 rfl) ?_
          refine lv_istore_n (lv' := [(1, .int x7_3), (2, .int v11), (0, .ref (z + t0)), (3, .int x7_3)]) hx hb dX4_fullestPlace_33 rfl hl (by decide) rfl (fun ls hl => ?_)
          exact C34 I7_ _ _ ls x7_3 v11 hW hS hF hO (dkN_sub d6 rfl) (dkN_sub d6 rfl) (show dkN [(1, 9)] (I7_ t0 0) from dkN_sub f5 rfl) (lv_sub hl [2, 0, 1, 3] rfl)
  refine lv_ldc (v := (-1000000)) hx hb hown (hts (.constant RX4 89 (-1000000)) (List.mem_of_getElem? (i := 1) rfl)) dX4_fullestPlace_0 ?_
  refine lv_istore_n (lv' := [(1, .int ((-1000000))), (0, .ref (z + t0))]) hx hb dX4_fullestPlace_2 rfl hl (by decide) rfl (fun ls hl => ?_)
  refine lv_iconst (v := 0) hx hb dX4_fullestPlace_3 (by decide) ?_
  refine lv_istore_n (lv' := [(2, .int 0), (1, .int ((-1000000))), (0, .ref (z + t0))]) hx hb dX4_fullestPlace_4 rfl hl (by decide) rfl (fun ls hl => ?_)
  refine lv_iconst (v := 0) hx hb dX4_fullestPlace_5 (by decide) ?_
  refine lv_istore_n (lv' := [(3, .int 0), (2, .int 0), (1, .int ((-1000000))), (0, .ref (z + t0))]) hx hb dX4_fullestPlace_6 rfl hl (by decide) rfl (fun ls hl => ?_)
  exact C7 _ I0 _ _ ls ((-1000000)) 0 0 (Nat.lt_succ_self _) hW hS hF hO (dkN_sub (dkN_lit (x := (-1000000)) (-1000000) rfl) rfl) (dkN_sub (dkN_lit (x := 0) (0) rfl) rfl) (lv_sub hl [3, 2, 1, 0] rfl)
set_option maxHeartbeats 4000000 in
set_option maxRecDepth 100000 in
theorem c_X4_emptiestPlace_0 (l : Launch) (g : dkG) (z : Nat) (I0 : dkI) (t0 : Nat) (ht0 : dkT t0)  (hO : dkOk I0) : Met l yX4_emptiestPlace wsX4_emptiestPlace (dkR 0) (dkPc g z [.ref (z + t0)] I0) (dkQi g z (fun r I1 => dkF [] I0 I1 ∧ dkOk I1 ∧ ((dkN [(0, 8)] r ∧ True)))) 0 0 (dkA z) := by
  refine Met.ofW (cc := cX4_emptiestPlace) (maxL := 3) (ret := (some .int)) (by decide) rfl ?_
  intro p e s m args below meth c s₁ B hml hv
  obtain ⟨ha, hW, hK, hT⟩ := hv
  have hx := B.exec
  have hb := B.bytes
  have hr := B.returns
  have hts := atoms_spec (ws := wsX4_emptiestPlace) B.pre
  have hown : s.vm.findClass RX4 = some m.cls := findClass_of_methodNamed B.named
  have hlocks := B.notSynchronized
  have hS : va_S (dkA z) s.heap s.heap [] := va_S.rf
  have hF : dkF [] I0 I0 := dkF_rf _ _
  have hl := lv_entry ([.ref (z + t0)]) (n := 3) (Nat.le_of_ble_eq_true rfl)
  have hgo : entryFrame m args 3 = entryFrame m ([.ref (z + t0)] : List Value).toArray 3 := by rw [ha]
  rw [hgo, lg_entry_eq]
  generalize (lg_sl ([.ref (z + t0)]) ++ List.replicate (3 - (lg_sl ([.ref (z + t0)])).length) Slot.unset).toArray = ls at hl ⊢
  have hl : lv_has ls 3 [(0, .ref (z + t0))] := hl
  have C4 : ∀ (n : Nat), ∀ (I : dkI) (H : Heap) (locs : List Loc) (ls : Array Slot) (x4_1 : Int32) (x4_2 : Int32), (9 - x4_2.toInt).toNat < n → dkW g z I H → va_S (dkA z) s.heap H locs → dkF [] I0 I → dkOk I → dkN [(0, 8)] x4_1 → dkN [(1, 9)] x4_2 → lv_has ls 3 [(0, .ref (z + t0)), (1, .int x4_1), (2, .int x4_2)] → W p l e (headSpec wsX4_emptiestPlace (dkR 0)).room s m args below meth c H locs 0 0 (MQ below (dkQi g z (fun r I1 => dkF [] I0 I1 ∧ dkOk I1 ∧ ((dkN [(0, 8)] r ∧ True)))) args s 0 0 (dkA z)) (F0 m 4 ls []) := by
    intro n
    induction n with
    | zero => intro I H locs ls x4_1 x4_2 hn; exact absurd hn (Nat.not_lt_zero _)
    | succ n ih4 =>
      intro I4_ H locs ls x4_1 x4_2 hn4 hW hS hF_4 hO k4_0 k4_1 hl
      have hF := hF_4
      have C29 : ∀ (I : dkI) (H : Heap) (locs : List Loc) (ls : Array Slot) (x29_1 : Int32), dkW g z I H → va_S (dkA z) s.heap H locs → dkF [] I0 I → dkOk I → dkN [(0, 8)] x29_1 → dkN [(1, 8)] x4_2 → dkN [(2, 9)] (I t0 0) → lv_has ls 3 [(0, .ref (z + t0)), (1, .int x29_1), (2, .int x4_2)] → W p l e (headSpec wsX4_emptiestPlace (dkR 0)).room s m args below meth c H locs 0 0 (MQ below (dkQi g z (fun r I1 => dkF [] I0 I1 ∧ dkOk I1 ∧ ((dkN [(0, 8)] r ∧ True)))) args s 0 0 (dkA z)) (F0 m 29 ls []) := by
        intro I29_ H locs ls x29_1 hW hS hF_29 hO k29_0 r29_0 f29_0 hl
        have hF := hF_29
        obtain ⟨v1, ev1⟩ : ∃ y : Int32, y = x4_2 + 1 := ⟨_, rfl⟩
        have dv1 : dkN [(2, 9)] v1 := by rw [ev1]; exact dkN_add r29_0 (dkN_lit (x := 1) (1) rfl) rfl
        refine lv_iinc (v := v1) (lv' := [(2, .int v1), (0, .ref (z + t0)), (1, .int x29_1)]) hx hb dX4_emptiestPlace_29 hl (k := 2) rfl (by rw [ev1]; rfl) (by decide) rfl (fun ls hl => ?_)
        refine lv_goto (tgt := 4) hx hb dX4_emptiestPlace_32 (by decide) ?_
        exact ih4 I29_ _ _ ls x29_1 v1 (dk_near hn4 (by rw [ev1]; exact dk_inc r29_0 rfl) (dkN_lt r29_0 rfl)) hW hS hF hO (dkN_sub k29_0 rfl) (dkN_sub dv1 rfl) (lv_sub hl [1, 2, 0] rfl)
      refine lv_iload_n hx hb dX4_emptiestPlace_4 rfl (lv_at hl 2 rfl) ?_
      refine lv_aload_n hx hb dX4_emptiestPlace_5 rfl (lv_at hl 0 rfl) ?_
      refine dk_get (k := t0) hx hb hts iX4_emptiestPlace_4 hown hK (dk_aT0 ht0 hW) rfl 0 (by decide) (hts (.fieldLink RX4 42 "DogKings$Town" "places" "I") (List.mem_of_getElem? (i := 1) rfl)) rfl dX4_emptiestPlace_6 ?_
      refine lv_topi (fun v2 ev2 => ?_)
      have dv2 : dkN [(0, 9)] v2 := by rw [ev2]; exact (dkO_at hO ht0 (c := 0) (by decide) 0)
      refine lv_icmp_ge (tgt := 35) hx hb dX4_emptiestPlace_9 (by decide) (fun c3 => ?_) (fun c3 => ?_)
      ·
        refine lv_iload_n hx hb dX4_emptiestPlace_35 rfl (lv_at hl 1 rfl) ?_
        exact W.iret (v := x4_1) hx hb hr (fun t ht hW9 => ⟨⟨x4_1, I4_, rfl, ⟨hF, hO, ⟨dkN_sub k4_0 rfl, trivial⟩⟩, dkW_eq ht hW⟩, hS.F ht⟩) hS.2.2 dX4_emptiestPlace_36
      ·
        have d4 : dkN [(2, 9)] v2 := dkN_le2 1 k4_1 dv2 (dkc_nle c3) rfl
        have f5 : dkN [(2, 9)] (I4_ t0 0) := by rw [← ev2]; exact d4
        have d6 : dkN [(1, 8)] x4_2 := dkN_le1 1 k4_1 dv2 (dkc_nle c3) rfl
        refine lv_aload_n hx hb dX4_emptiestPlace_12 rfl (lv_at hl 0 rfl) ?_
        refine dk_get (k := t0) hx hb hts iX4_emptiestPlace_4 hown hK (dk_aT0 ht0 hW) rfl 18 (by decide) (hts (.fieldLink RX4 39 "DogKings$Town" "others" "[I") (List.mem_of_getElem? (i := 2) rfl)) rfl dX4_emptiestPlace_13 ?_
        refine lv_iload_n hx hb dX4_emptiestPlace_16 rfl (lv_at hl 2 rfl) ?_
        refine dk_ild (k := (t0 + 10)) hx hb hK (dk_aT10 ht0 hW) (dkN_in (n := 9) d6 rfl) dX4_emptiestPlace_17 ?_
        refine lv_topi (fun v7 ev7 => ?_)
        refine lv_aload_n hx hb dX4_emptiestPlace_18 rfl (lv_at hl 0 rfl) ?_
        refine dk_get (k := t0) hx hb hts iX4_emptiestPlace_4 hown hK (dk_aT0 ht0 hW) rfl 18 (by decide) (hts (.fieldLink RX4 39 "DogKings$Town" "others" "[I") (List.mem_of_getElem? (i := 2) rfl)) rfl dX4_emptiestPlace_19 ?_
        refine lv_iload_n hx hb dX4_emptiestPlace_22 rfl (lv_at hl 1 rfl) ?_
        refine dk_ild (k := (t0 + 10)) hx hb hK (dk_aT10 ht0 hW) (dkN_in (n := 9) k4_0 rfl) dX4_emptiestPlace_23 ?_
        refine lv_topi (fun v8 ev8 => ?_)
        refine lv_icmp_ge (tgt := 29) hx hb dX4_emptiestPlace_24 (by decide) (fun c9 => ?_) (fun c9 => ?_)
        ·
          exact C29 I4_ _ _ ls x4_1 hW hS hF hO (dkN_sub k4_0 rfl) (dkN_sub d6 rfl) (show dkN [(2, 9)] (I4_ t0 0) from dkN_sub f5 rfl) (lv_sub hl [0, 1, 2] rfl)
        ·
          have d10 : dkN [(-2147483647, 2147483647)] v8 := dkN_le2 1 (dkN_top v7) (dkN_top v8) (dkc_nle c9) rfl
          have d11 : dkN [(-2147483648, 2147483646)] v7 := dkN_le1 1 (dkN_top v7) (dkN_top v8) (dkc_nle c9) rfl
          refine lv_iload_n hx hb dX4_emptiestPlace_27 rfl (lv_at hl 2 rfl) ?_
          refine lv_istore_n (lv' := [(1, .int x4_2), (0, .ref (z + t0)), (2, .int x4_2)]) hx hb dX4_emptiestPlace_28 rfl hl (by decide) rfl (fun ls hl => ?_)
          exact C29 I4_ _ _ ls x4_2 hW hS hF hO (dkN_sub d6 rfl) (dkN_sub d6 rfl) (show dkN [(2, 9)] (I4_ t0 0) from dkN_sub f5 rfl) (lv_sub hl [1, 0, 2] rfl)
  refine lv_iconst (v := 0) hx hb dX4_emptiestPlace_0 (by decide) ?_
  refine lv_istore_n (lv' := [(1, .int 0), (0, .ref (z + t0))]) hx hb dX4_emptiestPlace_1 rfl hl (by decide) rfl (fun ls hl => ?_)
  refine lv_iconst (v := 1) hx hb dX4_emptiestPlace_2 (by decide) ?_
  refine lv_istore_n (lv' := [(2, .int 1), (1, .int 0), (0, .ref (z + t0))]) hx hb dX4_emptiestPlace_3 rfl hl (by decide) rfl (fun ls hl => ?_)
  exact C4 _ I0 _ _ ls 0 1 (Nat.lt_succ_self _) hW hS hF hO (dkN_sub (dkN_lit (x := 0) (0) rfl) rfl) (dkN_sub (dkN_lit (x := 1) (1) rfl) rfl) (lv_sub hl [2, 1, 0] rfl)
set_option maxHeartbeats 4000000 in
set_option maxRecDepth 100000 in
theorem c_X4_goal_0 (l : Launch) (g : dkG) (z : Nat) (I0 : dkI) (t0 : Nat) (ht0 : dkT t0) (p0 : Int32) (dp0 : dkN [(0, 5)] p0)  (hO : dkOk I0) : Met l yX4_goal wsX4_goal (dkR 2) (dkPc g z [.ref (z + t0), .int p0] I0) (dkQi g z (fun r I1 => dkF [(t0 + 10, t0 + 10, 0, 8)] I0 I1 ∧ dkOk I1 ∧ ((True ∧ True)))) 0 0 (dkA z) := by
  refine Met.ofW (cc := cX4_goal) (maxL := 3) (ret := (some .int)) (by decide) rfl ?_
  intro p e s m args below meth c s₁ B hml hv
  obtain ⟨ha, hW, hK, hT⟩ := hv
  have hx := B.exec
  have hb := B.bytes
  have hr := B.returns
  have hts := atoms_spec (ws := wsX4_goal) B.pre
  have hown : s.vm.findClass RX4 = some m.cls := findClass_of_methodNamed B.named
  have hlocks := B.notSynchronized
  have hS : va_S (dkA z) s.heap s.heap [] := va_S.rf
  have hF : dkF [(t0 + 10, t0 + 10, 0, 8)] I0 I0 := dkF_rf _ _
  have hl := lv_entry ([.ref (z + t0), .int p0]) (n := 3) (Nat.le_of_ble_eq_true rfl)
  have hgo : entryFrame m args 3 = entryFrame m ([.ref (z + t0), .int p0] : List Value).toArray 3 := by rw [ha]
  rw [hgo, lg_entry_eq]
  generalize (lg_sl ([.ref (z + t0), .int p0]) ++ List.replicate (3 - (lg_sl ([.ref (z + t0), .int p0])).length) Slot.unset).toArray = ls at hl ⊢
  have hl : lv_has ls 3 [(0, .ref (z + t0)), (1, .int p0)] := hl
  refine lv_aload_n hx hb dX4_goal_0 rfl (lv_at hl 0 rfl) ?_
  refine dk_get (k := t0) hx hb hts iX4_goal_4 hown hK (dk_aT0 ht0 hW) rfl 12 (by decide) (hts (.fieldLink RX4 30 "DogKings$Town" "sort" "[I") (List.mem_of_getElem? (i := 1) rfl)) rfl dX4_goal_1 ?_
  refine lv_iload_n hx hb dX4_goal_4 rfl (lv_at hl 1 rfl) ?_
  refine dk_ild (k := (t0 + 7)) hx hb hK (dk_aT7 ht0 hW) (dkN_in (n := 6) dp0 rfl) dX4_goal_5 ?_
  refine lv_topi (fun v1 ev1 => ?_)
  refine lv_iconst (v := 4) hx hb dX4_goal_6 (by decide) ?_
  refine dk_SiN (As := [.int v1, .int 4]) (rest := []) ⟨hx, hb, hml, hown, hts⟩ (c_X5_isA_0 l g z I0 v1 4 (dkN_lit (x := 4) (4) rfl) hO) ⟨va_cnB 2 hts gX4_goal_X5_isA_n112 rfl rfl rfl (hK.2.1 (RX4, 112, yX5_isA) (by decide)) (hts (.initialized RX5) (List.mem_of_getElem? (i := 5) rfl)) (by decide +kernel) ⟨Nat.le_of_ble_eq_true rfl, Nat.le_of_ble_eq_true rfl⟩, (hts (.static yX5_isA) (List.mem_of_getElem? (i := 4) rfl)), trivial⟩ hK hT hW hS rfl hl.1 rfl (Nat.le_of_ble_eq_true rfl) dX4_goal_7 ⟨Nat.zero_le _, Nat.zero_le _⟩ (fun v2 I2 H2 L2 hp2 hW hS => ?_)
  obtain ⟨hF2, hO, hc2⟩ := hp2
  have hF := dkF_callP hF hF2 dkSub_nil
  rcases hc2 with ⟨dv2, a2_0, -⟩ | hc2
  ·
    have d3 : dkN [(-2147483648, 3), (6, 2147483647)] v1 := dkN_eq1 (dkN_top v1) a2_0 rfl rfl
    refine lv_if_eq (tgt := 40) hx hb dX4_goal_10 (by decide) (fun c4 => ?_) (fun c4 => ?_)
    ·
      refine lv_aload_n hx hb dX4_goal_40 rfl (lv_at hl 0 rfl) ?_
      refine lv_iload_n hx hb dX4_goal_41 rfl (lv_at hl 1 rfl) ?_
      refine dk_Vi (As := [.int p0]) (rest := []) ⟨hx, hb, hml, hown, hts⟩ (c_X4_favourite_0 l g z I2 t0 ht0 p0 dp0 hO) (cwV 1 hts gX4_goal_X4_favourite rfl rfl rfl (by decide +kernel) ⟨Nat.le_of_ble_eq_true rfl, Nat.le_of_ble_eq_true rfl⟩) (dk_aT0 ht0 hW) rfl hK hT hW hS rfl hl.1 rfl (Nat.le_of_ble_eq_true rfl) dX4_goal_42 ⟨Nat.zero_le _, Nat.zero_le _⟩ (fun v5 I5 H5 L5 hp5 hW hS => ?_)
      obtain ⟨hF5, hO, hc5⟩ := hp5
      have hF := dkF_callP hF hF5 dkSub_nil
      obtain ⟨dv5, -⟩ := hc5
      refine lv_istore_n (lv' := [(2, .int v5), (0, .ref (z + t0)), (1, .int p0)]) hx hb dX4_goal_45 rfl hl (by decide) rfl (fun ls hl => ?_)
      refine lv_iload_n hx hb dX4_goal_46 rfl (lv_at hl 0 rfl) ?_
      refine lv_ldc (v := (-1000000)) hx hb hown (hts (.constant RX4 89 (-1000000)) (List.mem_of_getElem? (i := 2) rfl)) dX4_goal_47 ?_
      refine lv_icmp_ne (tgt := 57) hx hb dX4_goal_49 (by decide) (fun c6 => ?_) (fun c6 => ?_)
      ·
        have d7 : dkN [(0, 4)] v5 := dkN_ne1 (-1000000) dv5 (dkN_lit (x := (-1000000)) (-1000000) rfl) (dk_ne c6) rfl
        refine lv_aload_n hx hb dX4_goal_57 rfl (lv_at hl 1 rfl) ?_
        refine dk_get (k := t0) hx hb hts iX4_goal_4 hown hK (dk_aT0 ht0 hW) rfl 7 (by decide) (hts (.fieldLink RX4 18 "DogKings$Town" "personAt" "[I") (List.mem_of_getElem? (i := 3) rfl)) rfl dX4_goal_58 ?_
        refine lv_iload_n hx hb dX4_goal_61 rfl (lv_at hl 0 rfl) ?_
        refine dk_ild (k := (t0 + 3)) hx hb hK (dk_aT3 ht0 hW) (dkN_in (n := 5) d7 rfl) dX4_goal_62 ?_
        refine lv_topi (fun v8 ev8 => ?_)
        exact W.iret (v := v8) hx hb hr (fun t ht hW9 => ⟨⟨v8, I5, rfl, ⟨hF, hO, ⟨trivial, trivial⟩⟩, dkW_eq ht hW⟩, hS.F ht⟩) hS.2.2 dX4_goal_63
      ·
        have d9 : dkN [(-1000000, -1000000)] v5 := dkN_eq1 dv5 (dkN_lit (x := (-1000000)) (-1000000) rfl) (congrArg Int32.toInt c6) rfl
        refine lv_ldc (v := (-1000000)) hx hb hown (hts (.constant RX4 89 (-1000000)) (List.mem_of_getElem? (i := 2) rfl)) dX4_goal_52 ?_
        refine lv_goto (tgt := 63) hx hb dX4_goal_54 (by decide) ?_
        exact W.iret (v := (-1000000)) hx hb hr (fun t ht hW9 => ⟨⟨(-1000000), I5, rfl, ⟨hF, hO, ⟨trivial, trivial⟩⟩, dkW_eq ht hW⟩, hS.F ht⟩) hS.2.2 dX4_goal_63
    ·
      exact (dkN_nil (show dkN [] v2 from dkN_ne1 (0) dv2 (dkN_lit (x := 0) (0) rfl) (dk_ne c4) rfl)).elim
  ·
    obtain ⟨dv2, a2_0, -⟩ := hc2
    have d10 : dkN [(4, 5)] v1 := dkN_eq1 (dkN_top v1) a2_0 rfl rfl
    refine lv_if_eq (tgt := 40) hx hb dX4_goal_10 (by decide) (fun c11 => ?_) (fun c11 => ?_)
    ·
      exact (dkN_nil (show dkN [] v2 from dkN_eq1 dv2 (dkN_lit (x := 0) (0) rfl) (congrArg Int32.toInt c11) rfl)).elim
    ·
      refine lv_aload_n hx hb dX4_goal_13 rfl (lv_at hl 0 rfl) ?_
      refine lv_iload_n hx hb dX4_goal_14 rfl (lv_at hl 1 rfl) ?_
      refine dk_Vv (As := [.int p0]) (rest := []) ⟨hx, hb, hml, hown, hts⟩ (c_X4_countOthers_0 l g z I2 t0 ht0 p0 hO) (cwV 1 hts gX4_goal_X4_countOthers rfl rfl rfl (by decide +kernel) ⟨Nat.le_of_ble_eq_true rfl, Nat.le_of_ble_eq_true rfl⟩) (dk_aT0 ht0 hW) rfl hK hT hW hS rfl hl.1 rfl (Nat.le_of_ble_eq_true rfl) dX4_goal_15 ⟨Nat.zero_le _, Nat.zero_le _⟩ (fun I12 H12 L12 hp12 hW hS => ?_)
      obtain ⟨hF12, hO, hc12⟩ := hp12
      have hF := dkF_callP hF hF12 (dkSub_cons (i := 0) rfl (Nat.le_refl _) (Nat.le_refl _) (by decide) (by decide) dkSub_nil)
      refine lv_aload_n hx hb dX4_goal_18 rfl (lv_at hl 0 rfl) ?_
      refine dk_get (k := t0) hx hb hts iX4_goal_4 hown hK (dk_aT0 ht0 hW) rfl 12 (by decide) (hts (.fieldLink RX4 30 "DogKings$Town" "sort" "[I") (List.mem_of_getElem? (i := 1) rfl)) rfl dX4_goal_19 ?_
      refine lv_iload_n hx hb dX4_goal_22 rfl (lv_at hl 1 rfl) ?_
      refine dk_ild (k := (t0 + 7)) hx hb hK (dk_aT7 ht0 hW) (dkN_in (n := 6) dp0 rfl) dX4_goal_23 ?_
      refine lv_topi (fun v13 ev13 => ?_)
      refine lv_iconst (v := 5) hx hb dX4_goal_24 (by decide) ?_
      refine lv_icmp_ne (tgt := 35) hx hb dX4_goal_25 (by decide) (fun c14 => ?_) (fun c14 => ?_)
      ·
        have d15 : dkN [(-2147483648, 4), (6, 2147483647)] v13 := dkN_ne1 (5) (dkN_top v13) (dkN_lit (x := 5) (5) rfl) (dk_ne c14) rfl
        refine lv_aload_n hx hb dX4_goal_35 rfl (lv_at hl 0 rfl) ?_
        refine dk_Vi (As := []) (rest := []) ⟨hx, hb, hml, hown, hts⟩ (c_X4_fullestPlace_0 l g z I12 t0 ht0 hO) (cwV 0 hts gX4_goal_X4_fullestPlace rfl rfl rfl (by decide +kernel) ⟨Nat.le_of_ble_eq_true rfl, Nat.le_of_ble_eq_true rfl⟩) (dk_aT0 ht0 hW) rfl hK hT hW hS rfl hl.1 rfl (Nat.le_of_ble_eq_true rfl) dX4_goal_36 ⟨Nat.zero_le _, Nat.zero_le _⟩ (fun v16 I16 H16 L16 hp16 hW hS => ?_)
        obtain ⟨hF16, hO, hc16⟩ := hp16
        have hF := dkF_callP hF hF16 dkSub_nil
        obtain ⟨dv16, -⟩ := hc16
        exact W.iret (v := v16) hx hb hr (fun t ht hW9 => ⟨⟨v16, I16, rfl, ⟨hF, hO, ⟨trivial, trivial⟩⟩, dkW_eq ht hW⟩, hS.F ht⟩) hS.2.2 dX4_goal_39
      ·
        have d17 : dkN [(5, 5)] v13 := dkN_eq1 (dkN_top v13) (dkN_lit (x := 5) (5) rfl) (congrArg Int32.toInt c14) rfl
        refine lv_aload_n hx hb dX4_goal_28 rfl (lv_at hl 0 rfl) ?_
        refine dk_Vi (As := []) (rest := []) ⟨hx, hb, hml, hown, hts⟩ (c_X4_emptiestPlace_0 l g z I12 t0 ht0 hO) (cwV 0 hts gX4_goal_X4_emptiestPlace rfl rfl rfl (by decide +kernel) ⟨Nat.le_of_ble_eq_true rfl, Nat.le_of_ble_eq_true rfl⟩) (dk_aT0 ht0 hW) rfl hK hT hW hS rfl hl.1 rfl (Nat.le_of_ble_eq_true rfl) dX4_goal_29 ⟨Nat.zero_le _, Nat.zero_le _⟩ (fun v18 I18 H18 L18 hp18 hW hS => ?_)
        obtain ⟨hF18, hO, hc18⟩ := hp18
        have hF := dkF_callP hF hF18 dkSub_nil
        obtain ⟨dv18, -⟩ := hc18
        refine lv_goto (tgt := 39) hx hb dX4_goal_32 (by decide) ?_
        exact W.iret (v := v18) hx hb hr (fun t ht hW9 => ⟨⟨v18, I18, rfl, ⟨hF, hO, ⟨trivial, trivial⟩⟩, dkW_eq ht hW⟩, hS.F ht⟩) hS.2.2 dX4_goal_39
set_option maxHeartbeats 4000000 in
set_option maxRecDepth 100000 in
theorem c_X4_trot_0 (l : Launch) (g : dkG) (z : Nat) (I0 : dkI) (t0 : Nat) (ht0 : dkT t0) (p0 : Int32) (p1 : Int32) (dp0 : dkN [(0, 5)] p0)  (hO : dkOk I0) : Met l yX4_trot wsX4_trot (dkR 1) (dkPc g z [.ref (z + t0), .int p0, .int p1] I0) (dkQv g z (fun I1 => dkF [(t0 + 9, t0 + 9, 0, 5)] I0 I1 ∧ dkOk I1 ∧ ((True)))) 0 0 (dkA z) := by
  refine Met.ofW (cc := cX4_trot) (maxL := 4) (ret := none) (by decide) rfl ?_
  intro p e s m args below meth c s₁ B hml hv
  obtain ⟨ha, hW, hK, hT⟩ := hv
  have hx := B.exec
  have hb := B.bytes
  have hr := B.returns
  have hts := atoms_spec (ws := wsX4_trot) B.pre
  have hown : s.vm.findClass RX4 = some m.cls := findClass_of_methodNamed B.named
  have hlocks := B.notSynchronized
  have hS : va_S (dkA z) s.heap s.heap [] := va_S.rf
  have hF : dkF [(t0 + 9, t0 + 9, 0, 5)] I0 I0 := dkF_rf _ _
  have hl := lv_entry ([.ref (z + t0), .int p0, .int p1]) (n := 4) (Nat.le_of_ble_eq_true rfl)
  have hgo : entryFrame m args 4 = entryFrame m ([.ref (z + t0), .int p0, .int p1] : List Value).toArray 4 := by rw [ha]
  rw [hgo, lg_entry_eq]
  generalize (lg_sl ([.ref (z + t0), .int p0, .int p1]) ++ List.replicate (4 - (lg_sl ([.ref (z + t0), .int p0, .int p1])).length) Slot.unset).toArray = ls at hl ⊢
  have hl : lv_has ls 4 [(0, .ref (z + t0)), (1, .int p0), (2, .int p1)] := hl
  have C38 : ∀ (I : dkI) (H : Heap) (locs : List Loc) (ls : Array Slot) (x38_s0 : Int32) (x38_s1 : Int32), dkW g z I H → va_S (dkA z) s.heap H locs → dkF [(t0 + 9, t0 + 9, 0, 5)] I0 I → dkOk I → dkN [(-1, -1), (1, 1)] x38_s0 → dkN [(-2147483648, -1000001), (-999999, 2147483647)] p1 → lv_has ls 4 [(0, .ref (z + t0)), (1, .int p0), (2, .int p1)] → W p l e (headSpec wsX4_trot (dkR 1)).room s m args below meth c H locs 0 0 (MQ below (dkQv g z (fun I1 => dkF [(t0 + 9, t0 + 9, 0, 5)] I0 I1 ∧ dkOk I1 ∧ ((True)))) args s 0 0 (dkA z)) (F0 m 38 ls [.int x38_s0, .int x38_s1]) := by
    intro I38_ H locs ls x38_s0 x38_s1 hW hS hF_38 hO k38_0 r38_0 hl
    have hF := hF_38
    refine lv_iadd hx hb dX4_trot_38 ?_
    refine lv_topi (fun v1 ev1 => ?_)
    refine lv_istore_n (lv' := [(3, .int v1), (0, .ref (z + t0)), (1, .int p0), (2, .int p1)]) hx hb dX4_trot_39 rfl hl (by decide) rfl (fun ls hl => ?_)
    refine lv_aload_n hx hb dX4_trot_40 rfl (lv_at hl 1 rfl) ?_
    refine dk_get (k := t0) hx hb hts iX4_trot_4 hown hK (dk_aT0 ht0 hW) rfl 17 (by decide) (hts (.fieldLink RX4 67 "DogKings$Town" "cats" "I") (List.mem_of_getElem? (i := 3) rfl)) rfl dX4_trot_41 ?_
    refine lv_topi (fun v2 ev2 => ?_)
    refine lv_iload_n hx hb dX4_trot_44 rfl (lv_at hl 0 rfl) ?_
    refine dk_SiN (As := [.int v2, .int v1]) (rest := []) ⟨hx, hb, hml, hown, hts⟩ (c_X5_holds_0 l g z I38_ v2 v1 hO) ⟨va_cnB 2 hts gX4_trot_X5_holds_n74 rfl rfl rfl (hK.2.1 (RX4, 74, yX5_holds) (by decide)) (hts (.initialized RX5) (List.mem_of_getElem? (i := 5) rfl)) (by decide +kernel) ⟨Nat.le_of_ble_eq_true rfl, Nat.le_of_ble_eq_true rfl⟩, (hts (.static yX5_holds) (List.mem_of_getElem? (i := 4) rfl)), trivial⟩ hK hT hW hS rfl hl.1 rfl (Nat.le_of_ble_eq_true rfl) dX4_trot_45 ⟨Nat.zero_le _, Nat.zero_le _⟩ (fun v3 I3 H3 L3 hp3 hW hS => ?_)
    obtain ⟨hF3, hO, hc3⟩ := hp3
    have hF := dkF_callP hF hF3 dkSub_nil
    obtain ⟨dv3, -⟩ := hc3
    refine lv_if_ne (tgt := 58) hx hb dX4_trot_48 (by decide) (fun c4 => ?_) (fun c4 => ?_)
    ·
      have d5 : dkN [(1, 1)] v3 := dkN_ne1 (0) dv3 (dkN_lit (x := 0) (0) rfl) (dk_ne c4) rfl
      exact W.vret hx hb hr (fun t ht hW9 => ⟨⟨I3, rfl, ⟨hF, hO, trivial⟩, dkW_eq ht hW⟩, hS.F ht⟩) hS.2.2 dX4_trot_58
    ·
      have d6 : dkN [(0, 0)] v3 := dkN_eq1 dv3 (dkN_lit (x := 0) (0) rfl) (congrArg Int32.toInt c4) rfl
      refine lv_aload_n hx hb dX4_trot_51 rfl (lv_at hl 1 rfl) ?_
      refine dk_get (k := t0) hx hb hts iX4_trot_4 hown hK (dk_aT0 ht0 hW) rfl 14 (by decide) (hts (.fieldLink RX4 36 "DogKings$Town" "dogAt" "[I") (List.mem_of_getElem? (i := 2) rfl)) rfl dX4_trot_52 ?_
      refine lv_iload_n hx hb dX4_trot_55 rfl (lv_at hl 2 rfl) ?_
      refine lv_iload_n hx hb dX4_trot_56 rfl (lv_at hl 0 rfl) ?_
      refine dk_ist (k := (t0 + 9)) hx hb hK hW (fun _ => dkC_T g z ht0 (c := 9) (by decide) _) (by have := dkT_lt ht0; omega) hS (dkN_in (n := 6) dp0 rfl) dX4_trot_57 (fun I7 H7 L7 eI7 hW hS => ?_)
      have hO := dkO_setT hO ht0 (c := 9) (by decide) eI7 (dkN_sub (dkN_top v1) rfl)
      have hF := dkF_set hF eI7 (dkIn_atv (i := 0) rfl (Nat.le_refl _) (Nat.le_refl _) dp0 rfl)
      exact W.vret hx hb hr (fun t ht hW9 => ⟨⟨I7, rfl, ⟨hF, hO, trivial⟩, dkW_eq ht hW⟩, hS.F ht⟩) hS.2.2 dX4_trot_58
  refine lv_iload_n hx hb dX4_trot_0 rfl (lv_at hl 2 rfl) ?_
  refine lv_ldc (v := (-1000000)) hx hb hown (hts (.constant RX4 89 (-1000000)) (List.mem_of_getElem? (i := 1) rfl)) dX4_trot_1 ?_
  refine lv_icmp_eq (tgt := 16) hx hb dX4_trot_3 (by decide) (fun c8 => ?_) (fun c8 => ?_)
  ·
    have d9 : dkN [(-1000000, -1000000)] p1 := dkN_eq1 (dkN_top p1) (dkN_lit (x := (-1000000)) (-1000000) rfl) (congrArg Int32.toInt c8) rfl
    exact W.vret hx hb hr (fun t ht hW9 => ⟨⟨I0, rfl, ⟨hF, hO, trivial⟩, dkW_eq ht hW⟩, hS.F ht⟩) hS.2.2 dX4_trot_16
  ·
    have d10 : dkN [(-2147483648, -1000001), (-999999, 2147483647)] p1 := dkN_ne1 (-1000000) (dkN_top p1) (dkN_lit (x := (-1000000)) (-1000000) rfl) (dk_ne c8) rfl
    refine lv_iload_n hx hb dX4_trot_6 rfl (lv_at hl 2 rfl) ?_
    refine lv_aload_n hx hb dX4_trot_7 rfl (lv_at hl 0 rfl) ?_
    refine dk_get (k := t0) hx hb hts iX4_trot_4 hown hK (dk_aT0 ht0 hW) rfl 14 (by decide) (hts (.fieldLink RX4 36 "DogKings$Town" "dogAt" "[I") (List.mem_of_getElem? (i := 2) rfl)) rfl dX4_trot_8 ?_
    refine lv_iload_n hx hb dX4_trot_11 rfl (lv_at hl 1 rfl) ?_
    refine dk_ild (k := (t0 + 9)) hx hb hK (dk_aT9 ht0 hW) (dkN_in (n := 6) dp0 rfl) dX4_trot_12 ?_
    refine lv_topi (fun v11 ev11 => ?_)
    refine lv_icmp_ne (tgt := 17) hx hb dX4_trot_13 (by decide) (fun c12 => ?_) (fun c12 => ?_)
    ·
      refine lv_aload_n hx hb dX4_trot_17 rfl (lv_at hl 0 rfl) ?_
      refine dk_get (k := t0) hx hb hts iX4_trot_4 hown hK (dk_aT0 ht0 hW) rfl 14 (by decide) (hts (.fieldLink RX4 36 "DogKings$Town" "dogAt" "[I") (List.mem_of_getElem? (i := 2) rfl)) rfl dX4_trot_18 ?_
      refine lv_iload_n hx hb dX4_trot_21 rfl (lv_at hl 1 rfl) ?_
      refine dk_ild (k := (t0 + 9)) hx hb hK (dk_aT9 ht0 hW) (dkN_in (n := 6) dp0 rfl) dX4_trot_22 ?_
      refine lv_topi (fun v13 ev13 => ?_)
      refine lv_iload_n hx hb dX4_trot_23 rfl (lv_at hl 2 rfl) ?_
      refine lv_aload_n hx hb dX4_trot_24 rfl (lv_at hl 0 rfl) ?_
      refine dk_get (k := t0) hx hb hts iX4_trot_4 hown hK (dk_aT0 ht0 hW) rfl 14 (by decide) (hts (.fieldLink RX4 36 "DogKings$Town" "dogAt" "[I") (List.mem_of_getElem? (i := 2) rfl)) rfl dX4_trot_25 ?_
      refine lv_iload_n hx hb dX4_trot_28 rfl (lv_at hl 1 rfl) ?_
      refine dk_ild (k := (t0 + 9)) hx hb hK (dk_aT9 ht0 hW) (dkN_in (n := 6) dp0 rfl) dX4_trot_29 ?_
      refine lv_topi (fun v14 ev14 => ?_)
      refine lv_icmp_le (tgt := 37) hx hb dX4_trot_30 (by decide) (fun c15 => ?_) (fun c15 => ?_)
      ·
        refine lv_iconst (v := (-1)) hx hb dX4_trot_37 (by decide) ?_
        exact C38 I0 _ _ ls ((-1)) v13 hW hS hF hO (dkN_sub (dkN_lit (x := (-1)) (-1) rfl) rfl) (dkN_sub d10 rfl) (lv_sub hl [0, 1, 2] rfl)
      ·
        have d16 : dkN [(-2147483647, -1000001), (-999999, 2147483647)] p1 := dkN_le2 1 (dkN_top v14) d10 (dkc_nle c15) rfl
        have d17 : dkN [(-2147483648, 2147483646)] v14 := dkN_le1 1 (dkN_top v14) d10 (dkc_nle c15) rfl
        refine lv_iconst (v := 1) hx hb dX4_trot_33 (by decide) ?_
        refine lv_goto (tgt := 38) hx hb dX4_trot_34 (by decide) ?_
        exact C38 I0 _ _ ls 1 v13 hW hS hF hO (dkN_sub (dkN_lit (x := 1) (1) rfl) rfl) (dkN_sub d16 rfl) (lv_sub hl [0, 1, 2] rfl)
    ·
      have d18 : dkN [(-2147483648, -1000001), (-999999, 2147483647)] v11 := dkN_eq1 (dkN_top v11) d10 (congrArg Int32.toInt c12).symm rfl
      exact W.vret hx hb hr (fun t ht hW9 => ⟨⟨I0, rfl, ⟨hF, hO, trivial⟩, dkW_eq ht hW⟩, hS.F ht⟩) hS.2.2 dX4_trot_16
set_option maxHeartbeats 4000000 in
set_option maxRecDepth 100000 in
theorem c_X4_stir_0 (l : Launch) (g : dkG) (z : Nat) (I0 : dkI) (t0 : Nat) (ht0 : dkT t0)  (hO : dkOk I0) : Met l yX4_stir wsX4_stir (dkR 3) (dkPc g z [.ref (z + t0)] I0) (dkQv g z (fun I1 => dkF [(t0, t0, 3, 3), (t0 + 3, t0 + 3, 0, 4), (t0 + 5, t0 + 5, 0, 4), (t0 + 9, t0 + 9, 0, 5), (t0 + 10, t0 + 10, 0, 8)] I0 I1 ∧ dkOk I1 ∧ ((True)))) 0 0 (dkA z) := by
  refine Met.ofW (cc := cX4_stir) (maxL := 2) (ret := none) (by decide) rfl ?_
  intro p e s m args below meth c s₁ B hml hv
  obtain ⟨ha, hW, hK, hT⟩ := hv
  have hx := B.exec
  have hb := B.bytes
  have hr := B.returns
  have hts := atoms_spec (ws := wsX4_stir) B.pre
  have hown : s.vm.findClass RX4 = some m.cls := findClass_of_methodNamed B.named
  have hlocks := B.notSynchronized
  have hS : va_S (dkA z) s.heap s.heap [] := va_S.rf
  have hF : dkF [(t0, t0, 3, 3), (t0 + 3, t0 + 3, 0, 4), (t0 + 5, t0 + 5, 0, 4), (t0 + 9, t0 + 9, 0, 5), (t0 + 10, t0 + 10, 0, 8)] I0 I0 := dkF_rf _ _
  have hl := lv_entry ([.ref (z + t0)]) (n := 2) (Nat.le_of_ble_eq_true rfl)
  have hgo : entryFrame m args 2 = entryFrame m ([.ref (z + t0)] : List Value).toArray 2 := by rw [ha]
  rw [hgo, lg_entry_eq]
  generalize (lg_sl ([.ref (z + t0)]) ++ List.replicate (2 - (lg_sl ([.ref (z + t0)])).length) Slot.unset).toArray = ls at hl ⊢
  have hl : lv_has ls 2 [(0, .ref (z + t0))] := hl
  have C23 : ∀ (n : Nat), ∀ (I : dkI) (H : Heap) (locs : List Loc) (ls : Array Slot) (x23_1 : Int32), (6 - x23_1.toInt).toNat < n → dkW g z I H → va_S (dkA z) s.heap H locs → dkF [(t0, t0, 3, 3), (t0 + 3, t0 + 3, 0, 4), (t0 + 5, t0 + 5, 0, 4), (t0 + 9, t0 + 9, 0, 5), (t0 + 10, t0 + 10, 0, 8)] I0 I → dkOk I → dkN [(0, 6)] x23_1 → lv_has ls 2 [(0, .ref (z + t0)), (1, .int x23_1)] → W p l e (headSpec wsX4_stir (dkR 3)).room s m args below meth c H locs 0 0 (MQ below (dkQv g z (fun I1 => dkF [(t0, t0, 3, 3), (t0 + 3, t0 + 3, 0, 4), (t0 + 5, t0 + 5, 0, 4), (t0 + 9, t0 + 9, 0, 5), (t0 + 10, t0 + 10, 0, 8)] I0 I1 ∧ dkOk I1 ∧ ((True)))) args s 0 0 (dkA z)) (F0 m 23 ls []) := by
    intro n
    induction n with
    | zero => intro I H locs ls x23_1 hn; exact absurd hn (Nat.not_lt_zero _)
    | succ n ih23 =>
      intro I23_ H locs ls x23_1 hn23 hW hS hF_23 hO k23_0 hl
      have hF := hF_23
      have C63 : ∀ (I : dkI) (H : Heap) (locs : List Loc) (ls : Array Slot), dkW g z I H → va_S (dkA z) s.heap H locs → dkF [(t0, t0, 3, 3), (t0 + 3, t0 + 3, 0, 4), (t0 + 5, t0 + 5, 0, 4), (t0 + 9, t0 + 9, 0, 5), (t0 + 10, t0 + 10, 0, 8)] I0 I → dkOk I → dkN [(0, 5)] x23_1 → dkN [(1, 6)] (I t0 11) → lv_has ls 2 [(0, .ref (z + t0)), (1, .int x23_1)] → W p l e (headSpec wsX4_stir (dkR 3)).room s m args below meth c H locs 0 0 (MQ below (dkQv g z (fun I1 => dkF [(t0, t0, 3, 3), (t0 + 3, t0 + 3, 0, 4), (t0 + 5, t0 + 5, 0, 4), (t0 + 9, t0 + 9, 0, 5), (t0 + 10, t0 + 10, 0, 8)] I0 I1 ∧ dkOk I1 ∧ ((True)))) args s 0 0 (dkA z)) (F0 m 63 ls []) := by
        intro I63_ H locs ls hW hS hF_63 hO r63_0 f63_0 hl
        have hF := hF_63
        obtain ⟨v1, ev1⟩ : ∃ y : Int32, y = x23_1 + 1 := ⟨_, rfl⟩
        have dv1 : dkN [(1, 6)] v1 := by rw [ev1]; exact dkN_add r63_0 (dkN_lit (x := 1) (1) rfl) rfl
        refine lv_iinc (v := v1) (lv' := [(1, .int v1), (0, .ref (z + t0))]) hx hb dX4_stir_63 hl (k := 1) rfl (by rw [ev1]; rfl) (by decide) rfl (fun ls hl => ?_)
        refine lv_goto (tgt := 23) hx hb dX4_stir_66 (by decide) ?_
        exact ih23 I63_ _ _ ls v1 (dk_near hn23 (by rw [ev1]; exact dk_inc r63_0 rfl) (dkN_lt r63_0 rfl)) hW hS hF hO (dkN_sub dv1 rfl) (lv_sub hl [1, 0] rfl)
      refine lv_iload_n hx hb dX4_stir_23 rfl (lv_at hl 1 rfl) ?_
      refine lv_aload_n hx hb dX4_stir_24 rfl (lv_at hl 0 rfl) ?_
      refine dk_get (k := t0) hx hb hts iX4_stir_4 hown hK (dk_aT0 ht0 hW) rfl 11 (by decide) (hts (.fieldLink RX4 58 "DogKings$Town" "dogs" "I") (List.mem_of_getElem? (i := 2) rfl)) rfl dX4_stir_25 ?_
      refine lv_topi (fun v2 ev2 => ?_)
      have dv2 : dkN [(0, 6)] v2 := by rw [ev2]; exact (dkO_at hO ht0 (c := 0) (by decide) 11)
      refine lv_icmp_ge (tgt := 69) hx hb dX4_stir_28 (by decide) (fun c3 => ?_) (fun c3 => ?_)
      ·
        refine lv_aload_n hx hb dX4_stir_69 rfl (lv_at hl 0 rfl) ?_
        refine lv_dup hx hb dX4_stir_70 rfl ?_
        refine dk_get (k := t0) hx hb hts iX4_stir_4 hown hK (dk_aT0 ht0 hW) rfl 3 (by decide) (hts (.fieldLink RX4 52 "DogKings$Town" "minute" "I") (List.mem_of_getElem? (i := 5) rfl)) rfl dX4_stir_71 ?_
        refine lv_topi (fun v4 ev4 => ?_)
        refine lv_iconst (v := 1) hx hb dX4_stir_74 (by decide) ?_
        refine lv_iadd hx hb dX4_stir_75 ?_
        refine lv_topi (fun v5 ev5 => ?_)
        refine dk_put (k := t0) hx hb hts iX4_stir_4 tyX4 tyX4_ok nmX4 hown hK hW (dk_aT0 ht0 hW) hS rfl 3 (by decide) (hts (.fieldLink RX4 52 "DogKings$Town" "minute" "I") (List.mem_of_getElem? (i := 5) rfl)) rfl rfl (Nat.le_of_ble_eq_true rfl) (dk_eT3 ht0) dX4_stir_76 (fun I6 H6 L6 eI6 hW hS => ?_)
        have eI6 : I6 = dkU I23_ t0 3 v5 := eI6
        have hO := dkO_setT hO ht0 (c := 0) (by decide) eI6 (dkN_sub (dkN_top v5) rfl)
        have hF := dkF_set hF eI6 (dkIn_at (i := 0) rfl (Nat.le_refl _) (Nat.le_refl _) (by decide) (by decide))
        exact W.vret hx hb hr (fun t ht hW9 => ⟨⟨I6, rfl, ⟨hF, hO, trivial⟩, dkW_eq ht hW⟩, hS.F ht⟩) hS.2.2 dX4_stir_79
      ·
        have d7 : dkN [(1, 6)] v2 := dkN_le2 1 k23_0 dv2 (dkc_nle c3) rfl
        have f8 : dkN [(1, 6)] (I23_ t0 11) := by rw [← ev2]; exact d7
        have d9 : dkN [(0, 5)] x23_1 := dkN_le1 1 k23_0 dv2 (dkc_nle c3) rfl
        refine lv_aload_n hx hb dX4_stir_31 rfl (lv_at hl 0 rfl) ?_
        refine dk_get (k := t0) hx hb hts iX4_stir_4 hown hK (dk_aT0 ht0 hW) rfl 15 (by decide) (hts (.fieldLink RX4 61 "DogKings$Town" "dogsThere" "I") (List.mem_of_getElem? (i := 3) rfl)) rfl dX4_stir_32 ?_
        refine lv_topi (fun v10 ev10 => ?_)
        refine lv_iload_n hx hb dX4_stir_35 rfl (lv_at hl 1 rfl) ?_
        refine dk_SiN (As := [.int v10, .int x23_1]) (rest := []) ⟨hx, hb, hml, hown, hts⟩ (c_X5_holds_0 l g z I23_ v10 x23_1 hO) ⟨va_cnB 2 hts gX4_stir_X5_holds_n74 rfl rfl rfl (hK.2.1 (RX4, 74, yX5_holds) (by decide)) (hts (.initialized RX5) (List.mem_of_getElem? (i := 15) rfl)) (by decide +kernel) ⟨Nat.le_of_ble_eq_true rfl, Nat.le_of_ble_eq_true rfl⟩, (hts (.static yX5_holds) (List.mem_of_getElem? (i := 14) rfl)), trivial⟩ hK hT hW hS rfl hl.1 rfl (Nat.le_of_ble_eq_true rfl) dX4_stir_36 ⟨Nat.zero_le _, Nat.zero_le _⟩ (fun v11 I11 H11 L11 hp11 hW hS => ?_)
        obtain ⟨hF11, hO, hc11⟩ := hp11
        have hF := dkF_callP hF hF11 dkSub_nil
        obtain ⟨dv11, -⟩ := hc11
        refine lv_if_eq (tgt := 63) hx hb dX4_stir_39 (by decide) (fun c12 => ?_) (fun c12 => ?_)
        ·
          have d13 : dkN [(0, 0)] v11 := dkN_eq1 dv11 (dkN_lit (x := 0) (0) rfl) (congrArg Int32.toInt c12) rfl
          exact C63 I11 _ _ ls  hW hS hF hO (dkN_sub d9 rfl) (show dkN [(1, 6)] (I11 t0 11) from dkN_sub (by rw [hF11 t0 11 dkNin_nil]; exact f8) rfl) (lv_sub hl [0, 1] rfl)
        ·
          have d14 : dkN [(1, 1)] v11 := dkN_ne1 (0) dv11 (dkN_lit (x := 0) (0) rfl) (dk_ne c12) rfl
          refine lv_aload_n hx hb dX4_stir_42 rfl (lv_at hl 0 rfl) ?_
          refine dk_get (k := t0) hx hb hts iX4_stir_4 hown hK (dk_aT0 ht0 hW) rfl 16 (by decide) (hts (.fieldLink RX4 64 "DogKings$Town" "dogsAsleep" "I") (List.mem_of_getElem? (i := 4) rfl)) rfl dX4_stir_43 ?_
          refine lv_topi (fun v15 ev15 => ?_)
          refine lv_iload_n hx hb dX4_stir_46 rfl (lv_at hl 1 rfl) ?_
          refine dk_SiN (As := [.int v15, .int x23_1]) (rest := []) ⟨hx, hb, hml, hown, hts⟩ (c_X5_holds_0 l g z I11 v15 x23_1 hO) ⟨va_cnB 2 hts gX4_stir_X5_holds_n74 rfl rfl rfl (hK.2.1 (RX4, 74, yX5_holds) (by decide)) (hts (.initialized RX5) (List.mem_of_getElem? (i := 15) rfl)) (by decide +kernel) ⟨Nat.le_of_ble_eq_true rfl, Nat.le_of_ble_eq_true rfl⟩, (hts (.static yX5_holds) (List.mem_of_getElem? (i := 14) rfl)), trivial⟩ hK hT hW hS rfl hl.1 rfl (Nat.le_of_ble_eq_true rfl) dX4_stir_47 ⟨Nat.zero_le _, Nat.zero_le _⟩ (fun v16 I16 H16 L16 hp16 hW hS => ?_)
          obtain ⟨hF16, hO, hc16⟩ := hp16
          have hF := dkF_callP hF hF16 dkSub_nil
          obtain ⟨dv16, -⟩ := hc16
          refine lv_if_ne (tgt := 63) hx hb dX4_stir_50 (by decide) (fun c17 => ?_) (fun c17 => ?_)
          ·
            have d18 : dkN [(1, 1)] v16 := dkN_ne1 (0) dv16 (dkN_lit (x := 0) (0) rfl) (dk_ne c17) rfl
            exact C63 I16 _ _ ls  hW hS hF hO (dkN_sub d9 rfl) (show dkN [(1, 6)] (I16 t0 11) from dkN_sub (by rw [hF16 t0 11 dkNin_nil]; exact (by rw [hF11 t0 11 dkNin_nil]; exact f8)) rfl) (lv_sub hl [0, 1] rfl)
          ·
            have d19 : dkN [(0, 0)] v16 := dkN_eq1 dv16 (dkN_lit (x := 0) (0) rfl) (congrArg Int32.toInt c17) rfl
            refine lv_aload_n hx hb dX4_stir_53 rfl (lv_at hl 0 rfl) ?_
            refine lv_iload_n hx hb dX4_stir_54 rfl (lv_at hl 1 rfl) ?_
            refine lv_aload_n hx hb dX4_stir_55 rfl (lv_at hl 0 rfl) ?_
            refine lv_iload_n hx hb dX4_stir_56 rfl (lv_at hl 1 rfl) ?_
            refine dk_Vi (As := [.int x23_1]) (rest := [.int x23_1, .ref (z + t0)]) ⟨hx, hb, hml, hown, hts⟩ (c_X4_goal_0 l g z I16 t0 ht0 x23_1 d9 hO) (cwV 1 hts gX4_stir_X4_goal rfl rfl rfl (by decide +kernel) ⟨Nat.le_of_ble_eq_true rfl, Nat.le_of_ble_eq_true rfl⟩) (dk_aT0 ht0 hW) rfl hK hT hW hS rfl hl.1 rfl (Nat.le_of_ble_eq_true rfl) dX4_stir_57 ⟨Nat.zero_le _, Nat.zero_le _⟩ (fun v20 I20 H20 L20 hp20 hW hS => ?_)
            obtain ⟨hF20, hO, hc20⟩ := hp20
            have hF := dkF_callP hF hF20 (dkSub_cons (i := 4) rfl (Nat.le_refl _) (Nat.le_refl _) (by decide) (by decide) dkSub_nil)
            obtain ⟨_, -⟩ := hc20
            refine dk_Vv (As := [.int x23_1, .int v20]) (rest := []) ⟨hx, hb, hml, hown, hts⟩ (c_X4_trot_0 l g z I20 t0 ht0 x23_1 v20 d9 hO) (cwV 2 hts gX4_stir_X4_trot rfl rfl rfl (by decide +kernel) ⟨Nat.le_of_ble_eq_true rfl, Nat.le_of_ble_eq_true rfl⟩) (dk_aT0 ht0 hW) rfl hK hT hW hS rfl hl.1 rfl (Nat.le_of_ble_eq_true rfl) dX4_stir_60 ⟨Nat.zero_le _, Nat.zero_le _⟩ (fun I21 H21 L21 hp21 hW hS => ?_)
            obtain ⟨hF21, hO, hc21⟩ := hp21
            have hF := dkF_callP hF hF21 (dkSub_cons (i := 3) rfl (Nat.le_refl _) (Nat.le_refl _) (by decide) (by decide) dkSub_nil)
            exact C63 I21 _ _ ls  hW hS hF hO (dkN_sub d9 rfl) (show dkN [(1, 6)] (I21 t0 11) from dkN_sub (by rw [hF21 t0 11 (dkNin_n (by omega) dkNin_nil)]; exact (by rw [hF20 t0 11 (dkNin_n (by omega) dkNin_nil)]; exact (by rw [hF16 t0 11 dkNin_nil]; exact (by rw [hF11 t0 11 dkNin_nil]; exact f8)))) rfl) (lv_sub hl [0, 1] rfl)
  have C2 : ∀ (n : Nat), ∀ (I : dkI) (H : Heap) (locs : List Loc) (ls : Array Slot) (x2_1 : Int32), (5 - x2_1.toInt).toNat < n → dkW g z I H → va_S (dkA z) s.heap H locs → dkF [(t0, t0, 3, 3), (t0 + 3, t0 + 3, 0, 4), (t0 + 5, t0 + 5, 0, 4), (t0 + 9, t0 + 9, 0, 5), (t0 + 10, t0 + 10, 0, 8)] I0 I → dkOk I → dkN [(0, 5)] x2_1 → lv_has ls 2 [(0, .ref (z + t0)), (1, .int x2_1)] → W p l e (headSpec wsX4_stir (dkR 3)).room s m args below meth c H locs 0 0 (MQ below (dkQv g z (fun I1 => dkF [(t0, t0, 3, 3), (t0 + 3, t0 + 3, 0, 4), (t0 + 5, t0 + 5, 0, 4), (t0 + 9, t0 + 9, 0, 5), (t0 + 10, t0 + 10, 0, 8)] I0 I1 ∧ dkOk I1 ∧ ((True)))) args s 0 0 (dkA z)) (F0 m 2 ls []) := by
    intro n
    induction n with
    | zero => intro I H locs ls x2_1 hn; exact absurd hn (Nat.not_lt_zero _)
    | succ n ih2 =>
      intro I2_ H locs ls x2_1 hn2 hW hS hF_2 hO k2_0 hl
      have hF := hF_2
      refine lv_iload_n hx hb dX4_stir_2 rfl (lv_at hl 1 rfl) ?_
      refine lv_aload_n hx hb dX4_stir_3 rfl (lv_at hl 0 rfl) ?_
      refine dk_get (k := t0) hx hb hts iX4_stir_4 hown hK (dk_aT0 ht0 hW) rfl 4 (by decide) (hts (.fieldLink RX4 55 "DogKings$Town" "people" "I") (List.mem_of_getElem? (i := 1) rfl)) rfl dX4_stir_4 ?_
      refine lv_topi (fun v22 ev22 => ?_)
      have dv22 : dkN [(0, 5)] v22 := by rw [ev22]; exact (dkO_at hO ht0 (c := 0) (by decide) 4)
      refine lv_icmp_ge (tgt := 21) hx hb dX4_stir_7 (by decide) (fun c23 => ?_) (fun c23 => ?_)
      ·
        refine lv_iconst (v := 0) hx hb dX4_stir_21 (by decide) ?_
        refine lv_istore_n (lv' := [(1, .int 0), (0, .ref (z + t0))]) hx hb dX4_stir_22 rfl hl (by decide) rfl (fun ls hl => ?_)
        exact C23 _ I2_ _ _ ls 0 (Nat.lt_succ_self _) hW hS hF hO (dkN_sub (dkN_lit (x := 0) (0) rfl) rfl) (lv_sub hl [1, 0] rfl)
      ·
        have d24 : dkN [(1, 5)] v22 := dkN_le2 1 k2_0 dv22 (dkc_nle c23) rfl
        have f25 : dkN [(1, 5)] (I2_ t0 4) := by rw [← ev22]; exact d24
        have d26 : dkN [(0, 4)] x2_1 := dkN_le1 1 k2_0 dv22 (dkc_nle c23) rfl
        refine lv_aload_n hx hb dX4_stir_10 rfl (lv_at hl 0 rfl) ?_
        refine lv_iload_n hx hb dX4_stir_11 rfl (lv_at hl 1 rfl) ?_
        refine dk_Vv (As := [.int x2_1]) (rest := []) ⟨hx, hb, hml, hown, hts⟩ (c_X4_stroll_0 l g z I2_ t0 ht0 x2_1 d26 hO) (cwV 1 hts gX4_stir_X4_stroll rfl rfl rfl (by decide +kernel) ⟨Nat.le_of_ble_eq_true rfl, Nat.le_of_ble_eq_true rfl⟩) (dk_aT0 ht0 hW) rfl hK hT hW hS rfl hl.1 rfl (Nat.le_of_ble_eq_true rfl) dX4_stir_12 ⟨Nat.zero_le _, Nat.zero_le _⟩ (fun I27 H27 L27 hp27 hW hS => ?_)
        obtain ⟨hF27, hO, hc27⟩ := hp27
        have hF := dkF_callP hF hF27 (dkSub_cons (i := 1) rfl (Nat.le_refl _) (Nat.le_refl _) (by decide) (by decide) (dkSub_cons (i := 2) rfl (Nat.le_refl _) (Nat.le_refl _) (by decide) (by decide) dkSub_nil))
        obtain ⟨v28, ev28⟩ : ∃ y : Int32, y = x2_1 + 1 := ⟨_, rfl⟩
        have dv28 : dkN [(1, 5)] v28 := by rw [ev28]; exact dkN_add d26 (dkN_lit (x := 1) (1) rfl) rfl
        refine lv_iinc (v := v28) (lv' := [(1, .int v28), (0, .ref (z + t0))]) hx hb dX4_stir_15 hl (k := 1) rfl (by rw [ev28]; rfl) (by decide) rfl (fun ls hl => ?_)
        refine lv_goto (tgt := 2) hx hb dX4_stir_18 (by decide) ?_
        exact ih2 I27 _ _ ls v28 (dk_near hn2 (by rw [ev28]; exact dk_inc d26 rfl) (dkN_lt d26 rfl)) hW hS hF hO (dkN_sub dv28 rfl) (lv_sub hl [1, 0] rfl)
  refine lv_iconst (v := 0) hx hb dX4_stir_0 (by decide) ?_
  refine lv_istore_n (lv' := [(1, .int 0), (0, .ref (z + t0))]) hx hb dX4_stir_1 rfl hl (by decide) rfl (fun ls hl => ?_)
  exact C2 _ I0 _ _ ls 0 (Nat.lt_succ_self _) hW hS hF hO (dkN_sub (dkN_lit (x := 0) (0) rfl) rfl) (lv_sub hl [1, 0] rfl)
set_option maxHeartbeats 4000000 in
set_option maxRecDepth 100000 in
theorem c_X4_atBell_0 (l : Launch) (g : dkG) (z : Nat) (I0 : dkI) (t0 : Nat) (ht0 : dkT t0)  (hO : dkOk I0) : Met l yX4_atBell wsX4_atBell (dkR 0) (dkPc g z [.ref (z + t0)] I0) (dkQi g z (fun r I1 => dkF [] I0 I1 ∧ dkOk I1 ∧ ((dkN [(0, 0)] r ∧ dkN [(-2147483648, 29)] (I1 t0 3) ∧ True) ∨ (dkN [(1, 1)] r ∧ dkN [(0, 2147483647)] (I1 t0 3) ∧ True)))) 0 0 (dkA z) := by
  refine Met.ofW (cc := cX4_atBell) (maxL := 1) (ret := (some .boolean)) (by decide) rfl ?_
  intro p e s m args below meth c s₁ B hml hv
  obtain ⟨ha, hW, hK, hT⟩ := hv
  have hx := B.exec
  have hb := B.bytes
  have hr := B.returns
  have hts := atoms_spec (ws := wsX4_atBell) B.pre
  have hown : s.vm.findClass RX4 = some m.cls := findClass_of_methodNamed B.named
  have hlocks := B.notSynchronized
  have hS : va_S (dkA z) s.heap s.heap [] := va_S.rf
  have hF : dkF [] I0 I0 := dkF_rf _ _
  have hl := lv_entry ([.ref (z + t0)]) (n := 1) (Nat.le_of_ble_eq_true rfl)
  have hgo : entryFrame m args 1 = entryFrame m ([.ref (z + t0)] : List Value).toArray 1 := by rw [ha]
  rw [hgo, lg_entry_eq]
  generalize (lg_sl ([.ref (z + t0)]) ++ List.replicate (1 - (lg_sl ([.ref (z + t0)])).length) Slot.unset).toArray = ls at hl ⊢
  have hl : lv_has ls 1 [(0, .ref (z + t0))] := hl
  refine lv_aload_n hx hb dX4_atBell_0 rfl (lv_at hl 0 rfl) ?_
  refine dk_get (k := t0) hx hb hts iX4_atBell_4 hown hK (dk_aT0 ht0 hW) rfl 3 (by decide) (hts (.fieldLink RX4 52 "DogKings$Town" "minute" "I") (List.mem_of_getElem? (i := 1) rfl)) rfl dX4_atBell_1 ?_
  refine lv_topi (fun v1 ev1 => ?_)
  refine lv_aload_n hx hb dX4_atBell_4 rfl (lv_at hl 0 rfl) ?_
  refine dk_get (k := t0) hx hb hts iX4_atBell_4 hown hK (dk_aT0 ht0 hW) rfl 1 (by decide) (hts (.fieldLink RX4 46 "DogKings$Town" "fridayLasts" "I") (List.mem_of_getElem? (i := 2) rfl)) rfl dX4_atBell_5 ?_
  refine lv_topi (fun v2 ev2 => ?_)
  have dv2 : dkN [(0, 30)] v2 := by rw [ev2]; exact (dkO_at hO ht0 (c := 0) (by decide) 1)
  refine lv_icmp_lt (tgt := 15) hx hb dX4_atBell_8 (by decide) (fun c3 => ?_) (fun c3 => ?_)
  ·
    have d4 : dkN [(-2147483648, 29)] v1 := dkN_le1 1 (dkN_top v1) dv2 (dkc_lt c3) rfl
    have f5 : dkN [(-2147483648, 29)] (I0 t0 3) := by rw [← ev1]; exact d4
    refine lv_iconst (v := 0) hx hb dX4_atBell_15 (by decide) ?_
    exact W.zret (v := 0) (ty := .boolean) hx hb hr rfl (fun t ht hW9 => ⟨⟨0, I0, rfl, ⟨hF, hO, Or.inl ⟨dkN_sub (dkN_lit (x := 0) (0) rfl) rfl, (show dkN [(-2147483648, 29)] (I0 t0 3) from dkN_sub f5 rfl), trivial⟩⟩, dkW_eq ht hW⟩, hS.F ht⟩) hS.2.2 dX4_atBell_16
  ·
    have d6 : dkN [(0, 2147483647)] v1 := dkN_le2 0 dv2 (dkN_top v1) (dkc_nlt c3) rfl
    have f7 : dkN [(0, 2147483647)] (I0 t0 3) := by rw [← ev1]; exact d6
    refine lv_iconst (v := 1) hx hb dX4_atBell_11 (by decide) ?_
    refine lv_goto (tgt := 16) hx hb dX4_atBell_12 (by decide) ?_
    exact W.zret (v := 1) (ty := .boolean) hx hb hr rfl (fun t ht hW9 => ⟨⟨1, I0, rfl, ⟨hF, hO, Or.inr (⟨dkN_sub (dkN_lit (x := 1) (1) rfl) rfl, (show dkN [(0, 2147483647)] (I0 t0 3) from dkN_sub f7 rfl), trivial⟩)⟩, dkW_eq ht hW⟩, hS.F ht⟩) hS.2.2 dX4_atBell_16
set_option maxHeartbeats 4000000 in
set_option maxRecDepth 100000 in
theorem c_X4_dogsIn_0 (l : Launch) (g : dkG) (z : Nat) (I0 : dkI) (t0 : Nat) (ht0 : dkT t0) (p0 : Int32)  (hO : dkOk I0) : Met l yX4_dogsIn wsX4_dogsIn (dkR 1) (dkPc g z [.ref (z + t0), .int p0] I0) (dkQi g z (fun r I1 => dkF [] I0 I1 ∧ dkOk I1 ∧ ((True ∧ True)))) 0 0 (dkA z) := by
  refine Met.ofW (cc := cX4_dogsIn) (maxL := 4) (ret := (some .int)) (by decide) rfl ?_
  intro p e s m args below meth c s₁ B hml hv
  obtain ⟨ha, hW, hK, hT⟩ := hv
  have hx := B.exec
  have hb := B.bytes
  have hr := B.returns
  have hts := atoms_spec (ws := wsX4_dogsIn) B.pre
  have hown : s.vm.findClass RX4 = some m.cls := findClass_of_methodNamed B.named
  have hlocks := B.notSynchronized
  have hS : va_S (dkA z) s.heap s.heap [] := va_S.rf
  have hF : dkF [] I0 I0 := dkF_rf _ _
  have hl := lv_entry ([.ref (z + t0), .int p0]) (n := 4) (Nat.le_of_ble_eq_true rfl)
  have hgo : entryFrame m args 4 = entryFrame m ([.ref (z + t0), .int p0] : List Value).toArray 4 := by rw [ha]
  rw [hgo, lg_entry_eq]
  generalize (lg_sl ([.ref (z + t0), .int p0]) ++ List.replicate (4 - (lg_sl ([.ref (z + t0), .int p0])).length) Slot.unset).toArray = ls at hl ⊢
  have hl : lv_has ls 4 [(0, .ref (z + t0)), (1, .int p0)] := hl
  have C4 : ∀ (n : Nat), ∀ (I : dkI) (H : Heap) (locs : List Loc) (ls : Array Slot) (x4_2 : Int32) (x4_3 : Int32), (6 - x4_3.toInt).toNat < n → dkW g z I H → va_S (dkA z) s.heap H locs → dkF [] I0 I → dkOk I → dkN [(0, 6)] x4_3 → lv_has ls 4 [(0, .ref (z + t0)), (1, .int p0), (2, .int x4_2), (3, .int x4_3)] → W p l e (headSpec wsX4_dogsIn (dkR 1)).room s m args below meth c H locs 0 0 (MQ below (dkQi g z (fun r I1 => dkF [] I0 I1 ∧ dkOk I1 ∧ ((True ∧ True)))) args s 0 0 (dkA z)) (F0 m 4 ls []) := by
    intro n
    induction n with
    | zero => intro I H locs ls x4_2 x4_3 hn; exact absurd hn (Nat.not_lt_zero _)
    | succ n ih4 =>
      intro I4_ H locs ls x4_2 x4_3 hn4 hW hS hF_4 hO k4_1 hl
      have hF := hF_4
      have C39 : ∀ (I : dkI) (H : Heap) (locs : List Loc) (ls : Array Slot) (x39_2 : Int32), dkW g z I H → va_S (dkA z) s.heap H locs → dkF [] I0 I → dkOk I → dkN [(0, 5)] x4_3 → dkN [(1, 6)] (I t0 11) → lv_has ls 4 [(0, .ref (z + t0)), (1, .int p0), (2, .int x39_2), (3, .int x4_3)] → W p l e (headSpec wsX4_dogsIn (dkR 1)).room s m args below meth c H locs 0 0 (MQ below (dkQi g z (fun r I1 => dkF [] I0 I1 ∧ dkOk I1 ∧ ((True ∧ True)))) args s 0 0 (dkA z)) (F0 m 39 ls []) := by
        intro I39_ H locs ls x39_2 hW hS hF_39 hO r39_0 f39_0 hl
        have hF := hF_39
        obtain ⟨v1, ev1⟩ : ∃ y : Int32, y = x4_3 + 1 := ⟨_, rfl⟩
        have dv1 : dkN [(1, 6)] v1 := by rw [ev1]; exact dkN_add r39_0 (dkN_lit (x := 1) (1) rfl) rfl
        refine lv_iinc (v := v1) (lv' := [(3, .int v1), (0, .ref (z + t0)), (1, .int p0), (2, .int x39_2)]) hx hb dX4_dogsIn_39 hl (k := 3) rfl (by rw [ev1]; rfl) (by decide) rfl (fun ls hl => ?_)
        refine lv_goto (tgt := 4) hx hb dX4_dogsIn_42 (by decide) ?_
        exact ih4 I39_ _ _ ls x39_2 v1 (dk_near hn4 (by rw [ev1]; exact dk_inc r39_0 rfl) (dkN_lt r39_0 rfl)) hW hS hF hO (dkN_sub dv1 rfl) (lv_sub hl [1, 2, 3, 0] rfl)
      refine lv_iload_n hx hb dX4_dogsIn_4 rfl (lv_at hl 3 rfl) ?_
      refine lv_aload_n hx hb dX4_dogsIn_5 rfl (lv_at hl 0 rfl) ?_
      refine dk_get (k := t0) hx hb hts iX4_dogsIn_4 hown hK (dk_aT0 ht0 hW) rfl 11 (by decide) (hts (.fieldLink RX4 58 "DogKings$Town" "dogs" "I") (List.mem_of_getElem? (i := 1) rfl)) rfl dX4_dogsIn_6 ?_
      refine lv_topi (fun v2 ev2 => ?_)
      have dv2 : dkN [(0, 6)] v2 := by rw [ev2]; exact (dkO_at hO ht0 (c := 0) (by decide) 11)
      refine lv_icmp_ge (tgt := 45) hx hb dX4_dogsIn_9 (by decide) (fun c3 => ?_) (fun c3 => ?_)
      ·
        refine lv_iload_n hx hb dX4_dogsIn_45 rfl (lv_at hl 2 rfl) ?_
        exact W.iret (v := x4_2) hx hb hr (fun t ht hW9 => ⟨⟨x4_2, I4_, rfl, ⟨hF, hO, ⟨trivial, trivial⟩⟩, dkW_eq ht hW⟩, hS.F ht⟩) hS.2.2 dX4_dogsIn_46
      ·
        have d4 : dkN [(1, 6)] v2 := dkN_le2 1 k4_1 dv2 (dkc_nle c3) rfl
        have f5 : dkN [(1, 6)] (I4_ t0 11) := by rw [← ev2]; exact d4
        have d6 : dkN [(0, 5)] x4_3 := dkN_le1 1 k4_1 dv2 (dkc_nle c3) rfl
        refine lv_aload_n hx hb dX4_dogsIn_12 rfl (lv_at hl 0 rfl) ?_
        refine dk_get (k := t0) hx hb hts iX4_dogsIn_4 hown hK (dk_aT0 ht0 hW) rfl 15 (by decide) (hts (.fieldLink RX4 61 "DogKings$Town" "dogsThere" "I") (List.mem_of_getElem? (i := 2) rfl)) rfl dX4_dogsIn_13 ?_
        refine lv_topi (fun v7 ev7 => ?_)
        refine lv_iload_n hx hb dX4_dogsIn_16 rfl (lv_at hl 3 rfl) ?_
        refine dk_SiN (As := [.int v7, .int x4_3]) (rest := []) ⟨hx, hb, hml, hown, hts⟩ (c_X5_holds_0 l g z I4_ v7 x4_3 hO) ⟨va_cnB 2 hts gX4_dogsIn_X5_holds_n74 rfl rfl rfl (hK.2.1 (RX4, 74, yX5_holds) (by decide)) (hts (.initialized RX5) (List.mem_of_getElem? (i := 5) rfl)) (by decide +kernel) ⟨Nat.le_of_ble_eq_true rfl, Nat.le_of_ble_eq_true rfl⟩, (hts (.static yX5_holds) (List.mem_of_getElem? (i := 4) rfl)), trivial⟩ hK hT hW hS rfl hl.1 rfl (Nat.le_of_ble_eq_true rfl) dX4_dogsIn_17 ⟨Nat.zero_le _, Nat.zero_le _⟩ (fun v8 I8 H8 L8 hp8 hW hS => ?_)
        obtain ⟨hF8, hO, hc8⟩ := hp8
        have hF := dkF_call hF hF8 rfl
        obtain ⟨dv8, -⟩ := hc8
        refine lv_if_eq (tgt := 39) hx hb dX4_dogsIn_20 (by decide) (fun c9 => ?_) (fun c9 => ?_)
        ·
          have d10 : dkN [(0, 0)] v8 := dkN_eq1 dv8 (dkN_lit (x := 0) (0) rfl) (congrArg Int32.toInt c9) rfl
          exact C39 I8 _ _ ls x4_2 hW hS hF hO (dkN_sub d6 rfl) (show dkN [(1, 6)] (I8 t0 11) from dkN_sub (by rw [hF8 t0 11 dkNin_nil]; exact f5) rfl) (lv_sub hl [0, 1, 2, 3] rfl)
        ·
          have d11 : dkN [(1, 1)] v8 := dkN_ne1 (0) dv8 (dkN_lit (x := 0) (0) rfl) (dk_ne c9) rfl
          refine lv_aload_n hx hb dX4_dogsIn_23 rfl (lv_at hl 0 rfl) ?_
          refine dk_get (k := t0) hx hb hts iX4_dogsIn_4 hown hK (dk_aT0 ht0 hW) rfl 14 (by decide) (hts (.fieldLink RX4 36 "DogKings$Town" "dogAt" "[I") (List.mem_of_getElem? (i := 3) rfl)) rfl dX4_dogsIn_24 ?_
          refine lv_iload_n hx hb dX4_dogsIn_27 rfl (lv_at hl 3 rfl) ?_
          refine dk_ild (k := (t0 + 9)) hx hb hK (dk_aT9 ht0 hW) (dkN_in (n := 6) d6 rfl) dX4_dogsIn_28 ?_
          refine lv_topi (fun v12 ev12 => ?_)
          refine lv_iload_n hx hb dX4_dogsIn_29 rfl (lv_at hl 1 rfl) ?_
          refine lv_icmp_ne (tgt := 39) hx hb dX4_dogsIn_30 (by decide) (fun c13 => ?_) (fun c13 => ?_)
          ·
            exact C39 I8 _ _ ls x4_2 hW hS hF hO (dkN_sub d6 rfl) (show dkN [(1, 6)] (I8 t0 11) from dkN_sub (by rw [hF8 t0 11 dkNin_nil]; exact f5) rfl) (lv_sub hl [0, 1, 2, 3] rfl)
          ·
            refine lv_iload_n hx hb dX4_dogsIn_33 rfl (lv_at hl 2 rfl) ?_
            refine lv_iconst (v := 1) hx hb dX4_dogsIn_34 (by decide) ?_
            refine lv_iload_n hx hb dX4_dogsIn_35 rfl (lv_at hl 3 rfl) ?_
            refine lv_ishl hx hb dX4_dogsIn_36 ?_
            refine lv_topi (fun v14 ev14 => ?_)
            have dv14 : dkN [(1, 32)] v14 := by rw [ev14]; exact dkN_shl1 0 5 (by decide) d6 rfl
            refine lv_ior hx hb dX4_dogsIn_37 ?_
            refine lv_topi (fun v15 ev15 => ?_)
            refine lv_istore_n (lv' := [(2, .int v15), (0, .ref (z + t0)), (1, .int p0), (3, .int x4_3)]) hx hb dX4_dogsIn_38 rfl hl (by decide) rfl (fun ls hl => ?_)
            exact C39 I8 _ _ ls v15 hW hS hF hO (dkN_sub d6 rfl) (show dkN [(1, 6)] (I8 t0 11) from dkN_sub (by rw [hF8 t0 11 dkNin_nil]; exact f5) rfl) (lv_sub hl [1, 2, 0, 3] rfl)
  refine lv_iconst (v := 0) hx hb dX4_dogsIn_0 (by decide) ?_
  refine lv_istore_n (lv' := [(2, .int 0), (0, .ref (z + t0)), (1, .int p0)]) hx hb dX4_dogsIn_1 rfl hl (by decide) rfl (fun ls hl => ?_)
  refine lv_iconst (v := 0) hx hb dX4_dogsIn_2 (by decide) ?_
  refine lv_istore_n (lv' := [(3, .int 0), (2, .int 0), (0, .ref (z + t0)), (1, .int p0)]) hx hb dX4_dogsIn_3 rfl hl (by decide) rfl (fun ls hl => ?_)
  exact C4 _ I0 _ _ ls 0 0 (Nat.lt_succ_self _) hW hS hF hO (dkN_sub (dkN_lit (x := 0) (0) rfl) rfl) (lv_sub hl [2, 3, 1, 0] rfl)
