set_option maxHeartbeats 4000000 in
set_option maxRecDepth 100000 in
theorem c_X6_isDog_0 (l : Launch) (g : dkG) (z : Nat) (I0 : dkI) (p0 : Int32)  (hO : dkOk I0) : Met l yX6_isDog wsX6_isDog (dkR 1) (dkPc g z [.ref (z + 340), .int p0] I0) (dkQi g z (fun r I1 => dkF [] I0 I1 ∧ dkOk I1 ∧ ((dkN [(0, 0)] r ∧ True) ∨ (dkN [(1, 1)] r ∧ dkN [(0, 5)] p0 ∧ True)))) 0 0 (dkA z) := by
  refine Met.ofW (cc := cX6_isDog) (maxL := 2) (ret := (some .boolean)) (by decide) rfl ?_
  intro p e s m args below meth c s₁ B hml hv
  obtain ⟨ha, hW, hK, hT⟩ := hv
  have hx := B.exec
  have hb := B.bytes
  have hr := B.returns
  have hts := atoms_spec (ws := wsX6_isDog) B.pre
  have hown : s.vm.findClass RX6 = some m.cls := findClass_of_methodNamed B.named
  have hlocks := B.notSynchronized
  have hS : va_S (dkA z) s.heap s.heap [] := va_S.rf
  have hF : dkF [] I0 I0 := dkF_rf _ _
  have hl := lv_entry ([.ref (z + 340), .int p0]) (n := 2) (Nat.le_of_ble_eq_true rfl)
  have hgo : entryFrame m args 2 = entryFrame m ([.ref (z + 340), .int p0] : List Value).toArray 2 := by rw [ha]
  rw [hgo, lg_entry_eq]
  generalize (lg_sl ([.ref (z + 340), .int p0]) ++ List.replicate (2 - (lg_sl ([.ref (z + 340), .int p0])).length) Slot.unset).toArray = ls at hl ⊢
  have hl : lv_has ls 2 [(0, .ref (z + 340)), (1, .int p0)] := hl
  refine lv_iload_n hx hb dX6_isDog_0 rfl (lv_at hl 1 rfl) ?_
  refine lv_iconst (v := 0) hx hb dX6_isDog_1 (by decide) ?_
  refine lv_aload_n hx hb dX6_isDog_2 rfl (lv_at hl 0 rfl) ?_
  refine dk_get (k := 340) hx hb hts iX6_isDog_6 hown hK (dk_at340 hW) rfl 13 (by decide) (hts (.fieldLink RX6 25 "DogKingsModel" "now" "[I") (List.mem_of_getElem? (i := 1) rfl)) rfl dX6_isDog_3 ?_
  refine lv_iconst (v := 5) hx hb dX6_isDog_6 (by decide) ?_
  refine dk_ild (k := 346) hx hb hK (dk_at346 hW) (dkN_in (n := 54) (dkN_lit (x := 5) (5) rfl) rfl) dX6_isDog_7 ?_
  refine lv_topi (fun v1 ev1 => ?_)
  have ev1 : v1 = I0 346 5 := ev1
  have dv1 : dkN [(0, 6)] v1 := by rw [ev1]; exact (show dkN [(0, 6)] (I0 346 5) from (hO 346 5))
  refine lv_iconst (v := 1) hx hb dX6_isDog_8 (by decide) ?_
  refine lv_isub hx hb dX6_isDog_9 ?_
  refine lv_topi (fun v2 ev2 => ?_)
  have dv2 : dkN [(-1, 5)] v2 := by rw [ev2]; exact dkN_subt dv1 (dkN_lit (x := 1) (1) rfl) rfl
  refine dk_Si (As := [.int p0, .int 0, .int v2]) (rest := []) ⟨hx, hb, hml, hown, hts⟩ (c_X6_in_13 l g z I0 p0 0 v2 (dkN_lit (x := 0) (0) rfl) dv2 hO) (va_cwS 3 hts gX6_isDog_X6_in rfl rfl rfl (by decide +kernel) ⟨Nat.le_of_ble_eq_true rfl, Nat.le_of_ble_eq_true rfl⟩) hK hT hW hS rfl hl.1 rfl (Nat.le_of_ble_eq_true rfl) dX6_isDog_10 ⟨Nat.zero_le _, Nat.zero_le _⟩ (fun v3 I3 H3 L3 hp3 hW hS => ?_)
  obtain ⟨hF3, hO, hc3⟩ := hp3
  have hF := dkF_call hF hF3 rfl
  rcases hc3 with ⟨dv3, -⟩ | hc3
  ·
    exact W.zret (v := v3) (ty := .boolean) hx hb hr (dkN_zr dv3 rfl) (fun t ht hW9 => ⟨⟨v3, I3, rfl, ⟨hF, hO, Or.inl ⟨dkN_sub dv3 rfl, trivial⟩⟩, dkW_eq ht hW⟩, hS.F ht⟩) hS.2.2 dX6_isDog_13
  ·
    obtain ⟨dv3, a3_0, a3_2, -⟩ := hc3
    have d4 : dkN [(0, 5)] p0 := dkN_eq1 (dkN_top p0) a3_0 rfl rfl
    have d5 : dkN [(0, 5)] v2 := dkN_eq1 dv2 a3_2 rfl rfl
    exact W.zret (v := v3) (ty := .boolean) hx hb hr (dkN_zr dv3 rfl) (fun t ht hW9 => ⟨⟨v3, I3, rfl, ⟨hF, hO, Or.inr (⟨dkN_sub dv3 rfl, dkN_sub d4 rfl, trivial⟩)⟩, dkW_eq ht hW⟩, hS.F ht⟩) hS.2.2 dX6_isDog_13
set_option maxHeartbeats 4000000 in
set_option maxRecDepth 100000 in
theorem c_X6_isStreet_0 (l : Launch) (g : dkG) (z : Nat) (I0 : dkI) (p0 : Int32)  (hO : dkOk I0) : Met l yX6_isStreet wsX6_isStreet (dkR 1) (dkPc g z [.ref (z + 340), .int p0] I0) (dkQi g z (fun r I1 => dkF [] I0 I1 ∧ dkOk I1 ∧ ((dkN [(0, 0)] r ∧ True) ∨ (dkN [(1, 1)] r ∧ dkN [(0, 8)] p0 ∧ True)))) 0 0 (dkA z) := by
  refine Met.ofW (cc := cX6_isStreet) (maxL := 2) (ret := (some .boolean)) (by decide) rfl ?_
  intro p e s m args below meth c s₁ B hml hv
  obtain ⟨ha, hW, hK, hT⟩ := hv
  have hx := B.exec
  have hb := B.bytes
  have hr := B.returns
  have hts := atoms_spec (ws := wsX6_isStreet) B.pre
  have hown : s.vm.findClass RX6 = some m.cls := findClass_of_methodNamed B.named
  have hlocks := B.notSynchronized
  have hS : va_S (dkA z) s.heap s.heap [] := va_S.rf
  have hF : dkF [] I0 I0 := dkF_rf _ _
  have hl := lv_entry ([.ref (z + 340), .int p0]) (n := 2) (Nat.le_of_ble_eq_true rfl)
  have hgo : entryFrame m args 2 = entryFrame m ([.ref (z + 340), .int p0] : List Value).toArray 2 := by rw [ha]
  rw [hgo, lg_entry_eq]
  generalize (lg_sl ([.ref (z + 340), .int p0]) ++ List.replicate (2 - (lg_sl ([.ref (z + 340), .int p0])).length) Slot.unset).toArray = ls at hl ⊢
  have hl : lv_has ls 2 [(0, .ref (z + 340)), (1, .int p0)] := hl
  refine lv_iload_n hx hb dX6_isStreet_0 rfl (lv_at hl 1 rfl) ?_
  refine lv_iconst (v := 0) hx hb dX6_isStreet_1 (by decide) ?_
  refine lv_aload_n hx hb dX6_isStreet_2 rfl (lv_at hl 0 rfl) ?_
  refine dk_get (k := 340) hx hb hts iX6_isStreet_6 hown hK (dk_at340 hW) rfl 13 (by decide) (hts (.fieldLink RX6 25 "DogKingsModel" "now" "[I") (List.mem_of_getElem? (i := 1) rfl)) rfl dX6_isStreet_3 ?_
  refine lv_iconst (v := 0) hx hb dX6_isStreet_6 (by decide) ?_
  refine dk_ild (k := 346) hx hb hK (dk_at346 hW) (dkN_in (n := 54) (dkN_lit (x := 0) (0) rfl) rfl) dX6_isStreet_7 ?_
  refine lv_topi (fun v1 ev1 => ?_)
  have ev1 : v1 = I0 346 0 := ev1
  have dv1 : dkN [(0, 9)] v1 := by rw [ev1]; exact (show dkN [(0, 9)] (I0 346 0) from (hO 346 0))
  refine lv_iconst (v := 1) hx hb dX6_isStreet_8 (by decide) ?_
  refine lv_isub hx hb dX6_isStreet_9 ?_
  refine lv_topi (fun v2 ev2 => ?_)
  have dv2 : dkN [(-1, 8)] v2 := by rw [ev2]; exact dkN_subt dv1 (dkN_lit (x := 1) (1) rfl) rfl
  refine dk_Si (As := [.int p0, .int 0, .int v2]) (rest := []) ⟨hx, hb, hml, hown, hts⟩ (c_X6_in_9 l g z I0 p0 0 v2 (dkN_lit (x := 0) (0) rfl) dv2 hO) (va_cwS 3 hts gX6_isStreet_X6_in rfl rfl rfl (by decide +kernel) ⟨Nat.le_of_ble_eq_true rfl, Nat.le_of_ble_eq_true rfl⟩) hK hT hW hS rfl hl.1 rfl (Nat.le_of_ble_eq_true rfl) dX6_isStreet_10 ⟨Nat.zero_le _, Nat.zero_le _⟩ (fun v3 I3 H3 L3 hp3 hW hS => ?_)
  obtain ⟨hF3, hO, hc3⟩ := hp3
  have hF := dkF_call hF hF3 rfl
  rcases hc3 with ⟨dv3, -⟩ | hc3
  ·
    exact W.zret (v := v3) (ty := .boolean) hx hb hr (dkN_zr dv3 rfl) (fun t ht hW9 => ⟨⟨v3, I3, rfl, ⟨hF, hO, Or.inl ⟨dkN_sub dv3 rfl, trivial⟩⟩, dkW_eq ht hW⟩, hS.F ht⟩) hS.2.2 dX6_isStreet_13
  ·
    obtain ⟨dv3, a3_0, a3_2, -⟩ := hc3
    have d4 : dkN [(0, 8)] p0 := dkN_eq1 (dkN_top p0) a3_0 rfl rfl
    have d5 : dkN [(0, 8)] v2 := dkN_eq1 dv2 a3_2 rfl rfl
    exact W.zret (v := v3) (ty := .boolean) hx hb hr (dkN_zr dv3 rfl) (fun t ht hW9 => ⟨⟨v3, I3, rfl, ⟨hF, hO, Or.inr (⟨dkN_sub dv3 rfl, dkN_sub d4 rfl, trivial⟩)⟩, dkW_eq ht hW⟩, hS.F ht⟩) hS.2.2 dX6_isStreet_13
set_option maxHeartbeats 4000000 in
set_option maxRecDepth 100000 in
theorem c_X6_put_0 (l : Launch) (g : dkG) (z : Nat) (I0 : dkI) (p0 : Int32) (p1 : Int32)  (hO : dkOk I0) (hP : dkPP I0) : Met l yX6_put wsX6_put (dkR 2) (dkPc g z [.ref (z + 340), .int p0, .int p1] I0) (dkQi g z (fun r I1 => dkF [(340, 340, 17, 17), (346, 346, 38, 38), (346, 346, 41, 41), (346, 346, 44, 44), (346, 346, 47, 47), (346, 346, 50, 50), (346, 346, 53, 53), (349, 349, 0, 1295)] I0 I1 ∧ dkOk I1 ∧ dkPP I1 ∧ ((True ∧ True)))) 0 0 (dkA z) := by
  refine Met.ofW (cc := cX6_put) (maxL := 4) (ret := (some .int)) (by decide) rfl ?_
  intro p e s m args below meth c s₁ B hml hv
  obtain ⟨ha, hW, hK, hT⟩ := hv
  have hx := B.exec
  have hb := B.bytes
  have hr := B.returns
  have hts := atoms_spec (ws := wsX6_put) B.pre
  have hown : s.vm.findClass RX6 = some m.cls := findClass_of_methodNamed B.named
  have hlocks := B.notSynchronized
  have hS : va_S (dkA z) s.heap s.heap [] := va_S.rf
  have hF : dkF [(340, 340, 17, 17), (346, 346, 38, 38), (346, 346, 41, 41), (346, 346, 44, 44), (346, 346, 47, 47), (346, 346, 50, 50), (346, 346, 53, 53), (349, 349, 0, 1295)] I0 I0 := dkF_rf _ _
  have hl := lv_entry ([.ref (z + 340), .int p0, .int p1]) (n := 4) (Nat.le_of_ble_eq_true rfl)
  have hgo : entryFrame m args 4 = entryFrame m ([.ref (z + 340), .int p0, .int p1] : List Value).toArray 4 := by rw [ha]
  rw [hgo, lg_entry_eq]
  generalize (lg_sl ([.ref (z + 340), .int p0, .int p1]) ++ List.replicate (4 - (lg_sl ([.ref (z + 340), .int p0, .int p1])).length) Slot.unset).toArray = ls at hl ⊢
  have hl : lv_has ls 4 [(0, .ref (z + 340)), (1, .int p0), (2, .int p1)] := hl
  refine lv_aload_n hx hb dX6_put_0 rfl (lv_at hl 0 rfl) ?_
  refine lv_iload_n hx hb dX6_put_1 rfl (lv_at hl 1 rfl) ?_
  refine dk_Vi (As := [.int p0]) (rest := []) ⟨hx, hb, hml, hown, hts⟩ (c_X6_isDog_0 l g z I0 p0 hO) (cwV 1 hts gX6_put_X6_isDog rfl rfl rfl (by decide +kernel) ⟨Nat.le_of_ble_eq_true rfl, Nat.le_of_ble_eq_true rfl⟩) (dk_at340 hW) rfl hK hT hW hS rfl hl.1 rfl (Nat.le_of_ble_eq_true rfl) dX6_put_2 ⟨Nat.zero_le _, Nat.zero_le _⟩ (fun v1 I1 H1 L1 hp1 hW hS => ?_)
  obtain ⟨hF1, hO, hc1⟩ := hp1
  have hF := dkF_call hF hF1 rfl
  have hP := dkPP_F hP hF1 rfl
  rcases hc1 with ⟨dv1, -⟩ | hc1
  ·
    refine lv_if_eq (tgt := 16) hx hb dX6_put_5 (by decide) (fun c2 => ?_) (fun c2 => ?_)
    ·
      refine lv_ldc (v := (-1000001)) hx hb hown (hts (.constant RX6 64 (-1000001)) (List.mem_of_getElem? (i := 1) rfl)) dX6_put_16 ?_
      exact W.iret (v := (-1000001)) hx hb hr (fun t ht hW9 => ⟨⟨(-1000001), I1, rfl, ⟨hF, hO, hP, ⟨trivial, trivial⟩⟩, dkW_eq ht hW⟩, hS.F ht⟩) hS.2.2 dX6_put_18
    ·
      exact (dkN_nil (show dkN [] v1 from dkN_ne1 (0) dv1 (dkN_lit (x := 0) (0) rfl) (dk_ne c2) rfl)).elim
  ·
    obtain ⟨dv1, a1_0, -⟩ := hc1
    have d3 : dkN [(0, 5)] p0 := dkN_eq1 (dkN_top p0) a1_0 rfl rfl
    refine lv_if_eq (tgt := 16) hx hb dX6_put_5 (by decide) (fun c4 => ?_) (fun c4 => ?_)
    ·
      exact (dkN_nil (show dkN [] v1 from dkN_eq1 dv1 (dkN_lit (x := 0) (0) rfl) (congrArg Int32.toInt c4) rfl)).elim
    ·
      refine lv_aload_n hx hb dX6_put_8 rfl (lv_at hl 0 rfl) ?_
      refine lv_iload_n hx hb dX6_put_9 rfl (lv_at hl 2 rfl) ?_
      refine dk_Vi (As := [.int p1]) (rest := []) ⟨hx, hb, hml, hown, hts⟩ (c_X6_isStreet_0 l g z I1 p1 hO) (cwV 1 hts gX6_put_X6_isStreet rfl rfl rfl (by decide +kernel) ⟨Nat.le_of_ble_eq_true rfl, Nat.le_of_ble_eq_true rfl⟩) (dk_at340 hW) rfl hK hT hW hS rfl hl.1 rfl (Nat.le_of_ble_eq_true rfl) dX6_put_10 ⟨Nat.zero_le _, Nat.zero_le _⟩ (fun v5 I5 H5 L5 hp5 hW hS => ?_)
      obtain ⟨hF5, hO, hc5⟩ := hp5
      have hF := dkF_call hF hF5 rfl
      have hP := dkPP_F hP hF5 rfl
      rcases hc5 with ⟨dv5, -⟩ | hc5
      ·
        refine lv_if_ne (tgt := 19) hx hb dX6_put_13 (by decide) (fun c6 => ?_) (fun c6 => ?_)
        ·
          exact (dkN_nil (show dkN [] v5 from dkN_ne1 (0) dv5 (dkN_lit (x := 0) (0) rfl) (dk_ne c6) rfl)).elim
        ·
          refine lv_ldc (v := (-1000001)) hx hb hown (hts (.constant RX6 64 (-1000001)) (List.mem_of_getElem? (i := 1) rfl)) dX6_put_16 ?_
          exact W.iret (v := (-1000001)) hx hb hr (fun t ht hW9 => ⟨⟨(-1000001), I5, rfl, ⟨hF, hO, hP, ⟨trivial, trivial⟩⟩, dkW_eq ht hW⟩, hS.F ht⟩) hS.2.2 dX6_put_18
      ·
        obtain ⟨dv5, a5_0, -⟩ := hc5
        have d7 : dkN [(0, 8)] p1 := dkN_eq1 (dkN_top p1) a5_0 rfl rfl
        refine lv_if_ne (tgt := 19) hx hb dX6_put_13 (by decide) (fun c8 => ?_) (fun c8 => ?_)
        ·
          refine lv_aload_n hx hb dX6_put_19 rfl (lv_at hl 0 rfl) ?_
          refine dk_get (k := 340) hx hb hts iX6_put_6 hown hK (dk_at340 hW) rfl 13 (by decide) (hts (.fieldLink RX6 25 "DogKingsModel" "now" "[I") (List.mem_of_getElem? (i := 2) rfl)) rfl dX6_put_20 ?_
          refine lv_bipush (v := 36) hx hb dX6_put_23 (by decide) ?_
          refine lv_iconst (v := 3) hx hb dX6_put_25 (by decide) ?_
          refine lv_iload_n hx hb dX6_put_26 rfl (lv_at hl 1 rfl) ?_
          refine lv_imul hx hb dX6_put_27 ?_
          refine lv_topi (fun v9 ev9 => ?_)
          have dv9 : dkN [(0, 0), (3, 3), (6, 6), (9, 9), (12, 12), (15, 15)] v9 := by rw [ev9]; exact dkN_mulPt 3 (dkN_lit (x := 3) (3) rfl) d3 rfl
          refine lv_iadd hx hb dX6_put_28 ?_
          refine lv_topi (fun v10 ev10 => ?_)
          have dv10 : dkN [(36, 36), (39, 39), (42, 42), (45, 45), (48, 48), (51, 51)] v10 := by rw [ev10]; exact dkN_add (dkN_lit (x := 36) (36) rfl) dv9 rfl
          refine lv_iconst (v := 2) hx hb dX6_put_29 (by decide) ?_
          refine lv_iadd hx hb dX6_put_30 ?_
          refine lv_topi (fun v11 ev11 => ?_)
          have dv11 : dkN [(38, 38), (41, 41), (44, 44), (47, 47), (50, 50), (53, 53)] v11 := by rw [ev11]; exact dkN_add dv10 (dkN_lit (x := 2) (2) rfl) rfl
          refine dk_ild (k := 346) hx hb hK (dk_at346 hW) (dkN_in (n := 54) dv11 rfl) dX6_put_31 ?_
          refine lv_topi (fun v12 ev12 => ?_)
          refine lv_istore_n (lv' := [(3, .int v12), (0, .ref (z + 340)), (1, .int p0), (2, .int p1)]) hx hb dX6_put_32 rfl hl (by decide) rfl (fun ls hl => ?_)
          refine lv_iload_n hx hb dX6_put_33 rfl (lv_at hl 0 rfl) ?_
          refine lv_iload_n hx hb dX6_put_34 rfl (lv_at hl 3 rfl) ?_
          refine lv_icmp_ne (tgt := 41) hx hb dX6_put_35 (by decide) (fun c13 => ?_) (fun c13 => ?_)
          ·
            refine lv_aload_n hx hb dX6_put_41 rfl (lv_at hl 1 rfl) ?_
            refine dk_Vv (As := []) (rest := []) ⟨hx, hb, hml, hown, hts⟩ (c_X6_notes l g z I5 hO hP) (cwV 0 hts gX6_put_X6_notes rfl rfl rfl (by decide +kernel) ⟨Nat.le_of_ble_eq_true rfl, Nat.le_of_ble_eq_true rfl⟩) (dk_at340 hW) rfl hK hT hW hS rfl hl.1 rfl (Nat.le_of_ble_eq_true rfl) dX6_put_42 ⟨Nat.zero_le _, Nat.zero_le _⟩ (fun I14 H14 L14 hp14 hW hS => ?_)
            obtain ⟨hF14, hO, hP, hc14⟩ := hp14
            have hF := dkF_call hF hF14 rfl
            obtain ⟨f14_340_17, -⟩ := hc14
            refine lv_aload_n hx hb dX6_put_45 rfl (lv_at hl 1 rfl) ?_
            refine dk_get (k := 340) hx hb hts iX6_put_6 hown hK (dk_at340 hW) rfl 13 (by decide) (hts (.fieldLink RX6 25 "DogKingsModel" "now" "[I") (List.mem_of_getElem? (i := 2) rfl)) rfl dX6_put_46 ?_
            refine lv_bipush (v := 36) hx hb dX6_put_49 (by decide) ?_
            refine lv_iconst (v := 3) hx hb dX6_put_51 (by decide) ?_
            refine lv_iload_n hx hb dX6_put_52 rfl (lv_at hl 2 rfl) ?_
            refine lv_imul hx hb dX6_put_53 ?_
            refine lv_topi (fun v15 ev15 => ?_)
            have dv15 : dkN [(0, 0), (3, 3), (6, 6), (9, 9), (12, 12), (15, 15)] v15 := by rw [ev15]; exact dkN_mulPt 3 (dkN_lit (x := 3) (3) rfl) d3 rfl
            refine lv_iadd hx hb dX6_put_54 ?_
            refine lv_topi (fun v16 ev16 => ?_)
            have dv16 : dkN [(36, 36), (39, 39), (42, 42), (45, 45), (48, 48), (51, 51)] v16 := by rw [ev16]; exact dkN_add (dkN_lit (x := 36) (36) rfl) dv15 rfl
            refine lv_iconst (v := 2) hx hb dX6_put_55 (by decide) ?_
            refine lv_iadd hx hb dX6_put_56 ?_
            refine lv_topi (fun v17 ev17 => ?_)
            have dv17 : dkN [(38, 38), (41, 41), (44, 44), (47, 47), (50, 50), (53, 53)] v17 := by rw [ev17]; exact dkN_add dv16 (dkN_lit (x := 2) (2) rfl) rfl
            refine lv_iload_n hx hb dX6_put_57 rfl (lv_at hl 3 rfl) ?_
            refine dk_ist (k := 346) hx hb hK hW (fun _ => rfl) (by decide) hS (dkN_in (n := 54) dv17 rfl) dX6_put_58 (fun I18 H18 L18 eI18 hW hS => ?_)
            have hO := dkO_set hO eI18 (by rw [dkB_w (k := 346) (B := [(-2147483648, 2147483647)]) (by decide) dv17 rfl]; exact dkN_top _)
            have hF := dkF_set hF eI18 (dkIn_v dv17 rfl)
            have hP := dkPP_set hP eI18 (dkPPb_v dv17 rfl)
            refine lv_iload_n hx hb dX6_put_59 rfl (lv_at hl 0 rfl) ?_
            exact W.iret (v := v12) hx hb hr (fun t ht hW9 => ⟨⟨v12, I18, rfl, ⟨hF, hO, hP, ⟨trivial, trivial⟩⟩, dkW_eq ht hW⟩, hS.F ht⟩) hS.2.2 dX6_put_60
          ·
            have d19 : dkN [(0, 8)] v12 := dkN_eq1 (dkN_top v12) d7 (congrArg Int32.toInt c13) rfl
            refine lv_ldc (v := (-1000002)) hx hb hown (hts (.constant RX6 185 (-1000002)) (List.mem_of_getElem? (i := 3) rfl)) dX6_put_38 ?_
            exact W.iret (v := (-1000002)) hx hb hr (fun t ht hW9 => ⟨⟨(-1000002), I5, rfl, ⟨hF, hO, hP, ⟨trivial, trivial⟩⟩, dkW_eq ht hW⟩, hS.F ht⟩) hS.2.2 dX6_put_40
        ·
          exact (dkN_nil (show dkN [] v5 from dkN_eq1 dv5 (dkN_lit (x := 0) (0) rfl) (congrArg Int32.toInt c8) rfl)).elim
set_option maxHeartbeats 4000000 in
set_option maxRecDepth 100000 in
theorem c_X5_dog_0 (l : Launch) (g : dkG) (z : Nat) (I0 : dkI) (p0 : Int32) (p1 : Int32)  (hO : dkOk I0) : Met l yX5_dog wsX5_dog (dkR 3) (dkPc g z [.ref (z + 0), .int p0, .int p1] I0) (dkQi g z (fun r I1 => dkF [(35, 35, 0, 8)] I0 I1 ∧ dkOk I1 ∧ ((True ∧ True)))) 0 0 (dkA z) := by
  refine Met.ofW (cc := cX5_dog) (maxL := 3) (ret := (some .int)) (by decide) rfl ?_
  intro p e s m args below meth c s₁ B hml hv
  obtain ⟨ha, hW, hK, hT⟩ := hv
  have hx := B.exec
  have hb := B.bytes
  have hr := B.returns
  have hts := atoms_spec (ws := wsX5_dog) B.pre
  have hown : s.vm.findClass RX5 = some m.cls := findClass_of_methodNamed B.named
  have hlocks := B.notSynchronized
  have hS : va_S (dkA z) s.heap s.heap [] := va_S.rf
  have hF : dkF [(35, 35, 0, 8)] I0 I0 := dkF_rf _ _
  have hl := lv_entry ([.ref (z + 0), .int p0, .int p1]) (n := 3) (Nat.le_of_ble_eq_true rfl)
  have hgo : entryFrame m args 3 = entryFrame m ([.ref (z + 0), .int p0, .int p1] : List Value).toArray 3 := by rw [ha]
  rw [hgo, lg_entry_eq]
  generalize (lg_sl ([.ref (z + 0), .int p0, .int p1]) ++ List.replicate (3 - (lg_sl ([.ref (z + 0), .int p0, .int p1])).length) Slot.unset).toArray = ls at hl ⊢
  have hl : lv_has ls 3 [(0, .ref (z + 0)), (1, .int p0), (2, .int p1)] := hl
  refine lv_aload_n hx hb dX5_dog_0 rfl (lv_at hl 0 rfl) ?_
  refine lv_iload_n hx hb dX5_dog_1 rfl (lv_at hl 1 rfl) ?_
  refine dk_Vi (As := [.int p0]) (rest := []) ⟨hx, hb, hml, hown, hts⟩ (c_X5_isDog_0 l g z I0 p0 hO) (cwV 1 hts gX5_dog_X5_isDog rfl rfl rfl (by decide +kernel) ⟨Nat.le_of_ble_eq_true rfl, Nat.le_of_ble_eq_true rfl⟩) (dk_at0 hW) rfl hK hT hW hS rfl hl.1 rfl (Nat.le_of_ble_eq_true rfl) dX5_dog_2 ⟨Nat.zero_le _, Nat.zero_le _⟩ (fun v1 I1 H1 L1 hp1 hW hS => ?_)
  obtain ⟨hF1, hO, hc1⟩ := hp1
  have hF := dkF_call hF hF1 rfl
  rcases hc1 with ⟨dv1, -⟩ | hc1
  ·
    refine lv_if_ne (tgt := 11) hx hb dX5_dog_5 (by decide) (fun c2 => ?_) (fun c2 => ?_)
    ·
      exact (dkN_nil (show dkN [] v1 from dkN_ne1 (0) dv1 (dkN_lit (x := 0) (0) rfl) (dk_ne c2) rfl)).elim
    ·
      refine lv_ldc (v := (-1000001)) hx hb hown (hts (.constant RX5 70 (-1000001)) (List.mem_of_getElem? (i := 1) rfl)) dX5_dog_8 ?_
      exact W.iret (v := (-1000001)) hx hb hr (fun t ht hW9 => ⟨⟨(-1000001), I1, rfl, ⟨hF, hO, ⟨trivial, trivial⟩⟩, dkW_eq ht hW⟩, hS.F ht⟩) hS.2.2 dX5_dog_10
  ·
    obtain ⟨dv1, a1_0, f1_25_11, -⟩ := hc1
    have d3 : dkN [(0, 5)] p0 := dkN_eq1 (dkN_top p0) a1_0 rfl rfl
    refine lv_if_ne (tgt := 11) hx hb dX5_dog_5 (by decide) (fun c4 => ?_) (fun c4 => ?_)
    ·
      refine lv_iload_n hx hb dX5_dog_11 rfl (lv_at hl 2 rfl) ?_
      by_cases c5 : p1 = 0
      ·
        have qc5 : p1.toInt = 0 := by rw [c5]; rfl
        have d6 : dkN [(0, 0)] p1 := dkN_lit (0) qc5
        refine lv_tableIn (tgt := 44) hx hb dX5_dog_12 (by rw [qc5]; decide) (by rw [qc5]; decide) (by rw [qc5]; rfl) (by decide) ?_
        refine lv_aload_n hx hb dX5_dog_44 rfl (lv_at hl 0 rfl) ?_
        refine dk_get (k := 0) hx hb hts iX5_dog_5 hown hK (dk_at0 hW) rfl 5 (by decide) (hts (.fieldLink RX5 31 "DogKings" "now" "LDogKings$Town;") (List.mem_of_getElem? (i := 2) rfl)) rfl dX5_dog_45 ?_
        refine dk_get (k := 25) hx hb hts iX5_dog_4 hown hK (dk_at25 hW) rfl 14 (by decide) (hts (.fieldLink RX5 155 "DogKings$Town" "dogAt" "[I") (List.mem_of_getElem? (i := 3) rfl)) rfl dX5_dog_48 ?_
        refine lv_iload_n hx hb dX5_dog_51 rfl (lv_at hl 1 rfl) ?_
        refine dk_ild (k := 34) hx hb hK (dk_at34 hW) (dkN_in (n := 6) d3 rfl) dX5_dog_52 ?_
        refine lv_topi (fun v7 ev7 => ?_)
        exact W.iret (v := v7) hx hb hr (fun t ht hW9 => ⟨⟨v7, I1, rfl, ⟨hF, hO, ⟨trivial, trivial⟩⟩, dkW_eq ht hW⟩, hS.F ht⟩) hS.2.2 dX5_dog_53
      ·
        have d8 : dkN [(-2147483648, -1), (1, 2147483647)] p1 := dkN_ne1 (0) (dkN_top p1) (dkN_lit (x := 0) (0) rfl) (dk_ne c5) rfl
        by_cases c9 : p1 = 1
        ·
          have qc9 : p1.toInt = 1 := by rw [c9]; rfl
          have d10 : dkN [(1, 1)] p1 := dkN_lit (1) qc9
          refine lv_tableIn (tgt := 54) hx hb dX5_dog_12 (by rw [qc9]; decide) (by rw [qc9]; decide) (by rw [qc9]; rfl) (by decide) ?_
          refine lv_aload_n hx hb dX5_dog_54 rfl (lv_at hl 0 rfl) ?_
          refine dk_get (k := 0) hx hb hts iX5_dog_5 hown hK (dk_at0 hW) rfl 5 (by decide) (hts (.fieldLink RX5 31 "DogKings" "now" "LDogKings$Town;") (List.mem_of_getElem? (i := 2) rfl)) rfl dX5_dog_55 ?_
          refine dk_get (k := 25) hx hb hts iX5_dog_4 hown hK (dk_at25 hW) rfl 13 (by decide) (hts (.fieldLink RX5 165 "DogKings$Town" "dogHome" "[I") (List.mem_of_getElem? (i := 4) rfl)) rfl dX5_dog_58 ?_
          refine lv_iload_n hx hb dX5_dog_61 rfl (lv_at hl 1 rfl) ?_
          refine dk_ild (k := 33) hx hb hK (dk_at33 hW) (dkN_in (n := 6) d3 rfl) dX5_dog_62 ?_
          refine lv_topi (fun v11 ev11 => ?_)
          exact W.iret (v := v11) hx hb hr (fun t ht hW9 => ⟨⟨v11, I1, rfl, ⟨hF, hO, ⟨trivial, trivial⟩⟩, dkW_eq ht hW⟩, hS.F ht⟩) hS.2.2 dX5_dog_63
        ·
          have d12 : dkN [(-2147483648, -1), (2, 2147483647)] p1 := dkN_ne1 (1) d8 (dkN_lit (x := 1) (1) rfl) (dk_ne c9) rfl
          by_cases c13 : p1 = 2
          ·
            have qc13 : p1.toInt = 2 := by rw [c13]; rfl
            have d14 : dkN [(2, 2)] p1 := dkN_lit (2) qc13
            refine lv_tableIn (tgt := 64) hx hb dX5_dog_12 (by rw [qc13]; decide) (by rw [qc13]; decide) (by rw [qc13]; rfl) (by decide) ?_
            refine lv_aload_n hx hb dX5_dog_64 rfl (lv_at hl 0 rfl) ?_
            refine dk_get (k := 0) hx hb hts iX5_dog_5 hown hK (dk_at0 hW) rfl 5 (by decide) (hts (.fieldLink RX5 31 "DogKings" "now" "LDogKings$Town;") (List.mem_of_getElem? (i := 2) rfl)) rfl dX5_dog_65 ?_
            refine lv_iload_n hx hb dX5_dog_68 rfl (lv_at hl 1 rfl) ?_
            refine dk_Vi (As := [.int p0]) (rest := []) ⟨hx, hb, hml, hown, hts⟩ (c_X4_favourite_0 l g z I1 (25) (by unfold dkT; omega) p0 d3 hO) (cwV 1 hts gX5_dog_X4_favourite rfl rfl rfl (by decide +kernel) ⟨Nat.le_of_ble_eq_true rfl, Nat.le_of_ble_eq_true rfl⟩) (dk_at25 hW) rfl hK hT hW hS rfl hl.1 rfl (Nat.le_of_ble_eq_true rfl) dX5_dog_69 ⟨Nat.zero_le _, Nat.zero_le _⟩ (fun v15 I15 H15 L15 hp15 hW hS => ?_)
            obtain ⟨hF15, hO, hc15⟩ := hp15
            have hF := dkF_call hF hF15 rfl
            obtain ⟨dv15, -⟩ := hc15
            exact W.iret (v := v15) hx hb hr (fun t ht hW9 => ⟨⟨v15, I15, rfl, ⟨hF, hO, ⟨trivial, trivial⟩⟩, dkW_eq ht hW⟩, hS.F ht⟩) hS.2.2 dX5_dog_72
          ·
            have d16 : dkN [(-2147483648, -1), (3, 2147483647)] p1 := dkN_ne1 (2) d12 (dkN_lit (x := 2) (2) rfl) (dk_ne c13) rfl
            by_cases c17 : p1 = 3
            ·
              have qc17 : p1.toInt = 3 := by rw [c17]; rfl
              have d18 : dkN [(3, 3)] p1 := dkN_lit (3) qc17
              refine lv_tableIn (tgt := 73) hx hb dX5_dog_12 (by rw [qc17]; decide) (by rw [qc17]; decide) (by rw [qc17]; rfl) (by decide) ?_
              refine lv_aload_n hx hb dX5_dog_73 rfl (lv_at hl 0 rfl) ?_
              refine dk_get (k := 0) hx hb hts iX5_dog_5 hown hK (dk_at0 hW) rfl 5 (by decide) (hts (.fieldLink RX5 31 "DogKings" "now" "LDogKings$Town;") (List.mem_of_getElem? (i := 2) rfl)) rfl dX5_dog_74 ?_
              refine lv_iload_n hx hb dX5_dog_77 rfl (lv_at hl 1 rfl) ?_
              refine dk_Vi (As := [.int p0]) (rest := []) ⟨hx, hb, hml, hown, hts⟩ (c_X4_goal_0 l g z I1 (25) (by unfold dkT; omega) p0 d3 hO) (cwV 1 hts gX5_dog_X4_goal rfl rfl rfl (by decide +kernel) ⟨Nat.le_of_ble_eq_true rfl, Nat.le_of_ble_eq_true rfl⟩) (dk_at25 hW) rfl hK hT hW hS rfl hl.1 rfl (Nat.le_of_ble_eq_true rfl) dX5_dog_78 ⟨Nat.zero_le _, Nat.zero_le _⟩ (fun v19 I19 H19 L19 hp19 hW hS => ?_)
              obtain ⟨hF19, hO, hc19⟩ := hp19
              have hF := dkF_call hF hF19 rfl
              obtain ⟨_, -⟩ := hc19
              exact W.iret (v := v19) hx hb hr (fun t ht hW9 => ⟨⟨v19, I19, rfl, ⟨hF, hO, ⟨trivial, trivial⟩⟩, dkW_eq ht hW⟩, hS.F ht⟩) hS.2.2 dX5_dog_81
            ·
              have d20 : dkN [(-2147483648, -1), (4, 2147483647)] p1 := dkN_ne1 (3) d16 (dkN_lit (x := 3) (3) rfl) (dk_ne c17) rfl
              refine lv_tableOut (tgt := 82) hx hb dX5_dog_12 (dkN_out d20 rfl) (by decide) ?_
              refine lv_ldc (v := (-1000001)) hx hb hown (hts (.constant RX5 70 (-1000001)) (List.mem_of_getElem? (i := 1) rfl)) dX5_dog_82 ?_
              exact W.iret (v := (-1000001)) hx hb hr (fun t ht hW9 => ⟨⟨(-1000001), I1, rfl, ⟨hF, hO, ⟨trivial, trivial⟩⟩, dkW_eq ht hW⟩, hS.F ht⟩) hS.2.2 dX5_dog_84
    ·
      exact (dkN_nil (show dkN [] v1 from dkN_eq1 dv1 (dkN_lit (x := 0) (0) rfl) (congrArg Int32.toInt c4) rfl)).elim
set_option maxHeartbeats 4000000 in
set_option maxRecDepth 100000 in
theorem c_X6_dog_0 (l : Launch) (g : dkG) (z : Nat) (I0 : dkI) (p0 : Int32) (p1 : Int32)  (hO : dkOk I0) : Met l yX6_dog wsX6_dog (dkR 4) (dkPc g z [.ref (z + 340), .int p0, .int p1] I0) (dkQi g z (fun r I1 => dkF [] I0 I1 ∧ dkOk I1 ∧ ((True ∧ True)))) 0 0 (dkA z) := by
  refine Met.ofW (cc := cX6_dog) (maxL := 3) (ret := (some .int)) (by decide) rfl ?_
  intro p e s m args below meth c s₁ B hml hv
  obtain ⟨ha, hW, hK, hT⟩ := hv
  have hx := B.exec
  have hb := B.bytes
  have hr := B.returns
  have hts := atoms_spec (ws := wsX6_dog) B.pre
  have hown : s.vm.findClass RX6 = some m.cls := findClass_of_methodNamed B.named
  have hlocks := B.notSynchronized
  have hS : va_S (dkA z) s.heap s.heap [] := va_S.rf
  have hF : dkF [] I0 I0 := dkF_rf _ _
  have hl := lv_entry ([.ref (z + 340), .int p0, .int p1]) (n := 3) (Nat.le_of_ble_eq_true rfl)
  have hgo : entryFrame m args 3 = entryFrame m ([.ref (z + 340), .int p0, .int p1] : List Value).toArray 3 := by rw [ha]
  rw [hgo, lg_entry_eq]
  generalize (lg_sl ([.ref (z + 340), .int p0, .int p1]) ++ List.replicate (3 - (lg_sl ([.ref (z + 340), .int p0, .int p1])).length) Slot.unset).toArray = ls at hl ⊢
  have hl : lv_has ls 3 [(0, .ref (z + 340)), (1, .int p0), (2, .int p1)] := hl
  refine lv_aload_n hx hb dX6_dog_0 rfl (lv_at hl 0 rfl) ?_
  refine lv_iload_n hx hb dX6_dog_1 rfl (lv_at hl 1 rfl) ?_
  refine dk_Vi (As := [.int p0]) (rest := []) ⟨hx, hb, hml, hown, hts⟩ (c_X6_isDog_0 l g z I0 p0 hO) (cwV 1 hts gX6_dog_X6_isDog rfl rfl rfl (by decide +kernel) ⟨Nat.le_of_ble_eq_true rfl, Nat.le_of_ble_eq_true rfl⟩) (dk_at340 hW) rfl hK hT hW hS rfl hl.1 rfl (Nat.le_of_ble_eq_true rfl) dX6_dog_2 ⟨Nat.zero_le _, Nat.zero_le _⟩ (fun v1 I1 H1 L1 hp1 hW hS => ?_)
  obtain ⟨hF1, hO, hc1⟩ := hp1
  have hF := dkF_call hF hF1 rfl
  rcases hc1 with ⟨dv1, -⟩ | hc1
  ·
    refine lv_if_ne (tgt := 11) hx hb dX6_dog_5 (by decide) (fun c2 => ?_) (fun c2 => ?_)
    ·
      exact (dkN_nil (show dkN [] v1 from dkN_ne1 (0) dv1 (dkN_lit (x := 0) (0) rfl) (dk_ne c2) rfl)).elim
    ·
      refine lv_ldc (v := (-1000001)) hx hb hown (hts (.constant RX6 64 (-1000001)) (List.mem_of_getElem? (i := 1) rfl)) dX6_dog_8 ?_
      exact W.iret (v := (-1000001)) hx hb hr (fun t ht hW9 => ⟨⟨(-1000001), I1, rfl, ⟨hF, hO, ⟨trivial, trivial⟩⟩, dkW_eq ht hW⟩, hS.F ht⟩) hS.2.2 dX6_dog_10
  ·
    obtain ⟨dv1, a1_0, -⟩ := hc1
    have d3 : dkN [(0, 5)] p0 := dkN_eq1 (dkN_top p0) a1_0 rfl rfl
    refine lv_if_ne (tgt := 11) hx hb dX6_dog_5 (by decide) (fun c4 => ?_) (fun c4 => ?_)
    ·
      refine lv_iload_n hx hb dX6_dog_11 rfl (lv_at hl 2 rfl) ?_
      by_cases c5 : p1 = 0
      ·
        have qc5 : p1.toInt = 0 := by rw [c5]; rfl
        have d6 : dkN [(0, 0)] p1 := dkN_lit (0) qc5
        refine lv_tableIn (tgt := 44) hx hb dX6_dog_12 (by rw [qc5]; decide) (by rw [qc5]; decide) (by rw [qc5]; rfl) (by decide) ?_
        refine lv_aload_n hx hb dX6_dog_44 rfl (lv_at hl 0 rfl) ?_
        refine dk_get (k := 340) hx hb hts iX6_dog_6 hown hK (dk_at340 hW) rfl 13 (by decide) (hts (.fieldLink RX6 25 "DogKingsModel" "now" "[I") (List.mem_of_getElem? (i := 2) rfl)) rfl dX6_dog_45 ?_
        refine lv_bipush (v := 36) hx hb dX6_dog_48 (by decide) ?_
        refine lv_iconst (v := 3) hx hb dX6_dog_50 (by decide) ?_
        refine lv_iload_n hx hb dX6_dog_51 rfl (lv_at hl 1 rfl) ?_
        refine lv_imul hx hb dX6_dog_52 ?_
        refine lv_topi (fun v7 ev7 => ?_)
        have dv7 : dkN [(0, 0), (3, 3), (6, 6), (9, 9), (12, 12), (15, 15)] v7 := by rw [ev7]; exact dkN_mulPt 3 (dkN_lit (x := 3) (3) rfl) d3 rfl
        refine lv_iadd hx hb dX6_dog_53 ?_
        refine lv_topi (fun v8 ev8 => ?_)
        have dv8 : dkN [(36, 36), (39, 39), (42, 42), (45, 45), (48, 48), (51, 51)] v8 := by rw [ev8]; exact dkN_add (dkN_lit (x := 36) (36) rfl) dv7 rfl
        refine lv_iconst (v := 2) hx hb dX6_dog_54 (by decide) ?_
        refine lv_iadd hx hb dX6_dog_55 ?_
        refine lv_topi (fun v9 ev9 => ?_)
        have dv9 : dkN [(38, 38), (41, 41), (44, 44), (47, 47), (50, 50), (53, 53)] v9 := by rw [ev9]; exact dkN_add dv8 (dkN_lit (x := 2) (2) rfl) rfl
        refine dk_ild (k := 346) hx hb hK (dk_at346 hW) (dkN_in (n := 54) dv9 rfl) dX6_dog_56 ?_
        refine lv_topi (fun v10 ev10 => ?_)
        exact W.iret (v := v10) hx hb hr (fun t ht hW9 => ⟨⟨v10, I1, rfl, ⟨hF, hO, ⟨trivial, trivial⟩⟩, dkW_eq ht hW⟩, hS.F ht⟩) hS.2.2 dX6_dog_57
      ·
        have d11 : dkN [(-2147483648, -1), (1, 2147483647)] p1 := dkN_ne1 (0) (dkN_top p1) (dkN_lit (x := 0) (0) rfl) (dk_ne c5) rfl
        by_cases c12 : p1 = 1
        ·
          have qc12 : p1.toInt = 1 := by rw [c12]; rfl
          have d13 : dkN [(1, 1)] p1 := dkN_lit (1) qc12
          refine lv_tableIn (tgt := 58) hx hb dX6_dog_12 (by rw [qc12]; decide) (by rw [qc12]; decide) (by rw [qc12]; rfl) (by decide) ?_
          refine lv_aload_n hx hb dX6_dog_58 rfl (lv_at hl 0 rfl) ?_
          refine dk_get (k := 340) hx hb hts iX6_dog_6 hown hK (dk_at340 hW) rfl 13 (by decide) (hts (.fieldLink RX6 25 "DogKingsModel" "now" "[I") (List.mem_of_getElem? (i := 2) rfl)) rfl dX6_dog_59 ?_
          refine lv_bipush (v := 36) hx hb dX6_dog_62 (by decide) ?_
          refine lv_iconst (v := 3) hx hb dX6_dog_64 (by decide) ?_
          refine lv_iload_n hx hb dX6_dog_65 rfl (lv_at hl 1 rfl) ?_
          refine lv_imul hx hb dX6_dog_66 ?_
          refine lv_topi (fun v14 ev14 => ?_)
          have dv14 : dkN [(0, 0), (3, 3), (6, 6), (9, 9), (12, 12), (15, 15)] v14 := by rw [ev14]; exact dkN_mulPt 3 (dkN_lit (x := 3) (3) rfl) d3 rfl
          refine lv_iadd hx hb dX6_dog_67 ?_
          refine lv_topi (fun v15 ev15 => ?_)
          have dv15 : dkN [(36, 36), (39, 39), (42, 42), (45, 45), (48, 48), (51, 51)] v15 := by rw [ev15]; exact dkN_add (dkN_lit (x := 36) (36) rfl) dv14 rfl
          refine lv_iconst (v := 1) hx hb dX6_dog_68 (by decide) ?_
          refine lv_iadd hx hb dX6_dog_69 ?_
          refine lv_topi (fun v16 ev16 => ?_)
          have dv16 : dkN [(37, 37), (40, 40), (43, 43), (46, 46), (49, 49), (52, 52)] v16 := by rw [ev16]; exact dkN_add dv15 (dkN_lit (x := 1) (1) rfl) rfl
          refine dk_ild (k := 346) hx hb hK (dk_at346 hW) (dkN_in (n := 54) dv16 rfl) dX6_dog_70 ?_
          refine lv_topi (fun v17 ev17 => ?_)
          exact W.iret (v := v17) hx hb hr (fun t ht hW9 => ⟨⟨v17, I1, rfl, ⟨hF, hO, ⟨trivial, trivial⟩⟩, dkW_eq ht hW⟩, hS.F ht⟩) hS.2.2 dX6_dog_71
        ·
          have d18 : dkN [(-2147483648, -1), (2, 2147483647)] p1 := dkN_ne1 (1) d11 (dkN_lit (x := 1) (1) rfl) (dk_ne c12) rfl
          by_cases c19 : p1 = 2
          ·
            have qc19 : p1.toInt = 2 := by rw [c19]; rfl
            have d20 : dkN [(2, 2)] p1 := dkN_lit (2) qc19
            refine lv_tableIn (tgt := 72) hx hb dX6_dog_12 (by rw [qc19]; decide) (by rw [qc19]; decide) (by rw [qc19]; rfl) (by decide) ?_
            refine lv_aload_n hx hb dX6_dog_72 rfl (lv_at hl 0 rfl) ?_
            refine dk_get (k := 340) hx hb hts iX6_dog_6 hown hK (dk_at340 hW) rfl 13 (by decide) (hts (.fieldLink RX6 25 "DogKingsModel" "now" "[I") (List.mem_of_getElem? (i := 2) rfl)) rfl dX6_dog_73 ?_
            refine lv_iload_n hx hb dX6_dog_76 rfl (lv_at hl 1 rfl) ?_
            refine dk_Si (As := [.ref (z + 346), .int p0]) (rest := []) ⟨hx, hb, hml, hown, hts⟩ (c_X6_master_0 l g z I1 p0 d3 hO) (va_cwS 2 hts gX6_dog_X6_master rfl rfl rfl (by decide +kernel) ⟨Nat.le_of_ble_eq_true rfl, Nat.le_of_ble_eq_true rfl⟩) hK hT hW hS rfl hl.1 rfl (Nat.le_of_ble_eq_true rfl) dX6_dog_77 ⟨Nat.zero_le _, Nat.zero_le _⟩ (fun v21 I21 H21 L21 hp21 hW hS => ?_)
            obtain ⟨hF21, hO, hc21⟩ := hp21
            have hF := dkF_call hF hF21 rfl
            obtain ⟨dv21, -⟩ := hc21
            exact W.iret (v := v21) hx hb hr (fun t ht hW9 => ⟨⟨v21, I21, rfl, ⟨hF, hO, ⟨trivial, trivial⟩⟩, dkW_eq ht hW⟩, hS.F ht⟩) hS.2.2 dX6_dog_80
          ·
            have d22 : dkN [(-2147483648, -1), (3, 2147483647)] p1 := dkN_ne1 (2) d18 (dkN_lit (x := 2) (2) rfl) (dk_ne c19) rfl
            by_cases c23 : p1 = 3
            ·
              have qc23 : p1.toInt = 3 := by rw [c23]; rfl
              have d24 : dkN [(3, 3)] p1 := dkN_lit (3) qc23
              refine lv_tableIn (tgt := 81) hx hb dX6_dog_12 (by rw [qc23]; decide) (by rw [qc23]; decide) (by rw [qc23]; rfl) (by decide) ?_
              refine lv_aload_n hx hb dX6_dog_81 rfl (lv_at hl 0 rfl) ?_
              refine dk_get (k := 340) hx hb hts iX6_dog_6 hown hK (dk_at340 hW) rfl 13 (by decide) (hts (.fieldLink RX6 25 "DogKingsModel" "now" "[I") (List.mem_of_getElem? (i := 2) rfl)) rfl dX6_dog_82 ?_
              refine lv_iload_n hx hb dX6_dog_85 rfl (lv_at hl 1 rfl) ?_
              refine lv_iconst (v := 0) hx hb dX6_dog_86 (by decide) ?_
              refine dk_Si (As := [.ref (z + 346), .int p0, .int 0]) (rest := []) ⟨hx, hb, hml, hown, hts⟩ (c_X6_aim_0 l g z I1 p0 0 d3 hO) (va_cwS 3 hts gX6_dog_X6_aim rfl rfl rfl (by decide +kernel) ⟨Nat.le_of_ble_eq_true rfl, Nat.le_of_ble_eq_true rfl⟩) hK hT hW hS rfl hl.1 rfl (Nat.le_of_ble_eq_true rfl) dX6_dog_87 ⟨Nat.zero_le _, Nat.zero_le _⟩ (fun v25 I25 H25 L25 hp25 hW hS => ?_)
              obtain ⟨hF25, hO, hc25⟩ := hp25
              have hF := dkF_call hF hF25 rfl
              obtain ⟨_, -⟩ := hc25
              exact W.iret (v := v25) hx hb hr (fun t ht hW9 => ⟨⟨v25, I25, rfl, ⟨hF, hO, ⟨trivial, trivial⟩⟩, dkW_eq ht hW⟩, hS.F ht⟩) hS.2.2 dX6_dog_90
            ·
              have d26 : dkN [(-2147483648, -1), (4, 2147483647)] p1 := dkN_ne1 (3) d22 (dkN_lit (x := 3) (3) rfl) (dk_ne c23) rfl
              refine lv_tableOut (tgt := 91) hx hb dX6_dog_12 (dkN_out d26 rfl) (by decide) ?_
              refine lv_ldc (v := (-1000001)) hx hb hown (hts (.constant RX6 64 (-1000001)) (List.mem_of_getElem? (i := 1) rfl)) dX6_dog_91 ?_
              exact W.iret (v := (-1000001)) hx hb hr (fun t ht hW9 => ⟨⟨(-1000001), I1, rfl, ⟨hF, hO, ⟨trivial, trivial⟩⟩, dkW_eq ht hW⟩, hS.F ht⟩) hS.2.2 dX6_dog_93
    ·
      exact (dkN_nil (show dkN [] v1 from dkN_eq1 dv1 (dkN_lit (x := 0) (0) rfl) (congrArg Int32.toInt c4) rfl)).elim
set_option maxHeartbeats 4000000 in
set_option maxRecDepth 100000 in
theorem c_X5_person_0 (l : Launch) (g : dkG) (z : Nat) (I0 : dkI) (p0 : Int32) (p1 : Int32)  (hO : dkOk I0) : Met l yX5_person wsX5_person (dkR 2) (dkPc g z [.ref (z + 0), .int p0, .int p1] I0) (dkQi g z (fun r I1 => dkF [] I0 I1 ∧ dkOk I1 ∧ ((True ∧ True)))) 0 0 (dkA z) := by
  refine Met.ofW (cc := cX5_person) (maxL := 3) (ret := (some .int)) (by decide) rfl ?_
  intro p e s m args below meth c s₁ B hml hv
  obtain ⟨ha, hW, hK, hT⟩ := hv
  have hx := B.exec
  have hb := B.bytes
  have hr := B.returns
  have hts := atoms_spec (ws := wsX5_person) B.pre
  have hown : s.vm.findClass RX5 = some m.cls := findClass_of_methodNamed B.named
  have hlocks := B.notSynchronized
  have hS : va_S (dkA z) s.heap s.heap [] := va_S.rf
  have hF : dkF [] I0 I0 := dkF_rf _ _
  have hl := lv_entry ([.ref (z + 0), .int p0, .int p1]) (n := 3) (Nat.le_of_ble_eq_true rfl)
  have hgo : entryFrame m args 3 = entryFrame m ([.ref (z + 0), .int p0, .int p1] : List Value).toArray 3 := by rw [ha]
  rw [hgo, lg_entry_eq]
  generalize (lg_sl ([.ref (z + 0), .int p0, .int p1]) ++ List.replicate (3 - (lg_sl ([.ref (z + 0), .int p0, .int p1])).length) Slot.unset).toArray = ls at hl ⊢
  have hl : lv_has ls 3 [(0, .ref (z + 0)), (1, .int p0), (2, .int p1)] := hl
  refine lv_aload_n hx hb dX5_person_0 rfl (lv_at hl 0 rfl) ?_
  refine lv_iload_n hx hb dX5_person_1 rfl (lv_at hl 1 rfl) ?_
  refine dk_Vi (As := [.int p0]) (rest := []) ⟨hx, hb, hml, hown, hts⟩ (c_X5_isPerson_0 l g z I0 p0 hO) (cwV 1 hts gX5_person_X5_isPerson rfl rfl rfl (by decide +kernel) ⟨Nat.le_of_ble_eq_true rfl, Nat.le_of_ble_eq_true rfl⟩) (dk_at0 hW) rfl hK hT hW hS rfl hl.1 rfl (Nat.le_of_ble_eq_true rfl) dX5_person_2 ⟨Nat.zero_le _, Nat.zero_le _⟩ (fun v1 I1 H1 L1 hp1 hW hS => ?_)
  obtain ⟨hF1, hO, hc1⟩ := hp1
  have hF := dkF_call hF hF1 rfl
  rcases hc1 with ⟨dv1, -⟩ | hc1
  ·
    refine lv_if_ne (tgt := 11) hx hb dX5_person_5 (by decide) (fun c2 => ?_) (fun c2 => ?_)
    ·
      exact (dkN_nil (show dkN [] v1 from dkN_ne1 (0) dv1 (dkN_lit (x := 0) (0) rfl) (dk_ne c2) rfl)).elim
    ·
      refine lv_ldc (v := (-1000001)) hx hb hown (hts (.constant RX5 70 (-1000001)) (List.mem_of_getElem? (i := 1) rfl)) dX5_person_8 ?_
      exact W.iret (v := (-1000001)) hx hb hr (fun t ht hW9 => ⟨⟨(-1000001), I1, rfl, ⟨hF, hO, ⟨trivial, trivial⟩⟩, dkW_eq ht hW⟩, hS.F ht⟩) hS.2.2 dX5_person_10
  ·
    obtain ⟨dv1, a1_0, f1_25_4, -⟩ := hc1
    have d3 : dkN [(0, 4)] p0 := dkN_eq1 (dkN_top p0) a1_0 rfl rfl
    refine lv_if_ne (tgt := 11) hx hb dX5_person_5 (by decide) (fun c4 => ?_) (fun c4 => ?_)
    ·
      refine lv_iload_n hx hb dX5_person_11 rfl (lv_at hl 2 rfl) ?_
      by_cases c5 : p1 = 0
      ·
        have qc5 : p1.toInt = 0 := by rw [c5]; rfl
        have d6 : dkN [(0, 0)] p1 := dkN_lit (0) qc5
        refine lv_tableIn (tgt := 56) hx hb dX5_person_12 (by rw [qc5]; decide) (by rw [qc5]; decide) (by rw [qc5]; rfl) (by decide) ?_
        refine lv_aload_n hx hb dX5_person_56 rfl (lv_at hl 0 rfl) ?_
        refine dk_get (k := 0) hx hb hts iX5_person_5 hown hK (dk_at0 hW) rfl 5 (by decide) (hts (.fieldLink RX5 31 "DogKings" "now" "LDogKings$Town;") (List.mem_of_getElem? (i := 2) rfl)) rfl dX5_person_57 ?_
        refine dk_get (k := 25) hx hb hts iX5_person_4 hown hK (dk_at25 hW) rfl 7 (by decide) (hts (.fieldLink RX5 174 "DogKings$Town" "personAt" "[I") (List.mem_of_getElem? (i := 3) rfl)) rfl dX5_person_60 ?_
        refine lv_iload_n hx hb dX5_person_63 rfl (lv_at hl 1 rfl) ?_
        refine dk_ild (k := 28) hx hb hK (dk_at28 hW) (dkN_in (n := 5) d3 rfl) dX5_person_64 ?_
        refine lv_topi (fun v7 ev7 => ?_)
        exact W.iret (v := v7) hx hb hr (fun t ht hW9 => ⟨⟨v7, I1, rfl, ⟨hF, hO, ⟨trivial, trivial⟩⟩, dkW_eq ht hW⟩, hS.F ht⟩) hS.2.2 dX5_person_65
      ·
        have d8 : dkN [(-2147483648, -1), (1, 2147483647)] p1 := dkN_ne1 (0) (dkN_top p1) (dkN_lit (x := 0) (0) rfl) (dk_ne c5) rfl
        by_cases c9 : p1 = 1
        ·
          have qc9 : p1.toInt = 1 := by rw [c9]; rfl
          have d10 : dkN [(1, 1)] p1 := dkN_lit (1) qc9
          refine lv_tableIn (tgt := 66) hx hb dX5_person_12 (by rw [qc9]; decide) (by rw [qc9]; decide) (by rw [qc9]; rfl) (by decide) ?_
          refine lv_aload_n hx hb dX5_person_66 rfl (lv_at hl 0 rfl) ?_
          refine dk_get (k := 0) hx hb hts iX5_person_5 hown hK (dk_at0 hW) rfl 5 (by decide) (hts (.fieldLink RX5 31 "DogKings" "now" "LDogKings$Town;") (List.mem_of_getElem? (i := 2) rfl)) rfl dX5_person_67 ?_
          refine dk_get (k := 25) hx hb hts iX5_person_4 hown hK (dk_at25 hW) rfl 5 (by decide) (hts (.fieldLink RX5 177 "DogKings$Town" "personHome" "[I") (List.mem_of_getElem? (i := 4) rfl)) rfl dX5_person_70 ?_
          refine lv_iload_n hx hb dX5_person_73 rfl (lv_at hl 1 rfl) ?_
          refine dk_ild (k := 26) hx hb hK (dk_at26 hW) (dkN_in (n := 5) d3 rfl) dX5_person_74 ?_
          refine lv_topi (fun v11 ev11 => ?_)
          exact W.iret (v := v11) hx hb hr (fun t ht hW9 => ⟨⟨v11, I1, rfl, ⟨hF, hO, ⟨trivial, trivial⟩⟩, dkW_eq ht hW⟩, hS.F ht⟩) hS.2.2 dX5_person_75
        ·
          have d12 : dkN [(-2147483648, -1), (2, 2147483647)] p1 := dkN_ne1 (1) d8 (dkN_lit (x := 1) (1) rfl) (dk_ne c9) rfl
          by_cases c13 : p1 = 2
          ·
            have qc13 : p1.toInt = 2 := by rw [c13]; rfl
            have d14 : dkN [(2, 2)] p1 := dkN_lit (2) qc13
            refine lv_tableIn (tgt := 76) hx hb dX5_person_12 (by rw [qc13]; decide) (by rw [qc13]; decide) (by rw [qc13]; rfl) (by decide) ?_
            refine lv_aload_n hx hb dX5_person_76 rfl (lv_at hl 0 rfl) ?_
            refine dk_get (k := 0) hx hb hts iX5_person_5 hown hK (dk_at0 hW) rfl 5 (by decide) (hts (.fieldLink RX5 31 "DogKings" "now" "LDogKings$Town;") (List.mem_of_getElem? (i := 2) rfl)) rfl dX5_person_77 ?_
            refine dk_get (k := 25) hx hb hts iX5_person_4 hown hK (dk_at25 hW) rfl 6 (by decide) (hts (.fieldLink RX5 180 "DogKings$Town" "smell" "[I") (List.mem_of_getElem? (i := 5) rfl)) rfl dX5_person_80 ?_
            refine lv_iload_n hx hb dX5_person_83 rfl (lv_at hl 1 rfl) ?_
            refine dk_ild (k := 27) hx hb hK (dk_at27 hW) (dkN_in (n := 5) d3 rfl) dX5_person_84 ?_
            refine lv_topi (fun v15 ev15 => ?_)
            exact W.iret (v := v15) hx hb hr (fun t ht hW9 => ⟨⟨v15, I1, rfl, ⟨hF, hO, ⟨trivial, trivial⟩⟩, dkW_eq ht hW⟩, hS.F ht⟩) hS.2.2 dX5_person_85
          ·
            have d16 : dkN [(-2147483648, -1), (3, 2147483647)] p1 := dkN_ne1 (2) d12 (dkN_lit (x := 2) (2) rfl) (dk_ne c13) rfl
            by_cases c17 : p1 = 3
            ·
              have qc17 : p1.toInt = 3 := by rw [c17]; rfl
              have d18 : dkN [(3, 3)] p1 := dkN_lit (3) qc17
              refine lv_tableIn (tgt := 86) hx hb dX5_person_12 (by rw [qc17]; decide) (by rw [qc17]; decide) (by rw [qc17]; rfl) (by decide) ?_
              refine lv_aload_n hx hb dX5_person_86 rfl (lv_at hl 0 rfl) ?_
              refine dk_get (k := 0) hx hb hts iX5_person_5 hown hK (dk_at0 hW) rfl 5 (by decide) (hts (.fieldLink RX5 31 "DogKings" "now" "LDogKings$Town;") (List.mem_of_getElem? (i := 2) rfl)) rfl dX5_person_87 ?_
              refine dk_get (k := 25) hx hb hts iX5_person_4 hown hK (dk_at25 hW) rfl 8 (by decide) (hts (.fieldLink RX5 143 "DogKings$Town" "bones" "[I") (List.mem_of_getElem? (i := 6) rfl)) rfl dX5_person_90 ?_
              refine lv_iload_n hx hb dX5_person_93 rfl (lv_at hl 1 rfl) ?_
              refine dk_ild (k := 29) hx hb hK (dk_at29 hW) (dkN_in (n := 5) d3 rfl) dX5_person_94 ?_
              refine lv_topi (fun v19 ev19 => ?_)
              exact W.iret (v := v19) hx hb hr (fun t ht hW9 => ⟨⟨v19, I1, rfl, ⟨hF, hO, ⟨trivial, trivial⟩⟩, dkW_eq ht hW⟩, hS.F ht⟩) hS.2.2 dX5_person_95
            ·
              have d20 : dkN [(-2147483648, -1), (4, 2147483647)] p1 := dkN_ne1 (3) d16 (dkN_lit (x := 3) (3) rfl) (dk_ne c17) rfl
              by_cases c21 : p1 = 4
              ·
                have qc21 : p1.toInt = 4 := by rw [c21]; rfl
                have d22 : dkN [(4, 4)] p1 := dkN_lit (4) qc21
                refine lv_tableIn (tgt := 96) hx hb dX5_person_12 (by rw [qc21]; decide) (by rw [qc21]; decide) (by rw [qc21]; rfl) (by decide) ?_
                refine lv_aload_n hx hb dX5_person_96 rfl (lv_at hl 0 rfl) ?_
                refine dk_get (k := 0) hx hb hts iX5_person_5 hown hK (dk_at0 hW) rfl 5 (by decide) (hts (.fieldLink RX5 31 "DogKings" "now" "LDogKings$Town;") (List.mem_of_getElem? (i := 2) rfl)) rfl dX5_person_97 ?_
                refine dk_get (k := 25) hx hb hts iX5_person_4 hown hK (dk_at25 hW) rfl 9 (by decide) (hts (.fieldLink RX5 146 "DogKings$Town" "gait" "[I") (List.mem_of_getElem? (i := 7) rfl)) rfl dX5_person_100 ?_
                refine lv_iload_n hx hb dX5_person_103 rfl (lv_at hl 1 rfl) ?_
                refine dk_ild (k := 30) hx hb hK (dk_at30 hW) (dkN_in (n := 5) d3 rfl) dX5_person_104 ?_
                refine lv_topi (fun v23 ev23 => ?_)
                exact W.iret (v := v23) hx hb hr (fun t ht hW9 => ⟨⟨v23, I1, rfl, ⟨hF, hO, ⟨trivial, trivial⟩⟩, dkW_eq ht hW⟩, hS.F ht⟩) hS.2.2 dX5_person_105
              ·
                have d24 : dkN [(-2147483648, -1), (5, 2147483647)] p1 := dkN_ne1 (4) d20 (dkN_lit (x := 4) (4) rfl) (dk_ne c21) rfl
                by_cases c25 : p1 = 5
                ·
                  have qc25 : p1.toInt = 5 := by rw [c25]; rfl
                  have d26 : dkN [(5, 5)] p1 := dkN_lit (5) qc25
                  refine lv_tableIn (tgt := 106) hx hb dX5_person_12 (by rw [qc25]; decide) (by rw [qc25]; decide) (by rw [qc25]; rfl) (by decide) ?_
                  refine lv_aload_n hx hb dX5_person_106 rfl (lv_at hl 0 rfl) ?_
                  refine dk_get (k := 0) hx hb hts iX5_person_5 hown hK (dk_at0 hW) rfl 5 (by decide) (hts (.fieldLink RX5 31 "DogKings" "now" "LDogKings$Town;") (List.mem_of_getElem? (i := 2) rfl)) rfl dX5_person_107 ?_
                  refine dk_get (k := 25) hx hb hts iX5_person_4 hown hK (dk_at25 hW) rfl 10 (by decide) (hts (.fieldLink RX5 183 "DogKings$Town" "reigns" "[I") (List.mem_of_getElem? (i := 8) rfl)) rfl dX5_person_110 ?_
                  refine lv_iload_n hx hb dX5_person_113 rfl (lv_at hl 1 rfl) ?_
                  refine dk_ild (k := 31) hx hb hK (dk_at31 hW) (dkN_in (n := 5) d3 rfl) dX5_person_114 ?_
                  refine lv_topi (fun v27 ev27 => ?_)
                  exact W.iret (v := v27) hx hb hr (fun t ht hW9 => ⟨⟨v27, I1, rfl, ⟨hF, hO, ⟨trivial, trivial⟩⟩, dkW_eq ht hW⟩, hS.F ht⟩) hS.2.2 dX5_person_115
                ·
                  have d28 : dkN [(-2147483648, -1), (6, 2147483647)] p1 := dkN_ne1 (5) d24 (dkN_lit (x := 5) (5) rfl) (dk_ne c25) rfl
                  by_cases c29 : p1 = 6
                  ·
                    have qc29 : p1.toInt = 6 := by rw [c29]; rfl
                    have d30 : dkN [(6, 6)] p1 := dkN_lit (6) qc29
                    refine lv_tableIn (tgt := 116) hx hb dX5_person_12 (by rw [qc29]; decide) (by rw [qc29]; decide) (by rw [qc29]; rfl) (by decide) ?_
                    refine lv_aload_n hx hb dX5_person_116 rfl (lv_at hl 0 rfl) ?_
                    refine dk_get (k := 0) hx hb hts iX5_person_5 hown hK (dk_at0 hW) rfl 5 (by decide) (hts (.fieldLink RX5 31 "DogKings" "now" "LDogKings$Town;") (List.mem_of_getElem? (i := 2) rfl)) rfl dX5_person_117 ?_
                    refine lv_aload_n hx hb dX5_person_120 rfl (lv_at hl 0 rfl) ?_
                    refine dk_get (k := 0) hx hb hts iX5_person_5 hown hK (dk_at0 hW) rfl 5 (by decide) (hts (.fieldLink RX5 31 "DogKings" "now" "LDogKings$Town;") (List.mem_of_getElem? (i := 2) rfl)) rfl dX5_person_121 ?_
                    refine dk_get (k := 25) hx hb hts iX5_person_4 hown hK (dk_at25 hW) rfl 7 (by decide) (hts (.fieldLink RX5 174 "DogKings$Town" "personAt" "[I") (List.mem_of_getElem? (i := 3) rfl)) rfl dX5_person_124 ?_
                    refine lv_iload_n hx hb dX5_person_127 rfl (lv_at hl 1 rfl) ?_
                    refine dk_ild (k := 28) hx hb hK (dk_at28 hW) (dkN_in (n := 5) d3 rfl) dX5_person_128 ?_
                    refine lv_topi (fun v31 ev31 => ?_)
                    refine dk_Vi (As := [.int v31]) (rest := []) ⟨hx, hb, hml, hown, hts⟩ (c_X4_dogsIn_0 l g z I1 (25) (by unfold dkT; omega) v31 hO) (cwV 1 hts gX5_person_X4_dogsIn rfl rfl rfl (by decide +kernel) ⟨Nat.le_of_ble_eq_true rfl, Nat.le_of_ble_eq_true rfl⟩) (dk_at25 hW) rfl hK hT hW hS rfl hl.1 rfl (Nat.le_of_ble_eq_true rfl) dX5_person_129 ⟨Nat.zero_le _, Nat.zero_le _⟩ (fun v32 I32 H32 L32 hp32 hW hS => ?_)
                    obtain ⟨hF32, hO, hc32⟩ := hp32
                    have hF := dkF_call hF hF32 rfl
                    obtain ⟨_, -⟩ := hc32
                    exact W.iret (v := v32) hx hb hr (fun t ht hW9 => ⟨⟨v32, I32, rfl, ⟨hF, hO, ⟨trivial, trivial⟩⟩, dkW_eq ht hW⟩, hS.F ht⟩) hS.2.2 dX5_person_132
                  ·
                    have d33 : dkN [(-2147483648, -1), (7, 2147483647)] p1 := dkN_ne1 (6) d28 (dkN_lit (x := 6) (6) rfl) (dk_ne c29) rfl
                    refine lv_tableOut (tgt := 133) hx hb dX5_person_12 (dkN_out d33 rfl) (by decide) ?_
                    refine lv_ldc (v := (-1000001)) hx hb hown (hts (.constant RX5 70 (-1000001)) (List.mem_of_getElem? (i := 1) rfl)) dX5_person_133 ?_
                    exact W.iret (v := (-1000001)) hx hb hr (fun t ht hW9 => ⟨⟨(-1000001), I1, rfl, ⟨hF, hO, ⟨trivial, trivial⟩⟩, dkW_eq ht hW⟩, hS.F ht⟩) hS.2.2 dX5_person_135
    ·
      exact (dkN_nil (show dkN [] v1 from dkN_eq1 dv1 (dkN_lit (x := 0) (0) rfl) (congrArg Int32.toInt c4) rfl)).elim
set_option maxHeartbeats 4000000 in
set_option maxRecDepth 100000 in
theorem c_X6_dogsIn_0 (l : Launch) (g : dkG) (z : Nat) (I0 : dkI) (p0 : Int32)  (hO : dkOk I0) : Met l yX6_dogsIn wsX6_dogsIn (dkR 0) (dkPc g z [.ref (z + 340), .int p0] I0) (dkQi g z (fun r I1 => dkF [] I0 I1 ∧ dkOk I1 ∧ ((True ∧ True)))) 0 0 (dkA z) := by
  refine Met.ofW (cc := cX6_dogsIn) (maxL := 4) (ret := (some .int)) (by decide) rfl ?_
  intro p e s m args below meth c s₁ B hml hv
  obtain ⟨ha, hW, hK, hT⟩ := hv
  have hx := B.exec
  have hb := B.bytes
  have hr := B.returns
  have hts := atoms_spec (ws := wsX6_dogsIn) B.pre
  have hown : s.vm.findClass RX6 = some m.cls := findClass_of_methodNamed B.named
  have hlocks := B.notSynchronized
  have hS : va_S (dkA z) s.heap s.heap [] := va_S.rf
  have hF : dkF [] I0 I0 := dkF_rf _ _
  have hl := lv_entry ([.ref (z + 340), .int p0]) (n := 4) (Nat.le_of_ble_eq_true rfl)
  have hgo : entryFrame m args 4 = entryFrame m ([.ref (z + 340), .int p0] : List Value).toArray 4 := by rw [ha]
  rw [hgo, lg_entry_eq]
  generalize (lg_sl ([.ref (z + 340), .int p0]) ++ List.replicate (4 - (lg_sl ([.ref (z + 340), .int p0])).length) Slot.unset).toArray = ls at hl ⊢
  have hl : lv_has ls 4 [(0, .ref (z + 340)), (1, .int p0)] := hl
  have C4 : ∀ (n : Nat), ∀ (I : dkI) (H : Heap) (locs : List Loc) (ls : Array Slot) (x4_2 : Int32) (x4_3 : Int32), (6 - x4_3.toInt).toNat < n → dkW g z I H → va_S (dkA z) s.heap H locs → dkF [] I0 I → dkOk I → dkN [(0, 6)] x4_3 → lv_has ls 4 [(0, .ref (z + 340)), (1, .int p0), (2, .int x4_2), (3, .int x4_3)] → W p l e (headSpec wsX6_dogsIn (dkR 0)).room s m args below meth c H locs 0 0 (MQ below (dkQi g z (fun r I1 => dkF [] I0 I1 ∧ dkOk I1 ∧ ((True ∧ True)))) args s 0 0 (dkA z)) (F0 m 4 ls []) := by
    intro n
    induction n with
    | zero => intro I H locs ls x4_2 x4_3 hn; exact absurd hn (Nat.not_lt_zero _)
    | succ n ih4 =>
      intro I4_ H locs ls x4_2 x4_3 hn4 hW hS hF_4 hO k4_1 hl
      have hF := hF_4
      have C39 : ∀ (I : dkI) (H : Heap) (locs : List Loc) (ls : Array Slot) (x39_s0 : Int32), dkW g z I H → va_S (dkA z) s.heap H locs → dkF [] I0 I → dkOk I → dkN [(0, 32)] x39_s0 → dkN [(0, 5)] x4_3 → dkN [(1, 6)] (I 346 5) → lv_has ls 4 [(0, .ref (z + 340)), (1, .int p0), (2, .int x4_2), (3, .int x4_3)] → W p l e (headSpec wsX6_dogsIn (dkR 0)).room s m args below meth c H locs 0 0 (MQ below (dkQi g z (fun r I1 => dkF [] I0 I1 ∧ dkOk I1 ∧ ((True ∧ True)))) args s 0 0 (dkA z)) (F0 m 39 ls [.int x39_s0, .int x4_2]) := by
        intro I39_ H locs ls x39_s0 hW hS hF_39 hO k39_0 r39_0 f39_0 hl
        have hF := hF_39
        refine lv_ior hx hb dX6_dogsIn_39 ?_
        refine lv_topi (fun v1 ev1 => ?_)
        refine lv_istore_n (lv' := [(2, .int v1), (0, .ref (z + 340)), (1, .int p0), (3, .int x4_3)]) hx hb dX6_dogsIn_40 rfl hl (by decide) rfl (fun ls hl => ?_)
        obtain ⟨v2, ev2⟩ : ∃ y : Int32, y = x4_3 + 1 := ⟨_, rfl⟩
        have dv2 : dkN [(1, 6)] v2 := by rw [ev2]; exact dkN_add r39_0 (dkN_lit (x := 1) (1) rfl) rfl
        refine lv_iinc (v := v2) (lv' := [(3, .int v2), (2, .int v1), (0, .ref (z + 340)), (1, .int p0)]) hx hb dX6_dogsIn_41 hl (k := 3) rfl (by rw [ev2]; rfl) (by decide) rfl (fun ls hl => ?_)
        refine lv_goto (tgt := 4) hx hb dX6_dogsIn_44 (by decide) ?_
        exact ih4 I39_ _ _ ls v1 v2 (dk_near hn4 (by rw [ev2]; exact dk_inc r39_0 rfl) (dkN_lt r39_0 rfl)) hW hS hF hO (dkN_sub dv2 rfl) (lv_sub hl [2, 3, 1, 0] rfl)
      refine lv_iload_n hx hb dX6_dogsIn_4 rfl (lv_at hl 3 rfl) ?_
      refine lv_aload_n hx hb dX6_dogsIn_5 rfl (lv_at hl 0 rfl) ?_
      refine dk_get (k := 340) hx hb hts iX6_dogsIn_6 hown hK (dk_at340 hW) rfl 13 (by decide) (hts (.fieldLink RX6 25 "DogKingsModel" "now" "[I") (List.mem_of_getElem? (i := 1) rfl)) rfl dX6_dogsIn_6 ?_
      refine lv_iconst (v := 5) hx hb dX6_dogsIn_9 (by decide) ?_
      refine dk_ild (k := 346) hx hb hK (dk_at346 hW) (dkN_in (n := 54) (dkN_lit (x := 5) (5) rfl) rfl) dX6_dogsIn_10 ?_
      refine lv_topi (fun v3 ev3 => ?_)
      have ev3 : v3 = I4_ 346 5 := ev3
      have dv3 : dkN [(0, 6)] v3 := by rw [ev3]; exact (show dkN [(0, 6)] (I4_ 346 5) from (hO 346 5))
      refine lv_icmp_ge (tgt := 47) hx hb dX6_dogsIn_11 (by decide) (fun c4 => ?_) (fun c4 => ?_)
      ·
        refine lv_iload_n hx hb dX6_dogsIn_47 rfl (lv_at hl 2 rfl) ?_
        exact W.iret (v := x4_2) hx hb hr (fun t ht hW9 => ⟨⟨x4_2, I4_, rfl, ⟨hF, hO, ⟨trivial, trivial⟩⟩, dkW_eq ht hW⟩, hS.F ht⟩) hS.2.2 dX6_dogsIn_48
      ·
        have d5 : dkN [(1, 6)] v3 := dkN_le2 1 k4_1 dv3 (dkc_nle c4) rfl
        have f6 : dkN [(1, 6)] (I4_ 346 5) := by rw [← ev3]; exact d5
        have d7 : dkN [(0, 5)] x4_3 := dkN_le1 1 k4_1 dv3 (dkc_nle c4) rfl
        refine lv_iload_n hx hb dX6_dogsIn_14 rfl (lv_at hl 2 rfl) ?_
        refine lv_aload_n hx hb dX6_dogsIn_15 rfl (lv_at hl 0 rfl) ?_
        refine dk_get (k := 340) hx hb hts iX6_dogsIn_6 hown hK (dk_at340 hW) rfl 13 (by decide) (hts (.fieldLink RX6 25 "DogKingsModel" "now" "[I") (List.mem_of_getElem? (i := 1) rfl)) rfl dX6_dogsIn_16 ?_
        refine lv_bipush (v := 36) hx hb dX6_dogsIn_19 (by decide) ?_
        refine lv_iconst (v := 3) hx hb dX6_dogsIn_21 (by decide) ?_
        refine lv_iload_n hx hb dX6_dogsIn_22 rfl (lv_at hl 3 rfl) ?_
        refine lv_imul hx hb dX6_dogsIn_23 ?_
        refine lv_topi (fun v8 ev8 => ?_)
        have dv8 : dkN [(0, 0), (3, 3), (6, 6), (9, 9), (12, 12), (15, 15)] v8 := by rw [ev8]; exact dkN_mulPt 3 (dkN_lit (x := 3) (3) rfl) d7 rfl
        refine lv_iadd hx hb dX6_dogsIn_24 ?_
        refine lv_topi (fun v9 ev9 => ?_)
        have dv9 : dkN [(36, 36), (39, 39), (42, 42), (45, 45), (48, 48), (51, 51)] v9 := by rw [ev9]; exact dkN_add (dkN_lit (x := 36) (36) rfl) dv8 rfl
        refine lv_iconst (v := 2) hx hb dX6_dogsIn_25 (by decide) ?_
        refine lv_iadd hx hb dX6_dogsIn_26 ?_
        refine lv_topi (fun v10 ev10 => ?_)
        have dv10 : dkN [(38, 38), (41, 41), (44, 44), (47, 47), (50, 50), (53, 53)] v10 := by rw [ev10]; exact dkN_add dv9 (dkN_lit (x := 2) (2) rfl) rfl
        refine dk_ild (k := 346) hx hb hK (dk_at346 hW) (dkN_in (n := 54) dv10 rfl) dX6_dogsIn_27 ?_
        refine lv_topi (fun v11 ev11 => ?_)
        refine lv_iload_n hx hb dX6_dogsIn_28 rfl (lv_at hl 1 rfl) ?_
        refine lv_icmp_ne (tgt := 38) hx hb dX6_dogsIn_29 (by decide) (fun c12 => ?_) (fun c12 => ?_)
        ·
          refine lv_iconst (v := 0) hx hb dX6_dogsIn_38 (by decide) ?_
          exact C39 I4_ _ _ ls 0 hW hS hF hO (dkN_sub (dkN_lit (x := 0) (0) rfl) rfl) (dkN_sub d7 rfl) (show dkN [(1, 6)] (I4_ 346 5) from dkN_sub f6 rfl) (lv_sub hl [0, 1, 2, 3] rfl)
        ·
          refine lv_iconst (v := 1) hx hb dX6_dogsIn_32 (by decide) ?_
          refine lv_iload_n hx hb dX6_dogsIn_33 rfl (lv_at hl 3 rfl) ?_
          refine lv_ishl hx hb dX6_dogsIn_34 ?_
          refine lv_topi (fun v13 ev13 => ?_)
          have dv13 : dkN [(1, 32)] v13 := by rw [ev13]; exact dkN_shl1 0 5 (by decide) d7 rfl
          refine lv_goto (tgt := 39) hx hb dX6_dogsIn_35 (by decide) ?_
          exact C39 I4_ _ _ ls v13 hW hS hF hO (dkN_sub dv13 rfl) (dkN_sub d7 rfl) (show dkN [(1, 6)] (I4_ 346 5) from dkN_sub f6 rfl) (lv_sub hl [0, 1, 2, 3] rfl)
  refine lv_iconst (v := 0) hx hb dX6_dogsIn_0 (by decide) ?_
  refine lv_istore_n (lv' := [(2, .int 0), (0, .ref (z + 340)), (1, .int p0)]) hx hb dX6_dogsIn_1 rfl hl (by decide) rfl (fun ls hl => ?_)
  refine lv_iconst (v := 0) hx hb dX6_dogsIn_2 (by decide) ?_
  refine lv_istore_n (lv' := [(3, .int 0), (2, .int 0), (0, .ref (z + 340)), (1, .int p0)]) hx hb dX6_dogsIn_3 rfl hl (by decide) rfl (fun ls hl => ?_)
  exact C4 _ I0 _ _ ls 0 0 (Nat.lt_succ_self _) hW hS hF hO (dkN_sub (dkN_lit (x := 0) (0) rfl) rfl) (lv_sub hl [2, 3, 1, 0] rfl)
set_option maxHeartbeats 4000000 in
set_option maxRecDepth 100000 in
theorem c_X6_person_0 (l : Launch) (g : dkG) (z : Nat) (I0 : dkI) (p0 : Int32) (p1 : Int32)  (hO : dkOk I0) : Met l yX6_person wsX6_person (dkR 2) (dkPc g z [.ref (z + 340), .int p0, .int p1] I0) (dkQi g z (fun r I1 => dkF [] I0 I1 ∧ dkOk I1 ∧ ((True ∧ True)))) 0 0 (dkA z) := by
  refine Met.ofW (cc := cX6_person) (maxL := 4) (ret := (some .int)) (by decide) rfl ?_
  intro p e s m args below meth c s₁ B hml hv
  obtain ⟨ha, hW, hK, hT⟩ := hv
  have hx := B.exec
  have hb := B.bytes
  have hr := B.returns
  have hts := atoms_spec (ws := wsX6_person) B.pre
  have hown : s.vm.findClass RX6 = some m.cls := findClass_of_methodNamed B.named
  have hlocks := B.notSynchronized
  have hS : va_S (dkA z) s.heap s.heap [] := va_S.rf
  have hF : dkF [] I0 I0 := dkF_rf _ _
  have hl := lv_entry ([.ref (z + 340), .int p0, .int p1]) (n := 4) (Nat.le_of_ble_eq_true rfl)
  have hgo : entryFrame m args 4 = entryFrame m ([.ref (z + 340), .int p0, .int p1] : List Value).toArray 4 := by rw [ha]
  rw [hgo, lg_entry_eq]
  generalize (lg_sl ([.ref (z + 340), .int p0, .int p1]) ++ List.replicate (4 - (lg_sl ([.ref (z + 340), .int p0, .int p1])).length) Slot.unset).toArray = ls at hl ⊢
  have hl : lv_has ls 4 [(0, .ref (z + 340)), (1, .int p0), (2, .int p1)] := hl
  refine lv_aload_n hx hb dX6_person_0 rfl (lv_at hl 0 rfl) ?_
  refine lv_iload_n hx hb dX6_person_1 rfl (lv_at hl 1 rfl) ?_
  refine dk_Vi (As := [.int p0]) (rest := []) ⟨hx, hb, hml, hown, hts⟩ (c_X6_isPerson_0 l g z I0 p0 hO) (cwV 1 hts gX6_person_X6_isPerson rfl rfl rfl (by decide +kernel) ⟨Nat.le_of_ble_eq_true rfl, Nat.le_of_ble_eq_true rfl⟩) (dk_at340 hW) rfl hK hT hW hS rfl hl.1 rfl (Nat.le_of_ble_eq_true rfl) dX6_person_2 ⟨Nat.zero_le _, Nat.zero_le _⟩ (fun v1 I1 H1 L1 hp1 hW hS => ?_)
  obtain ⟨hF1, hO, hc1⟩ := hp1
  have hF := dkF_call hF hF1 rfl
  rcases hc1 with ⟨dv1, -⟩ | hc1
  ·
    refine lv_if_ne (tgt := 11) hx hb dX6_person_5 (by decide) (fun c2 => ?_) (fun c2 => ?_)
    ·
      exact (dkN_nil (show dkN [] v1 from dkN_ne1 (0) dv1 (dkN_lit (x := 0) (0) rfl) (dk_ne c2) rfl)).elim
    ·
      refine lv_ldc (v := (-1000001)) hx hb hown (hts (.constant RX6 64 (-1000001)) (List.mem_of_getElem? (i := 1) rfl)) dX6_person_8 ?_
      exact W.iret (v := (-1000001)) hx hb hr (fun t ht hW9 => ⟨⟨(-1000001), I1, rfl, ⟨hF, hO, ⟨trivial, trivial⟩⟩, dkW_eq ht hW⟩, hS.F ht⟩) hS.2.2 dX6_person_10
  ·
    obtain ⟨dv1, a1_0, -⟩ := hc1
    have d3 : dkN [(0, 4)] p0 := dkN_eq1 (dkN_top p0) a1_0 rfl rfl
    refine lv_if_ne (tgt := 11) hx hb dX6_person_5 (by decide) (fun c4 => ?_) (fun c4 => ?_)
    ·
      refine lv_bipush (v := 6) hx hb dX6_person_11 (by decide) ?_
      refine lv_bipush (v := 6) hx hb dX6_person_13 (by decide) ?_
      refine lv_iload_n hx hb dX6_person_15 rfl (lv_at hl 1 rfl) ?_
      refine lv_imul hx hb dX6_person_16 ?_
      refine lv_topi (fun v5 ev5 => ?_)
      have dv5 : dkN [(0, 24)] v5 := by rw [ev5]; exact dkN_mulL 6 (by decide) (dkN_lit (x := 6) (6) rfl) d3 rfl
      refine lv_iadd hx hb dX6_person_17 ?_
      refine lv_topi (fun v6 ev6 => ?_)
      have dv6 : dkN [(6, 30)] v6 := by rw [ev6]; exact dkN_add (dkN_lit (x := 6) (6) rfl) dv5 rfl
      refine lv_istore_n (lv' := [(3, .int v6), (0, .ref (z + 340)), (1, .int p0), (2, .int p1)]) hx hb dX6_person_18 rfl hl (by decide) rfl (fun ls hl => ?_)
      refine lv_iload_n hx hb dX6_person_19 rfl (lv_at hl 3 rfl) ?_
      by_cases c7 : p1 = 0
      ·
        have qc7 : p1.toInt = 0 := by rw [c7]; rfl
        have d8 : dkN [(0, 0)] p1 := dkN_lit (0) qc7
        refine lv_tableIn (tgt := 64) hx hb dX6_person_20 (by rw [qc7]; decide) (by rw [qc7]; decide) (by rw [qc7]; rfl) (by decide) ?_
        refine lv_aload_n hx hb dX6_person_64 rfl (lv_at hl 1 rfl) ?_
        refine dk_get (k := 340) hx hb hts iX6_person_6 hown hK (dk_at340 hW) rfl 13 (by decide) (hts (.fieldLink RX6 25 "DogKingsModel" "now" "[I") (List.mem_of_getElem? (i := 2) rfl)) rfl dX6_person_65 ?_
        refine lv_iload_n hx hb dX6_person_68 rfl (lv_at hl 0 rfl) ?_
        refine lv_iconst (v := 4) hx hb dX6_person_69 (by decide) ?_
        refine lv_iadd hx hb dX6_person_70 ?_
        refine lv_topi (fun v9 ev9 => ?_)
        have dv9 : dkN [(10, 34)] v9 := by rw [ev9]; exact dkN_add dv6 (dkN_lit (x := 4) (4) rfl) rfl
        refine dk_ild (k := 346) hx hb hK (dk_at346 hW) (dkN_in (n := 54) dv9 rfl) dX6_person_71 ?_
        refine lv_topi (fun v10 ev10 => ?_)
        exact W.iret (v := v10) hx hb hr (fun t ht hW9 => ⟨⟨v10, I1, rfl, ⟨hF, hO, ⟨trivial, trivial⟩⟩, dkW_eq ht hW⟩, hS.F ht⟩) hS.2.2 dX6_person_72
      ·
        have d11 : dkN [(-2147483648, -1), (1, 2147483647)] p1 := dkN_ne1 (0) (dkN_top p1) (dkN_lit (x := 0) (0) rfl) (dk_ne c7) rfl
        by_cases c12 : p1 = 1
        ·
          have qc12 : p1.toInt = 1 := by rw [c12]; rfl
          have d13 : dkN [(1, 1)] p1 := dkN_lit (1) qc12
          refine lv_tableIn (tgt := 73) hx hb dX6_person_20 (by rw [qc12]; decide) (by rw [qc12]; decide) (by rw [qc12]; rfl) (by decide) ?_
          refine lv_aload_n hx hb dX6_person_73 rfl (lv_at hl 1 rfl) ?_
          refine dk_get (k := 340) hx hb hts iX6_person_6 hown hK (dk_at340 hW) rfl 13 (by decide) (hts (.fieldLink RX6 25 "DogKingsModel" "now" "[I") (List.mem_of_getElem? (i := 2) rfl)) rfl dX6_person_74 ?_
          refine lv_iload_n hx hb dX6_person_77 rfl (lv_at hl 0 rfl) ?_
          refine dk_ild (k := 346) hx hb hK (dk_at346 hW) (dkN_in (n := 54) dv6 rfl) dX6_person_78 ?_
          refine lv_topi (fun v14 ev14 => ?_)
          exact W.iret (v := v14) hx hb hr (fun t ht hW9 => ⟨⟨v14, I1, rfl, ⟨hF, hO, ⟨trivial, trivial⟩⟩, dkW_eq ht hW⟩, hS.F ht⟩) hS.2.2 dX6_person_79
        ·
          have d15 : dkN [(-2147483648, -1), (2, 2147483647)] p1 := dkN_ne1 (1) d11 (dkN_lit (x := 1) (1) rfl) (dk_ne c12) rfl
          by_cases c16 : p1 = 2
          ·
            have qc16 : p1.toInt = 2 := by rw [c16]; rfl
            have d17 : dkN [(2, 2)] p1 := dkN_lit (2) qc16
            refine lv_tableIn (tgt := 80) hx hb dX6_person_20 (by rw [qc16]; decide) (by rw [qc16]; decide) (by rw [qc16]; rfl) (by decide) ?_
            refine lv_aload_n hx hb dX6_person_80 rfl (lv_at hl 1 rfl) ?_
            refine dk_get (k := 340) hx hb hts iX6_person_6 hown hK (dk_at340 hW) rfl 13 (by decide) (hts (.fieldLink RX6 25 "DogKingsModel" "now" "[I") (List.mem_of_getElem? (i := 2) rfl)) rfl dX6_person_81 ?_
            refine lv_iload_n hx hb dX6_person_84 rfl (lv_at hl 0 rfl) ?_
            refine lv_iconst (v := 1) hx hb dX6_person_85 (by decide) ?_
            refine lv_iadd hx hb dX6_person_86 ?_
            refine lv_topi (fun v18 ev18 => ?_)
            have dv18 : dkN [(7, 31)] v18 := by rw [ev18]; exact dkN_add dv6 (dkN_lit (x := 1) (1) rfl) rfl
            refine dk_ild (k := 346) hx hb hK (dk_at346 hW) (dkN_in (n := 54) dv18 rfl) dX6_person_87 ?_
            refine lv_topi (fun v19 ev19 => ?_)
            exact W.iret (v := v19) hx hb hr (fun t ht hW9 => ⟨⟨v19, I1, rfl, ⟨hF, hO, ⟨trivial, trivial⟩⟩, dkW_eq ht hW⟩, hS.F ht⟩) hS.2.2 dX6_person_88
          ·
            have d20 : dkN [(-2147483648, -1), (3, 2147483647)] p1 := dkN_ne1 (2) d15 (dkN_lit (x := 2) (2) rfl) (dk_ne c16) rfl
            by_cases c21 : p1 = 3
            ·
              have qc21 : p1.toInt = 3 := by rw [c21]; rfl
              have d22 : dkN [(3, 3)] p1 := dkN_lit (3) qc21
              refine lv_tableIn (tgt := 89) hx hb dX6_person_20 (by rw [qc21]; decide) (by rw [qc21]; decide) (by rw [qc21]; rfl) (by decide) ?_
              refine lv_aload_n hx hb dX6_person_89 rfl (lv_at hl 1 rfl) ?_
              refine dk_get (k := 340) hx hb hts iX6_person_6 hown hK (dk_at340 hW) rfl 13 (by decide) (hts (.fieldLink RX6 25 "DogKingsModel" "now" "[I") (List.mem_of_getElem? (i := 2) rfl)) rfl dX6_person_90 ?_
              refine lv_iload_n hx hb dX6_person_93 rfl (lv_at hl 0 rfl) ?_
              refine lv_iconst (v := 3) hx hb dX6_person_94 (by decide) ?_
              refine lv_iadd hx hb dX6_person_95 ?_
              refine lv_topi (fun v23 ev23 => ?_)
              have dv23 : dkN [(9, 33)] v23 := by rw [ev23]; exact dkN_add dv6 (dkN_lit (x := 3) (3) rfl) rfl
              refine dk_ild (k := 346) hx hb hK (dk_at346 hW) (dkN_in (n := 54) dv23 rfl) dX6_person_96 ?_
              refine lv_topi (fun v24 ev24 => ?_)
              exact W.iret (v := v24) hx hb hr (fun t ht hW9 => ⟨⟨v24, I1, rfl, ⟨hF, hO, ⟨trivial, trivial⟩⟩, dkW_eq ht hW⟩, hS.F ht⟩) hS.2.2 dX6_person_97
            ·
              have d25 : dkN [(-2147483648, -1), (4, 2147483647)] p1 := dkN_ne1 (3) d20 (dkN_lit (x := 3) (3) rfl) (dk_ne c21) rfl
              by_cases c26 : p1 = 4
              ·
                have qc26 : p1.toInt = 4 := by rw [c26]; rfl
                have d27 : dkN [(4, 4)] p1 := dkN_lit (4) qc26
                refine lv_tableIn (tgt := 98) hx hb dX6_person_20 (by rw [qc26]; decide) (by rw [qc26]; decide) (by rw [qc26]; rfl) (by decide) ?_
                refine lv_aload_n hx hb dX6_person_98 rfl (lv_at hl 1 rfl) ?_
                refine dk_get (k := 340) hx hb hts iX6_person_6 hown hK (dk_at340 hW) rfl 13 (by decide) (hts (.fieldLink RX6 25 "DogKingsModel" "now" "[I") (List.mem_of_getElem? (i := 2) rfl)) rfl dX6_person_99 ?_
                refine lv_iload_n hx hb dX6_person_102 rfl (lv_at hl 0 rfl) ?_
                refine lv_iconst (v := 2) hx hb dX6_person_103 (by decide) ?_
                refine lv_iadd hx hb dX6_person_104 ?_
                refine lv_topi (fun v28 ev28 => ?_)
                have dv28 : dkN [(8, 32)] v28 := by rw [ev28]; exact dkN_add dv6 (dkN_lit (x := 2) (2) rfl) rfl
                refine dk_ild (k := 346) hx hb hK (dk_at346 hW) (dkN_in (n := 54) dv28 rfl) dX6_person_105 ?_
                refine lv_topi (fun v29 ev29 => ?_)
                exact W.iret (v := v29) hx hb hr (fun t ht hW9 => ⟨⟨v29, I1, rfl, ⟨hF, hO, ⟨trivial, trivial⟩⟩, dkW_eq ht hW⟩, hS.F ht⟩) hS.2.2 dX6_person_106
              ·
                have d30 : dkN [(-2147483648, -1), (5, 2147483647)] p1 := dkN_ne1 (4) d25 (dkN_lit (x := 4) (4) rfl) (dk_ne c26) rfl
                by_cases c31 : p1 = 5
                ·
                  have qc31 : p1.toInt = 5 := by rw [c31]; rfl
                  have d32 : dkN [(5, 5)] p1 := dkN_lit (5) qc31
                  refine lv_tableIn (tgt := 107) hx hb dX6_person_20 (by rw [qc31]; decide) (by rw [qc31]; decide) (by rw [qc31]; rfl) (by decide) ?_
                  refine lv_aload_n hx hb dX6_person_107 rfl (lv_at hl 1 rfl) ?_
                  refine dk_get (k := 340) hx hb hts iX6_person_6 hown hK (dk_at340 hW) rfl 13 (by decide) (hts (.fieldLink RX6 25 "DogKingsModel" "now" "[I") (List.mem_of_getElem? (i := 2) rfl)) rfl dX6_person_108 ?_
                  refine lv_iload_n hx hb dX6_person_111 rfl (lv_at hl 0 rfl) ?_
                  refine lv_iconst (v := 5) hx hb dX6_person_112 (by decide) ?_
                  refine lv_iadd hx hb dX6_person_113 ?_
                  refine lv_topi (fun v33 ev33 => ?_)
                  have dv33 : dkN [(11, 35)] v33 := by rw [ev33]; exact dkN_add dv6 (dkN_lit (x := 5) (5) rfl) rfl
                  refine dk_ild (k := 346) hx hb hK (dk_at346 hW) (dkN_in (n := 54) dv33 rfl) dX6_person_114 ?_
                  refine lv_topi (fun v34 ev34 => ?_)
                  exact W.iret (v := v34) hx hb hr (fun t ht hW9 => ⟨⟨v34, I1, rfl, ⟨hF, hO, ⟨trivial, trivial⟩⟩, dkW_eq ht hW⟩, hS.F ht⟩) hS.2.2 dX6_person_115
                ·
                  have d35 : dkN [(-2147483648, -1), (6, 2147483647)] p1 := dkN_ne1 (5) d30 (dkN_lit (x := 5) (5) rfl) (dk_ne c31) rfl
                  by_cases c36 : p1 = 6
                  ·
                    have qc36 : p1.toInt = 6 := by rw [c36]; rfl
                    have d37 : dkN [(6, 6)] p1 := dkN_lit (6) qc36
                    refine lv_tableIn (tgt := 116) hx hb dX6_person_20 (by rw [qc36]; decide) (by rw [qc36]; decide) (by rw [qc36]; rfl) (by decide) ?_
                    refine lv_aload_n hx hb dX6_person_116 rfl (lv_at hl 1 rfl) ?_
                    refine lv_aload_n hx hb dX6_person_117 rfl (lv_at hl 1 rfl) ?_
                    refine dk_get (k := 340) hx hb hts iX6_person_6 hown hK (dk_at340 hW) rfl 13 (by decide) (hts (.fieldLink RX6 25 "DogKingsModel" "now" "[I") (List.mem_of_getElem? (i := 2) rfl)) rfl dX6_person_118 ?_
                    refine lv_iload_n hx hb dX6_person_121 rfl (lv_at hl 0 rfl) ?_
                    refine lv_iconst (v := 4) hx hb dX6_person_122 (by decide) ?_
                    refine lv_iadd hx hb dX6_person_123 ?_
                    refine lv_topi (fun v38 ev38 => ?_)
                    have dv38 : dkN [(10, 34)] v38 := by rw [ev38]; exact dkN_add dv6 (dkN_lit (x := 4) (4) rfl) rfl
                    refine dk_ild (k := 346) hx hb hK (dk_at346 hW) (dkN_in (n := 54) dv38 rfl) dX6_person_124 ?_
                    refine lv_topi (fun v39 ev39 => ?_)
                    refine dk_Vi (As := [.int v39]) (rest := []) ⟨hx, hb, hml, hown, hts⟩ (c_X6_dogsIn_0 l g z I1 v39 hO) (cwV 1 hts gX6_person_X6_dogsIn rfl rfl rfl (by decide +kernel) ⟨Nat.le_of_ble_eq_true rfl, Nat.le_of_ble_eq_true rfl⟩) (dk_at340 hW) rfl hK hT hW hS rfl hl.1 rfl (Nat.le_of_ble_eq_true rfl) dX6_person_125 ⟨Nat.zero_le _, Nat.zero_le _⟩ (fun v40 I40 H40 L40 hp40 hW hS => ?_)
                    obtain ⟨hF40, hO, hc40⟩ := hp40
                    have hF := dkF_call hF hF40 rfl
                    obtain ⟨_, -⟩ := hc40
                    exact W.iret (v := v40) hx hb hr (fun t ht hW9 => ⟨⟨v40, I40, rfl, ⟨hF, hO, ⟨trivial, trivial⟩⟩, dkW_eq ht hW⟩, hS.F ht⟩) hS.2.2 dX6_person_128
                  ·
                    have d41 : dkN [(-2147483648, -1), (7, 2147483647)] p1 := dkN_ne1 (6) d35 (dkN_lit (x := 6) (6) rfl) (dk_ne c36) rfl
                    refine lv_tableOut (tgt := 129) hx hb dX6_person_20 (dkN_out d41 rfl) (by decide) ?_
                    refine lv_ldc (v := (-1000001)) hx hb hown (hts (.constant RX6 64 (-1000001)) (List.mem_of_getElem? (i := 1) rfl)) dX6_person_129 ?_
                    exact W.iret (v := (-1000001)) hx hb hr (fun t ht hW9 => ⟨⟨(-1000001), I1, rfl, ⟨hF, hO, ⟨trivial, trivial⟩⟩, dkW_eq ht hW⟩, hS.F ht⟩) hS.2.2 dX6_person_131
    ·
      exact (dkN_nil (show dkN [] v1 from dkN_eq1 dv1 (dkN_lit (x := 0) (0) rfl) (congrArg Int32.toInt c4) rfl)).elim
set_option maxHeartbeats 4000000 in
set_option maxRecDepth 100000 in
theorem c_X5_isUpTo_4 (l : Launch) (g : dkG) (z : Nat) (I0 : dkI) (p0 : Int32) (p1 : Int32) (dp1 : dkN [(60, 60)] p1)  (hO : dkOk I0) : Met l yX5_isUpTo wsX5_isUpTo (dkR 0) (dkPc g z [.int p0, .int p1] I0) (dkQi g z (fun r I1 => dkF [] I0 I1 ∧ dkOk I1 ∧ ((dkN [(0, 0)] r ∧ dkN [(-2147483648, -1), (61, 2147483647)] p0 ∧ True) ∨ (dkN [(1, 1)] r ∧ dkN [(0, 60)] p0 ∧ True)))) 0 0 (dkA z) := by
  refine Met.ofW (cc := cX5_isUpTo) (maxL := 2) (ret := (some .boolean)) (by decide) rfl ?_
  intro p e s m args below meth c s₁ B hml hv
  obtain ⟨ha, hW, hK, hT⟩ := hv
  have hx := B.exec
  have hb := B.bytes
  have hr := B.returns
  have hts := atoms_spec (ws := wsX5_isUpTo) B.pre
  have hown : s.vm.findClass RX5 = some m.cls := findClass_of_methodNamed B.named
  have hlocks := B.notSynchronized
  have hS : va_S (dkA z) s.heap s.heap [] := va_S.rf
  have hF : dkF [] I0 I0 := dkF_rf _ _
  have hl := lv_entry ([.int p0, .int p1]) (n := 2) (Nat.le_of_ble_eq_true rfl)
  have hgo : entryFrame m args 2 = entryFrame m ([.int p0, .int p1] : List Value).toArray 2 := by rw [ha]
  rw [hgo, lg_entry_eq]
  generalize (lg_sl ([.int p0, .int p1]) ++ List.replicate (2 - (lg_sl ([.int p0, .int p1])).length) Slot.unset).toArray = ls at hl ⊢
  have hl : lv_has ls 2 [(0, .int p0), (1, .int p1)] := hl
  refine lv_iload_n hx hb dX5_isUpTo_0 rfl (lv_at hl 0 rfl) ?_
  refine lv_if_lt (tgt := 13) hx hb dX5_isUpTo_1 (by decide) (fun c1 => ?_) (fun c1 => ?_)
  ·
    have d2 : dkN [(-2147483648, -1)] p0 := dkN_le1 1 (dkN_top p0) (dkN_lit (x := 0) (0) rfl) (dkc_lt c1) rfl
    refine lv_iconst (v := 0) hx hb dX5_isUpTo_13 (by decide) ?_
    exact W.zret (v := 0) (ty := .boolean) hx hb hr rfl (fun t ht hW9 => ⟨⟨0, I0, rfl, ⟨hF, hO, Or.inl ⟨dkN_sub (dkN_lit (x := 0) (0) rfl) rfl, dkN_sub d2 rfl, trivial⟩⟩, dkW_eq ht hW⟩, hS.F ht⟩) hS.2.2 dX5_isUpTo_14
  ·
    have d3 : dkN [(0, 2147483647)] p0 := dkN_le2 0 (dkN_lit (x := 0) (0) rfl) (dkN_top p0) (dkc_nlt c1) rfl
    refine lv_iload_n hx hb dX5_isUpTo_4 rfl (lv_at hl 0 rfl) ?_
    refine lv_iload_n hx hb dX5_isUpTo_5 rfl (lv_at hl 1 rfl) ?_
    refine lv_icmp_gt (tgt := 13) hx hb dX5_isUpTo_6 (by decide) (fun c4 => ?_) (fun c4 => ?_)
    ·
      have d5 : dkN [(61, 2147483647)] p0 := dkN_le2 1 dp1 d3 (dkc_lt c4) rfl
      refine lv_iconst (v := 0) hx hb dX5_isUpTo_13 (by decide) ?_
      exact W.zret (v := 0) (ty := .boolean) hx hb hr rfl (fun t ht hW9 => ⟨⟨0, I0, rfl, ⟨hF, hO, Or.inl ⟨dkN_sub (dkN_lit (x := 0) (0) rfl) rfl, dkN_sub d5 rfl, trivial⟩⟩, dkW_eq ht hW⟩, hS.F ht⟩) hS.2.2 dX5_isUpTo_14
    ·
      have d6 : dkN [(0, 60)] p0 := dkN_le1 0 d3 dp1 (dkc_nlt c4) rfl
      refine lv_iconst (v := 1) hx hb dX5_isUpTo_9 (by decide) ?_
      refine lv_goto (tgt := 14) hx hb dX5_isUpTo_10 (by decide) ?_
      exact W.zret (v := 1) (ty := .boolean) hx hb hr rfl (fun t ht hW9 => ⟨⟨1, I0, rfl, ⟨hF, hO, Or.inr (⟨dkN_sub (dkN_lit (x := 1) (1) rfl) rfl, dkN_sub d6 rfl, trivial⟩)⟩, dkW_eq ht hW⟩, hS.F ht⟩) hS.2.2 dX5_isUpTo_14
set_option maxHeartbeats 4000000 in
set_option maxRecDepth 100000 in
theorem c_X3_passMinutes_0 (l : Launch) (g : dkG) (z : Nat) (I0 : dkI) (p0 : Int32) (dp0 : dkN [(0, 60)] p0)  (hO : dkOk I0) : Met l yX3_passMinutes wsX3_passMinutes (dkR 5) (dkPc g z [.ref (z + 325), .int p0] I0) (dkQv g z (fun I1 => dkF [(326, 326, 0, 4), (326, 326, 11, 11), (326, 326, 15, 17), (327, 327, 0, 4), (328, 328, 0, 4), (329, 329, 0, 4), (330, 330, 0, 4), (331, 331, 0, 4), (332, 332, 0, 4), (333, 333, 0, 5), (334, 334, 0, 5), (335, 335, 0, 5), (336, 336, 0, 8)] I0 I1 ∧ dkOk I1 ∧ ((True)))) 0 0 (dkA z) := by
  refine Met.ofW (cc := cX3_passMinutes) (maxL := 3) (ret := none) (by decide) rfl ?_
  intro p e s m args below meth c s₁ B hml hv
  obtain ⟨ha, hW, hK, hT⟩ := hv
  have hx := B.exec
  have hb := B.bytes
  have hr := B.returns
  have hts := atoms_spec (ws := wsX3_passMinutes) B.pre
  have hown : s.vm.findClass RX3 = some m.cls := findClass_of_methodNamed B.named
  have hlocks := B.notSynchronized
  have hS : va_S (dkA z) s.heap s.heap [] := va_S.rf
  have hF : dkF [(326, 326, 0, 4), (326, 326, 11, 11), (326, 326, 15, 17), (327, 327, 0, 4), (328, 328, 0, 4), (329, 329, 0, 4), (330, 330, 0, 4), (331, 331, 0, 4), (332, 332, 0, 4), (333, 333, 0, 5), (334, 334, 0, 5), (335, 335, 0, 5), (336, 336, 0, 8)] I0 I0 := dkF_rf _ _
  have hl := lv_entry ([.ref (z + 325), .int p0]) (n := 3) (Nat.le_of_ble_eq_true rfl)
  have hgo : entryFrame m args 3 = entryFrame m ([.ref (z + 325), .int p0] : List Value).toArray 3 := by rw [ha]
  rw [hgo, lg_entry_eq]
  generalize (lg_sl ([.ref (z + 325), .int p0]) ++ List.replicate (3 - (lg_sl ([.ref (z + 325), .int p0])).length) Slot.unset).toArray = ls at hl ⊢
  have hl : lv_has ls 3 [(0, .ref (z + 325)), (1, .int p0)] := hl
  have C13 : ∀ (n : Nat), ∀ (I : dkI) (H : Heap) (locs : List Loc) (ls : Array Slot) (x13_2 : Int32), (60 - x13_2.toInt).toNat < n → dkW g z I H → va_S (dkA z) s.heap H locs → dkF [(326, 326, 0, 4), (326, 326, 11, 11), (326, 326, 15, 17), (327, 327, 0, 4), (328, 328, 0, 4), (329, 329, 0, 4), (330, 330, 0, 4), (331, 331, 0, 4), (332, 332, 0, 4), (333, 333, 0, 5), (334, 334, 0, 5), (335, 335, 0, 5), (336, 336, 0, 8)] I0 I → dkOk I → dkN [(0, 60)] x13_2 → lv_has ls 3 [(0, .ref (z + 325)), (1, .int p0), (2, .int x13_2)] → W p l e (headSpec wsX3_passMinutes (dkR 5)).room s m args below meth c H locs 0 0 (MQ below (dkQv g z (fun I1 => dkF [(326, 326, 0, 4), (326, 326, 11, 11), (326, 326, 15, 17), (327, 327, 0, 4), (328, 328, 0, 4), (329, 329, 0, 4), (330, 330, 0, 4), (331, 331, 0, 4), (332, 332, 0, 4), (333, 333, 0, 5), (334, 334, 0, 5), (335, 335, 0, 5), (336, 336, 0, 8)] I0 I1 ∧ dkOk I1 ∧ ((True)))) args s 0 0 (dkA z)) (F0 m 13 ls []) := by
    intro n
    induction n with
    | zero => intro I H locs ls x13_2 hn; exact absurd hn (Nat.not_lt_zero _)
    | succ n ih13 =>
      intro I13_ H locs ls x13_2 hn13 hW hS hF_13 hO k13_0 hl
      have hF := hF_13
      refine lv_iload_n hx hb dX3_passMinutes_13 rfl (lv_at hl 2 rfl) ?_
      refine lv_iload_n hx hb dX3_passMinutes_14 rfl (lv_at hl 1 rfl) ?_
      refine lv_icmp_ge (tgt := 32) hx hb dX3_passMinutes_15 (by decide) (fun c1 => ?_) (fun c1 => ?_)
      ·
        exact W.vret hx hb hr (fun t ht hW9 => ⟨⟨I13_, rfl, ⟨hF, hO, trivial⟩, dkW_eq ht hW⟩, hS.F ht⟩) hS.2.2 dX3_passMinutes_32
      ·
        have d2 : dkN [(1, 60)] p0 := dkN_le2 1 k13_0 dp0 (dkc_nle c1) rfl
        have d3 : dkN [(0, 59)] x13_2 := dkN_le1 1 k13_0 dp0 (dkc_nle c1) rfl
        refine lv_aload_n hx hb dX3_passMinutes_18 rfl (lv_at hl 0 rfl) ?_
        refine dk_get (k := 325) hx hb hts iX3_passMinutes_3 hown hK (dk_at325 hW) rfl 1 (by decide) (hts (.fieldLink RX3 12 "DogKings$Seer" "then" "LDogKings$Town;") (List.mem_of_getElem? (i := 1) rfl)) rfl dX3_passMinutes_19 ?_
        refine dk_Vi (As := []) (rest := []) ⟨hx, hb, hml, hown, hts⟩ (c_X4_pass_0 l g z I13_ (326) (by unfold dkT; omega) hO) (cwV 0 hts gX3_passMinutes_X4_pass rfl rfl rfl (by decide +kernel) ⟨Nat.le_of_ble_eq_true rfl, Nat.le_of_ble_eq_true rfl⟩) (dk_at326 hW) rfl hK hT hW hS rfl hl.1 rfl (Nat.le_of_ble_eq_true rfl) dX3_passMinutes_22 ⟨Nat.zero_le _, Nat.zero_le _⟩ (fun v4 I4 H4 L4 hp4 hW hS => ?_)
        obtain ⟨hF4, hO, hc4⟩ := hp4
        have hF := dkF_call hF hF4 rfl
        obtain ⟨dv4, f4_326_3, -⟩ := hc4
        refine lv_pop hx hb dX3_passMinutes_25 rfl ?_
        obtain ⟨v5, ev5⟩ : ∃ y : Int32, y = x13_2 + 1 := ⟨_, rfl⟩
        have dv5 : dkN [(1, 60)] v5 := by rw [ev5]; exact dkN_add d3 (dkN_lit (x := 1) (1) rfl) rfl
        refine lv_iinc (v := v5) (lv' := [(2, .int v5), (0, .ref (z + 325)), (1, .int p0)]) hx hb dX3_passMinutes_26 hl (k := 2) rfl (by rw [ev5]; rfl) (by decide) rfl (fun ls hl => ?_)
        refine lv_goto (tgt := 13) hx hb dX3_passMinutes_29 (by decide) ?_
        exact ih13 I4 _ _ ls v5 (dk_near hn13 (by rw [ev5]; exact dk_inc d3 rfl) (dkN_lt d3 rfl)) hW hS hF hO (dkN_sub dv5 rfl) (lv_sub hl [1, 2, 0] rfl)
  refine lv_aload_n hx hb dX3_passMinutes_0 rfl (lv_at hl 0 rfl) ?_
  refine dk_get (k := 325) hx hb hts iX3_passMinutes_3 hown hK (dk_at325 hW) rfl 1 (by decide) (hts (.fieldLink RX3 12 "DogKings$Seer" "then" "LDogKings$Town;") (List.mem_of_getElem? (i := 1) rfl)) rfl dX3_passMinutes_1 ?_
  refine lv_aload_n hx hb dX3_passMinutes_4 rfl (lv_at hl 0 rfl) ?_
  refine dk_get (k := 325) hx hb hts iX3_passMinutes_3 hown hK (dk_at325 hW) rfl 0 (by decide) (hts (.fieldLink RX3 22 "DogKings$Seer" "now" "LDogKings$Town;") (List.mem_of_getElem? (i := 2) rfl)) rfl dX3_passMinutes_5 ?_
  refine dk_Vv (As := [.ref (z + 25)]) (rest := []) ⟨hx, hb, hml, hown, hts⟩ (c_X4_become_0 l g z I0 (326) (by unfold dkT; omega) (25) (by unfold dkT; omega) hO) (cwV 1 hts gX3_passMinutes_X4_become rfl rfl rfl (by decide +kernel) ⟨Nat.le_of_ble_eq_true rfl, Nat.le_of_ble_eq_true rfl⟩) (dk_at326 hW) rfl hK hT hW hS rfl hl.1 rfl (Nat.le_of_ble_eq_true rfl) dX3_passMinutes_8 ⟨Nat.zero_le _, Nat.zero_le _⟩ (fun I6 H6 L6 hp6 hW hS => ?_)
  obtain ⟨hF6, hO, hc6⟩ := hp6
  have hF := dkF_call hF hF6 rfl
  refine lv_iconst (v := 0) hx hb dX3_passMinutes_11 (by decide) ?_
  refine lv_istore_n (lv' := [(2, .int 0), (0, .ref (z + 325)), (1, .int p0)]) hx hb dX3_passMinutes_12 rfl hl (by decide) rfl (fun ls hl => ?_)
  exact C13 _ I6 _ _ ls 0 (Nat.lt_succ_self _) hW hS hF hO (dkN_sub (dkN_lit (x := 0) (0) rfl) rfl) (lv_sub hl [1, 2, 0] rfl)
set_option maxHeartbeats 4000000 in
set_option maxRecDepth 100000 in
theorem c_X3_dogLater_0 (l : Launch) (g : dkG) (z : Nat) (I0 : dkI) (p0 : Int32) (p1 : Int32) (dp0 : dkN [(0, 5)] p0) (dp1 : dkN [(0, 60)] p1)  (hO : dkOk I0) : Met l yX3_dogLater wsX3_dogLater (dkR 6) (dkPc g z [.ref (z + 325), .int p0, .int p1] I0) (dkQi g z (fun r I1 => dkF [(326, 326, 0, 4), (326, 326, 11, 11), (326, 326, 15, 17), (327, 327, 0, 4), (328, 328, 0, 4), (329, 329, 0, 4), (330, 330, 0, 4), (331, 331, 0, 4), (332, 332, 0, 4), (333, 333, 0, 5), (334, 334, 0, 5), (335, 335, 0, 5), (336, 336, 0, 8)] I0 I1 ∧ dkOk I1 ∧ ((True ∧ True)))) 0 0 (dkA z) := by
  refine Met.ofW (cc := cX3_dogLater) (maxL := 3) (ret := (some .int)) (by decide) rfl ?_
  intro p e s m args below meth c s₁ B hml hv
  obtain ⟨ha, hW, hK, hT⟩ := hv
  have hx := B.exec
  have hb := B.bytes
  have hr := B.returns
  have hts := atoms_spec (ws := wsX3_dogLater) B.pre
  have hown : s.vm.findClass RX3 = some m.cls := findClass_of_methodNamed B.named
  have hlocks := B.notSynchronized
  have hS : va_S (dkA z) s.heap s.heap [] := va_S.rf
  have hF : dkF [(326, 326, 0, 4), (326, 326, 11, 11), (326, 326, 15, 17), (327, 327, 0, 4), (328, 328, 0, 4), (329, 329, 0, 4), (330, 330, 0, 4), (331, 331, 0, 4), (332, 332, 0, 4), (333, 333, 0, 5), (334, 334, 0, 5), (335, 335, 0, 5), (336, 336, 0, 8)] I0 I0 := dkF_rf _ _
  have hl := lv_entry ([.ref (z + 325), .int p0, .int p1]) (n := 3) (Nat.le_of_ble_eq_true rfl)
  have hgo : entryFrame m args 3 = entryFrame m ([.ref (z + 325), .int p0, .int p1] : List Value).toArray 3 := by rw [ha]
  rw [hgo, lg_entry_eq]
  generalize (lg_sl ([.ref (z + 325), .int p0, .int p1]) ++ List.replicate (3 - (lg_sl ([.ref (z + 325), .int p0, .int p1])).length) Slot.unset).toArray = ls at hl ⊢
  have hl : lv_has ls 3 [(0, .ref (z + 325)), (1, .int p0), (2, .int p1)] := hl
  refine lv_aload_n hx hb dX3_dogLater_0 rfl (lv_at hl 0 rfl) ?_
  refine lv_iload_n hx hb dX3_dogLater_1 rfl (lv_at hl 2 rfl) ?_
  refine dk_Vv (As := [.int p1]) (rest := []) ⟨hx, hb, hml, hown, hts⟩ (c_X3_passMinutes_0 l g z I0 p1 dp1 hO) (cwV 1 hts gX3_dogLater_X3_passMinutes rfl rfl rfl (by decide +kernel) ⟨Nat.le_of_ble_eq_true rfl, Nat.le_of_ble_eq_true rfl⟩) (dk_at325 hW) rfl hK hT hW hS rfl hl.1 rfl (Nat.le_of_ble_eq_true rfl) dX3_dogLater_2 ⟨Nat.zero_le _, Nat.zero_le _⟩ (fun I1 H1 L1 hp1 hW hS => ?_)
  obtain ⟨hF1, hO, hc1⟩ := hp1
  have hF := dkF_call hF hF1 rfl
  refine lv_aload_n hx hb dX3_dogLater_5 rfl (lv_at hl 0 rfl) ?_
  refine dk_get (k := 325) hx hb hts iX3_dogLater_3 hown hK (dk_at325 hW) rfl 1 (by decide) (hts (.fieldLink RX3 12 "DogKings$Seer" "then" "LDogKings$Town;") (List.mem_of_getElem? (i := 1) rfl)) rfl dX3_dogLater_6 ?_
  refine dk_get (k := 326) hx hb hts iX3_dogLater_4 hown hK (dk_at326 hW) rfl 14 (by decide) (hts (.fieldLink RX3 29 "DogKings$Town" "dogAt" "[I") (List.mem_of_getElem? (i := 2) rfl)) rfl dX3_dogLater_9 ?_
  refine lv_iload_n hx hb dX3_dogLater_12 rfl (lv_at hl 1 rfl) ?_
  refine dk_ild (k := 335) hx hb hK (dk_at335 hW) (dkN_in (n := 6) dp0 rfl) dX3_dogLater_13 ?_
  refine lv_topi (fun v2 ev2 => ?_)
  exact W.iret (v := v2) hx hb hr (fun t ht hW9 => ⟨⟨v2, I1, rfl, ⟨hF, hO, ⟨trivial, trivial⟩⟩, dkW_eq ht hW⟩, hS.F ht⟩) hS.2.2 dX3_dogLater_14
set_option maxHeartbeats 4000000 in
set_option maxRecDepth 100000 in
theorem c_X5_ahead_0 (l : Launch) (g : dkG) (z : Nat) (I0 : dkI) (p0 : Int32) (p1 : Int32)  (hO : dkOk I0) : Met l yX5_ahead wsX5_ahead (dkR 7) (dkPc g z [.ref (z + 0), .int p0, .int p1] I0) (dkQi g z (fun r I1 => dkF [(326, 326, 0, 4), (326, 326, 11, 11), (326, 326, 15, 17), (327, 327, 0, 4), (328, 328, 0, 4), (329, 329, 0, 4), (330, 330, 0, 4), (331, 331, 0, 4), (332, 332, 0, 4), (333, 333, 0, 5), (334, 334, 0, 5), (335, 335, 0, 5), (336, 336, 0, 8)] I0 I1 ∧ dkOk I1 ∧ ((True ∧ True)))) 0 0 (dkA z) := by
  refine Met.ofW (cc := cX5_ahead) (maxL := 3) (ret := (some .int)) (by decide) rfl ?_
  intro p e s m args below meth c s₁ B hml hv
  obtain ⟨ha, hW, hK, hT⟩ := hv
  have hx := B.exec
  have hb := B.bytes
  have hr := B.returns
  have hts := atoms_spec (ws := wsX5_ahead) B.pre
  have hown : s.vm.findClass RX5 = some m.cls := findClass_of_methodNamed B.named
  have hlocks := B.notSynchronized
  have hS : va_S (dkA z) s.heap s.heap [] := va_S.rf
  have hF : dkF [(326, 326, 0, 4), (326, 326, 11, 11), (326, 326, 15, 17), (327, 327, 0, 4), (328, 328, 0, 4), (329, 329, 0, 4), (330, 330, 0, 4), (331, 331, 0, 4), (332, 332, 0, 4), (333, 333, 0, 5), (334, 334, 0, 5), (335, 335, 0, 5), (336, 336, 0, 8)] I0 I0 := dkF_rf _ _
  have hl := lv_entry ([.ref (z + 0), .int p0, .int p1]) (n := 3) (Nat.le_of_ble_eq_true rfl)
  have hgo : entryFrame m args 3 = entryFrame m ([.ref (z + 0), .int p0, .int p1] : List Value).toArray 3 := by rw [ha]
  rw [hgo, lg_entry_eq]
  generalize (lg_sl ([.ref (z + 0), .int p0, .int p1]) ++ List.replicate (3 - (lg_sl ([.ref (z + 0), .int p0, .int p1])).length) Slot.unset).toArray = ls at hl ⊢
  have hl : lv_has ls 3 [(0, .ref (z + 0)), (1, .int p0), (2, .int p1)] := hl
  refine lv_aload_n hx hb dX5_ahead_0 rfl (lv_at hl 0 rfl) ?_
  refine lv_iload_n hx hb dX5_ahead_1 rfl (lv_at hl 1 rfl) ?_
  refine dk_Vi (As := [.int p0]) (rest := []) ⟨hx, hb, hml, hown, hts⟩ (c_X5_isDog_0 l g z I0 p0 hO) (cwV 1 hts gX5_ahead_X5_isDog rfl rfl rfl (by decide +kernel) ⟨Nat.le_of_ble_eq_true rfl, Nat.le_of_ble_eq_true rfl⟩) (dk_at0 hW) rfl hK hT hW hS rfl hl.1 rfl (Nat.le_of_ble_eq_true rfl) dX5_ahead_2 ⟨Nat.zero_le _, Nat.zero_le _⟩ (fun v1 I1 H1 L1 hp1 hW hS => ?_)
  obtain ⟨hF1, hO, hc1⟩ := hp1
  have hF := dkF_call hF hF1 rfl
  rcases hc1 with ⟨dv1, -⟩ | hc1
  ·
    refine lv_if_eq (tgt := 29) hx hb dX5_ahead_5 (by decide) (fun c2 => ?_) (fun c2 => ?_)
    ·
      refine lv_ldc (v := (-1000001)) hx hb hown (hts (.constant RX5 70 (-1000001)) (List.mem_of_getElem? (i := 2) rfl)) dX5_ahead_29 ?_
      exact W.iret (v := (-1000001)) hx hb hr (fun t ht hW9 => ⟨⟨(-1000001), I1, rfl, ⟨hF, hO, ⟨trivial, trivial⟩⟩, dkW_eq ht hW⟩, hS.F ht⟩) hS.2.2 dX5_ahead_31
    ·
      exact (dkN_nil (show dkN [] v1 from dkN_ne1 (0) dv1 (dkN_lit (x := 0) (0) rfl) (dk_ne c2) rfl)).elim
  ·
    obtain ⟨dv1, a1_0, f1_25_11, -⟩ := hc1
    have d3 : dkN [(0, 5)] p0 := dkN_eq1 (dkN_top p0) a1_0 rfl rfl
    refine lv_if_eq (tgt := 29) hx hb dX5_ahead_5 (by decide) (fun c4 => ?_) (fun c4 => ?_)
    ·
      exact (dkN_nil (show dkN [] v1 from dkN_eq1 dv1 (dkN_lit (x := 0) (0) rfl) (congrArg Int32.toInt c4) rfl)).elim
    ·
      refine lv_iload_n hx hb dX5_ahead_8 rfl (lv_at hl 2 rfl) ?_
      refine lv_bipush (v := 60) hx hb dX5_ahead_9 (by decide) ?_
      refine dk_Si (As := [.int p1, .int 60]) (rest := []) ⟨hx, hb, hml, hown, hts⟩ (c_X5_isUpTo_4 l g z I1 p1 60 (dkN_lit (x := 60) (60) rfl) hO) (va_cwS 2 hts gX5_ahead_X5_isUpTo rfl rfl rfl (by decide +kernel) ⟨Nat.le_of_ble_eq_true rfl, Nat.le_of_ble_eq_true rfl⟩) hK hT hW hS rfl hl.1 rfl (Nat.le_of_ble_eq_true rfl) dX5_ahead_11 ⟨Nat.zero_le _, Nat.zero_le _⟩ (fun v5 I5 H5 L5 hp5 hW hS => ?_)
      obtain ⟨hF5, hO, hc5⟩ := hp5
      have hF := dkF_call hF hF5 rfl
      rcases hc5 with ⟨dv5, a5_0, -⟩ | hc5
      ·
        have d6 : dkN [(-2147483648, -1), (61, 2147483647)] p1 := dkN_eq1 (dkN_top p1) a5_0 rfl rfl
        refine lv_if_eq (tgt := 29) hx hb dX5_ahead_14 (by decide) (fun c7 => ?_) (fun c7 => ?_)
        ·
          refine lv_ldc (v := (-1000001)) hx hb hown (hts (.constant RX5 70 (-1000001)) (List.mem_of_getElem? (i := 2) rfl)) dX5_ahead_29 ?_
          exact W.iret (v := (-1000001)) hx hb hr (fun t ht hW9 => ⟨⟨(-1000001), I5, rfl, ⟨hF, hO, ⟨trivial, trivial⟩⟩, dkW_eq ht hW⟩, hS.F ht⟩) hS.2.2 dX5_ahead_31
        ·
          exact (dkN_nil (show dkN [] v5 from dkN_ne1 (0) dv5 (dkN_lit (x := 0) (0) rfl) (dk_ne c7) rfl)).elim
      ·
        obtain ⟨dv5, a5_0, -⟩ := hc5
        have d8 : dkN [(0, 60)] p1 := dkN_eq1 (dkN_top p1) a5_0 rfl rfl
        refine lv_if_eq (tgt := 29) hx hb dX5_ahead_14 (by decide) (fun c9 => ?_) (fun c9 => ?_)
        ·
          exact (dkN_nil (show dkN [] v5 from dkN_eq1 dv5 (dkN_lit (x := 0) (0) rfl) (congrArg Int32.toInt c9) rfl)).elim
        ·
          refine lv_aload_n hx hb dX5_ahead_17 rfl (lv_at hl 0 rfl) ?_
          refine dk_get (k := 0) hx hb hts iX5_ahead_5 hown hK (dk_at0 hW) rfl 8 (by decide) (hts (.fieldLink RX5 51 "DogKings" "seer" "LDogKings$Seer;") (List.mem_of_getElem? (i := 1) rfl)) rfl dX5_ahead_18 ?_
          refine lv_iload_n hx hb dX5_ahead_21 rfl (lv_at hl 1 rfl) ?_
          refine lv_iload_n hx hb dX5_ahead_22 rfl (lv_at hl 2 rfl) ?_
          refine dk_Vi (As := [.int p0, .int p1]) (rest := []) ⟨hx, hb, hml, hown, hts⟩ (c_X3_dogLater_0 l g z I5 p0 p1 d3 d8 hO) (cwV 2 hts gX5_ahead_X3_dogLater rfl rfl rfl (by decide +kernel) ⟨Nat.le_of_ble_eq_true rfl, Nat.le_of_ble_eq_true rfl⟩) (dk_at325 hW) rfl hK hT hW hS rfl hl.1 rfl (Nat.le_of_ble_eq_true rfl) dX5_ahead_23 ⟨Nat.zero_le _, Nat.zero_le _⟩ (fun v10 I10 H10 L10 hp10 hW hS => ?_)
          obtain ⟨hF10, hO, hc10⟩ := hp10
          have hF := dkF_call hF hF10 rfl
          obtain ⟨_, -⟩ := hc10
          refine lv_goto (tgt := 31) hx hb dX5_ahead_26 (by decide) ?_
          exact W.iret (v := v10) hx hb hr (fun t ht hW9 => ⟨⟨v10, I10, rfl, ⟨hF, hO, ⟨trivial, trivial⟩⟩, dkW_eq ht hW⟩, hS.F ht⟩) hS.2.2 dX5_ahead_31
set_option maxHeartbeats 4000000 in
set_option maxRecDepth 100000 in
theorem c_X6_in_14 (l : Launch) (g : dkG) (z : Nat) (I0 : dkI) (p0 : Int32) (p1 : Int32) (p2 : Int32) (dp1 : dkN [(0, 0)] p1) (dp2 : dkN [(60, 60)] p2)  (hO : dkOk I0) : Met l yX6_in wsX6_in (dkR 0) (dkPc g z [.int p0, .int p1, .int p2] I0) (dkQi g z (fun r I1 => dkF [] I0 I1 ∧ dkOk I1 ∧ ((dkN [(0, 0)] r ∧ dkN [(-2147483648, -1), (61, 2147483647)] p0 ∧ True) ∨ (dkN [(1, 1)] r ∧ dkN [(0, 60)] p0 ∧ True)))) 0 0 (dkA z) := by
  refine Met.ofW (cc := cX6_in) (maxL := 3) (ret := (some .boolean)) (by decide) rfl ?_
  intro p e s m args below meth c s₁ B hml hv
  obtain ⟨ha, hW, hK, hT⟩ := hv
  have hx := B.exec
  have hb := B.bytes
  have hr := B.returns
  have hts := atoms_spec (ws := wsX6_in) B.pre
  have hown : s.vm.findClass RX6 = some m.cls := findClass_of_methodNamed B.named
  have hlocks := B.notSynchronized
  have hS : va_S (dkA z) s.heap s.heap [] := va_S.rf
  have hF : dkF [] I0 I0 := dkF_rf _ _
  have hl := lv_entry ([.int p0, .int p1, .int p2]) (n := 3) (Nat.le_of_ble_eq_true rfl)
  have hgo : entryFrame m args 3 = entryFrame m ([.int p0, .int p1, .int p2] : List Value).toArray 3 := by rw [ha]
  rw [hgo, lg_entry_eq]
  generalize (lg_sl ([.int p0, .int p1, .int p2]) ++ List.replicate (3 - (lg_sl ([.int p0, .int p1, .int p2])).length) Slot.unset).toArray = ls at hl ⊢
  have hl : lv_has ls 3 [(0, .int p0), (1, .int p1), (2, .int p2)] := hl
  refine lv_iload_n hx hb dX6_in_0 rfl (lv_at hl 0 rfl) ?_
  refine lv_iload_n hx hb dX6_in_1 rfl (lv_at hl 1 rfl) ?_
  refine lv_icmp_lt (tgt := 14) hx hb dX6_in_2 (by decide) (fun c1 => ?_) (fun c1 => ?_)
  ·
    have d2 : dkN [(-2147483648, -1)] p0 := dkN_le1 1 (dkN_top p0) dp1 (dkc_lt c1) rfl
    refine lv_iconst (v := 0) hx hb dX6_in_14 (by decide) ?_
    exact W.zret (v := 0) (ty := .boolean) hx hb hr rfl (fun t ht hW9 => ⟨⟨0, I0, rfl, ⟨hF, hO, Or.inl ⟨dkN_sub (dkN_lit (x := 0) (0) rfl) rfl, dkN_sub d2 rfl, trivial⟩⟩, dkW_eq ht hW⟩, hS.F ht⟩) hS.2.2 dX6_in_15
  ·
    have d3 : dkN [(0, 2147483647)] p0 := dkN_le2 0 dp1 (dkN_top p0) (dkc_nlt c1) rfl
    refine lv_iload_n hx hb dX6_in_5 rfl (lv_at hl 0 rfl) ?_
    refine lv_iload_n hx hb dX6_in_6 rfl (lv_at hl 2 rfl) ?_
    refine lv_icmp_gt (tgt := 14) hx hb dX6_in_7 (by decide) (fun c4 => ?_) (fun c4 => ?_)
    ·
      have d5 : dkN [(61, 2147483647)] p0 := dkN_le2 1 dp2 d3 (dkc_lt c4) rfl
      refine lv_iconst (v := 0) hx hb dX6_in_14 (by decide) ?_
      exact W.zret (v := 0) (ty := .boolean) hx hb hr rfl (fun t ht hW9 => ⟨⟨0, I0, rfl, ⟨hF, hO, Or.inl ⟨dkN_sub (dkN_lit (x := 0) (0) rfl) rfl, dkN_sub d5 rfl, trivial⟩⟩, dkW_eq ht hW⟩, hS.F ht⟩) hS.2.2 dX6_in_15
    ·
      have d6 : dkN [(0, 60)] p0 := dkN_le1 0 d3 dp2 (dkc_nlt c4) rfl
      refine lv_iconst (v := 1) hx hb dX6_in_10 (by decide) ?_
      refine lv_goto (tgt := 15) hx hb dX6_in_11 (by decide) ?_
      exact W.zret (v := 1) (ty := .boolean) hx hb hr rfl (fun t ht hW9 => ⟨⟨1, I0, rfl, ⟨hF, hO, Or.inr (⟨dkN_sub (dkN_lit (x := 1) (1) rfl) rfl, dkN_sub d6 rfl, trivial⟩)⟩, dkW_eq ht hW⟩, hS.F ht⟩) hS.2.2 dX6_in_15
set_option maxHeartbeats 4000000 in
set_option maxRecDepth 100000 in
theorem c_X6_goesOut_1 (l : Launch) (g : dkG) (z : Nat) (I0 : dkI) (p0 : Int32) (dp0 : dkN [(0, 4)] p0)  (hO : dkOk I0) : Met l yX6_goesOut wsX6_goesOut (dkR 0) (dkPc g z [.ref (z + 348), .int p0] I0) (dkQv g z (fun I1 => dkF [(348, 348, 8, 34)] I0 I1 ∧ dkOk I1 ∧ ((True)))) 0 0 (dkA z) := by
  refine Met.ofW (cc := cX6_goesOut) (maxL := 3) (ret := none) (by decide) rfl ?_
  intro p e s m args below meth c s₁ B hml hv
  obtain ⟨ha, hW, hK, hT⟩ := hv
  have hx := B.exec
  have hb := B.bytes
  have hr := B.returns
  have hts := atoms_spec (ws := wsX6_goesOut) B.pre
  have hown : s.vm.findClass RX6 = some m.cls := findClass_of_methodNamed B.named
  have hlocks := B.notSynchronized
  have hS : va_S (dkA z) s.heap s.heap [] := va_S.rf
  have hF : dkF [(348, 348, 8, 34)] I0 I0 := dkF_rf _ _
  have hl := lv_entry ([.ref (z + 348), .int p0]) (n := 3) (Nat.le_of_ble_eq_true rfl)
  have hgo : entryFrame m args 3 = entryFrame m ([.ref (z + 348), .int p0] : List Value).toArray 3 := by rw [ha]
  rw [hgo, lg_entry_eq]
  generalize (lg_sl ([.ref (z + 348), .int p0]) ++ List.replicate (3 - (lg_sl ([.ref (z + 348), .int p0])).length) Slot.unset).toArray = ls at hl ⊢
  have hl : lv_has ls 3 [(0, .ref (z + 348)), (1, .int p0)] := hl
  have C62 : ∀ (I : dkI) (H : Heap) (locs : List Loc) (ls : Array Slot) (x62_2 : Int32), dkW g z I H → va_S (dkA z) s.heap H locs → dkF [(348, 348, 8, 34)] I0 I → dkOk I → dkN [(6, 30)] x62_2 → lv_has ls 3 [(0, .ref (z + 348)), (1, .int p0), (2, .int x62_2)] → W p l e (headSpec wsX6_goesOut (dkR 0)).room s m args below meth c H locs 0 0 (MQ below (dkQv g z (fun I1 => dkF [(348, 348, 8, 34)] I0 I1 ∧ dkOk I1 ∧ ((True)))) args s 0 0 (dkA z)) (F0 m 62 ls []) := by
    intro I62_ H locs ls x62_2 hW hS hF_62 hO k62_0 hl
    have hF := hF_62
    refine lv_aload_n hx hb dX6_goesOut_62 rfl (lv_at hl 0 rfl) ?_
    refine lv_iload_n hx hb dX6_goesOut_63 rfl (lv_at hl 2 rfl) ?_
    refine lv_iconst (v := 4) hx hb dX6_goesOut_64 (by decide) ?_
    refine lv_iadd hx hb dX6_goesOut_65 ?_
    refine lv_topi (fun v1 ev1 => ?_)
    have dv1 : dkN [(10, 34)] v1 := by rw [ev1]; exact dkN_add k62_0 (dkN_lit (x := 4) (4) rfl) rfl
    refine lv_dup2_11 hx hb dX6_goesOut_66 rfl rfl ?_
    refine dk_ild (k := 348) hx hb hK (dk_at348 hW) (dkN_in (n := 54) dv1 rfl) dX6_goesOut_67 ?_
    refine lv_topi (fun v2 ev2 => ?_)
    refine lv_aload_n hx hb dX6_goesOut_68 rfl (lv_at hl 0 rfl) ?_
    refine lv_iload_n hx hb dX6_goesOut_69 rfl (lv_at hl 2 rfl) ?_
    refine lv_iconst (v := 2) hx hb dX6_goesOut_70 (by decide) ?_
    refine lv_iadd hx hb dX6_goesOut_71 ?_
    refine lv_topi (fun v3 ev3 => ?_)
    have dv3 : dkN [(8, 32)] v3 := by rw [ev3]; exact dkN_add k62_0 (dkN_lit (x := 2) (2) rfl) rfl
    refine dk_ild (k := 348) hx hb hK (dk_at348 hW) (dkN_in (n := 54) dv3 rfl) dX6_goesOut_72 ?_
    refine lv_topi (fun v4 ev4 => ?_)
    refine lv_iconst (v := 1) hx hb dX6_goesOut_73 (by decide) ?_
    refine lv_icmp_ne (tgt := 81) hx hb dX6_goesOut_74 (by decide) (fun c5 => ?_) (fun c5 => ?_)
    ·
      have d6 : dkN [(-2147483648, 0), (2, 2147483647)] v4 := dkN_ne1 (1) (dkN_top v4) (dkN_lit (x := 1) (1) rfl) (dk_ne c5) rfl
      refine lv_aload_n hx hb dX6_goesOut_81 rfl (lv_at hl 0 rfl) ?_
      refine lv_iload_n hx hb dX6_goesOut_82 rfl (lv_at hl 2 rfl) ?_
      refine lv_iconst (v := 2) hx hb dX6_goesOut_83 (by decide) ?_
      refine lv_iadd hx hb dX6_goesOut_84 ?_
      refine lv_topi (fun v7 ev7 => ?_)
      have dv7 : dkN [(8, 32)] v7 := by rw [ev7]; exact dkN_add k62_0 (dkN_lit (x := 2) (2) rfl) rfl
      refine dk_ild (k := 348) hx hb hK (dk_at348 hW) (dkN_in (n := 54) dv7 rfl) dX6_goesOut_85 ?_
      refine lv_topi (fun v8 ev8 => ?_)
      refine lv_iconst (v := 2) hx hb dX6_goesOut_86 (by decide) ?_
      refine lv_icmp_ne (tgt := 94) hx hb dX6_goesOut_87 (by decide) (fun c9 => ?_) (fun c9 => ?_)
      ·
        have d10 : dkN [(-2147483648, 1), (3, 2147483647)] v8 := dkN_ne1 (2) (dkN_top v8) (dkN_lit (x := 2) (2) rfl) (dk_ne c9) rfl
        refine lv_iconst (v := 0) hx hb dX6_goesOut_94 (by decide) ?_
        refine lv_iadd hx hb dX6_goesOut_95 ?_
        refine lv_topi (fun v11 ev11 => ?_)
        refine dk_ist (k := 348) hx hb hK hW (fun _ => rfl) (by decide) hS (dkN_in (n := 54) dv1 rfl) dX6_goesOut_96 (fun I12 H12 L12 eI12 hW hS => ?_)
        have hO := dkO_set hO eI12 (by rw [dkB_w (k := 348) (B := [(-2147483648, 2147483647)]) (by decide) dv1 rfl]; exact dkN_top _)
        have hF := dkF_set hF eI12 (dkIn_v dv1 rfl)
        exact W.vret hx hb hr (fun t ht hW9 => ⟨⟨I12, rfl, ⟨hF, hO, trivial⟩, dkW_eq ht hW⟩, hS.F ht⟩) hS.2.2 dX6_goesOut_97
      ·
        have d13 : dkN [(2, 2)] v8 := dkN_eq1 (dkN_top v8) (dkN_lit (x := 2) (2) rfl) (congrArg Int32.toInt c9) rfl
        refine lv_iconst (v := (-1)) hx hb dX6_goesOut_90 (by decide) ?_
        refine lv_goto (tgt := 95) hx hb dX6_goesOut_91 (by decide) ?_
        refine lv_iadd hx hb dX6_goesOut_95 ?_
        refine lv_topi (fun v14 ev14 => ?_)
        refine dk_ist (k := 348) hx hb hK hW (fun _ => rfl) (by decide) hS (dkN_in (n := 54) dv1 rfl) dX6_goesOut_96 (fun I15 H15 L15 eI15 hW hS => ?_)
        have hO := dkO_set hO eI15 (by rw [dkB_w (k := 348) (B := [(-2147483648, 2147483647)]) (by decide) dv1 rfl]; exact dkN_top _)
        have hF := dkF_set hF eI15 (dkIn_v dv1 rfl)
        exact W.vret hx hb hr (fun t ht hW9 => ⟨⟨I15, rfl, ⟨hF, hO, trivial⟩, dkW_eq ht hW⟩, hS.F ht⟩) hS.2.2 dX6_goesOut_97
    ·
      have d16 : dkN [(1, 1)] v4 := dkN_eq1 (dkN_top v4) (dkN_lit (x := 1) (1) rfl) (congrArg Int32.toInt c5) rfl
      refine lv_iconst (v := 1) hx hb dX6_goesOut_77 (by decide) ?_
      refine lv_goto (tgt := 95) hx hb dX6_goesOut_78 (by decide) ?_
      refine lv_iadd hx hb dX6_goesOut_95 ?_
      refine lv_topi (fun v17 ev17 => ?_)
      refine dk_ist (k := 348) hx hb hK hW (fun _ => rfl) (by decide) hS (dkN_in (n := 54) dv1 rfl) dX6_goesOut_96 (fun I18 H18 L18 eI18 hW hS => ?_)
      have hO := dkO_set hO eI18 (by rw [dkB_w (k := 348) (B := [(-2147483648, 2147483647)]) (by decide) dv1 rfl]; exact dkN_top _)
      have hF := dkF_set hF eI18 (dkIn_v dv1 rfl)
      exact W.vret hx hb hr (fun t ht hW9 => ⟨⟨I18, rfl, ⟨hF, hO, trivial⟩, dkW_eq ht hW⟩, hS.F ht⟩) hS.2.2 dX6_goesOut_97
  have C39 : ∀ (I : dkI) (H : Heap) (locs : List Loc) (ls : Array Slot) (x39_2 : Int32), dkW g z I H → va_S (dkA z) s.heap H locs → dkF [(348, 348, 8, 34)] I0 I → dkOk I → dkN [(6, 30)] x39_2 → lv_has ls 3 [(0, .ref (z + 348)), (1, .int p0), (2, .int x39_2)] → W p l e (headSpec wsX6_goesOut (dkR 0)).room s m args below meth c H locs 0 0 (MQ below (dkQv g z (fun I1 => dkF [(348, 348, 8, 34)] I0 I1 ∧ dkOk I1 ∧ ((True)))) args s 0 0 (dkA z)) (F0 m 39 ls []) := by
    intro I39_ H locs ls x39_2 hW hS hF_39 hO k39_0 hl
    have hF := hF_39
    refine lv_aload_n hx hb dX6_goesOut_39 rfl (lv_at hl 0 rfl) ?_
    refine lv_iload_n hx hb dX6_goesOut_40 rfl (lv_at hl 2 rfl) ?_
    refine lv_iconst (v := 2) hx hb dX6_goesOut_41 (by decide) ?_
    refine lv_iadd hx hb dX6_goesOut_42 ?_
    refine lv_topi (fun v19 ev19 => ?_)
    have dv19 : dkN [(8, 32)] v19 := by rw [ev19]; exact dkN_add k39_0 (dkN_lit (x := 2) (2) rfl) rfl
    refine dk_ild (k := 348) hx hb hK (dk_at348 hW) (dkN_in (n := 54) dv19 rfl) dX6_goesOut_43 ?_
    refine lv_topi (fun v20 ev20 => ?_)
    refine lv_iconst (v := 2) hx hb dX6_goesOut_44 (by decide) ?_
    refine lv_icmp_ne (tgt := 62) hx hb dX6_goesOut_45 (by decide) (fun c21 => ?_) (fun c21 => ?_)
    ·
      have d22 : dkN [(-2147483648, 1), (3, 2147483647)] v20 := dkN_ne1 (2) (dkN_top v20) (dkN_lit (x := 2) (2) rfl) (dk_ne c21) rfl
      exact C62 I39_ _ _ ls x39_2 hW hS hF hO (dkN_sub k39_0 rfl) (lv_sub hl [0, 1, 2] rfl)
    ·
      have d23 : dkN [(2, 2)] v20 := dkN_eq1 (dkN_top v20) (dkN_lit (x := 2) (2) rfl) (congrArg Int32.toInt c21) rfl
      refine lv_aload_n hx hb dX6_goesOut_48 rfl (lv_at hl 0 rfl) ?_
      refine lv_iload_n hx hb dX6_goesOut_49 rfl (lv_at hl 2 rfl) ?_
      refine lv_iconst (v := 4) hx hb dX6_goesOut_50 (by decide) ?_
      refine lv_iadd hx hb dX6_goesOut_51 ?_
      refine lv_topi (fun v24 ev24 => ?_)
      have dv24 : dkN [(10, 34)] v24 := by rw [ev24]; exact dkN_add k39_0 (dkN_lit (x := 4) (4) rfl) rfl
      refine dk_ild (k := 348) hx hb hK (dk_at348 hW) (dkN_in (n := 54) dv24 rfl) dX6_goesOut_52 ?_
      refine lv_topi (fun v25 ev25 => ?_)
      refine lv_if_ne (tgt := 62) hx hb dX6_goesOut_53 (by decide) (fun c26 => ?_) (fun c26 => ?_)
      ·
        have d27 : dkN [(-2147483648, -1), (1, 2147483647)] v25 := dkN_ne1 (0) (dkN_top v25) (dkN_lit (x := 0) (0) rfl) (dk_ne c26) rfl
        exact C62 I39_ _ _ ls x39_2 hW hS hF hO (dkN_sub k39_0 rfl) (lv_sub hl [0, 1, 2] rfl)
      ·
        have d28 : dkN [(0, 0)] v25 := dkN_eq1 (dkN_top v25) (dkN_lit (x := 0) (0) rfl) (congrArg Int32.toInt c26) rfl
        refine lv_aload_n hx hb dX6_goesOut_56 rfl (lv_at hl 0 rfl) ?_
        refine lv_iload_n hx hb dX6_goesOut_57 rfl (lv_at hl 2 rfl) ?_
        refine lv_iconst (v := 2) hx hb dX6_goesOut_58 (by decide) ?_
        refine lv_iadd hx hb dX6_goesOut_59 ?_
        refine lv_topi (fun v29 ev29 => ?_)
        have dv29 : dkN [(8, 32)] v29 := by rw [ev29]; exact dkN_add k39_0 (dkN_lit (x := 2) (2) rfl) rfl
        refine lv_iconst (v := 1) hx hb dX6_goesOut_60 (by decide) ?_
        refine dk_ist (k := 348) hx hb hK hW (fun _ => rfl) (by decide) hS (dkN_in (n := 54) dv29 rfl) dX6_goesOut_61 (fun I30 H30 L30 eI30 hW hS => ?_)
        have hO := dkO_set hO eI30 (by rw [dkB_w (k := 348) (B := [(-2147483648, 2147483647)]) (by decide) dv29 rfl]; exact dkN_top _)
        have hF := dkF_set hF eI30 (dkIn_v dv29 rfl)
        exact C62 I30 _ _ ls x39_2 hW hS hF hO (dkN_sub k39_0 rfl) (lv_sub hl [0, 1, 2] rfl)
  refine lv_bipush (v := 6) hx hb dX6_goesOut_0 (by decide) ?_
  refine lv_bipush (v := 6) hx hb dX6_goesOut_2 (by decide) ?_
  refine lv_iload_n hx hb dX6_goesOut_4 rfl (lv_at hl 1 rfl) ?_
  refine lv_imul hx hb dX6_goesOut_5 ?_
  refine lv_topi (fun v31 ev31 => ?_)
  have dv31 : dkN [(0, 24)] v31 := by rw [ev31]; exact dkN_mulL 6 (by decide) (dkN_lit (x := 6) (6) rfl) dp0 rfl
  refine lv_iadd hx hb dX6_goesOut_6 ?_
  refine lv_topi (fun v32 ev32 => ?_)
  have dv32 : dkN [(6, 30)] v32 := by rw [ev32]; exact dkN_add (dkN_lit (x := 6) (6) rfl) dv31 rfl
  refine lv_istore_n (lv' := [(2, .int v32), (0, .ref (z + 348)), (1, .int p0)]) hx hb dX6_goesOut_7 rfl hl (by decide) rfl (fun ls hl => ?_)
  refine lv_aload_n hx hb dX6_goesOut_8 rfl (lv_at hl 1 rfl) ?_
  refine lv_iload_n hx hb dX6_goesOut_9 rfl (lv_at hl 0 rfl) ?_
  refine lv_iconst (v := 2) hx hb dX6_goesOut_10 (by decide) ?_
  refine lv_iadd hx hb dX6_goesOut_11 ?_
  refine lv_topi (fun v33 ev33 => ?_)
  have dv33 : dkN [(8, 32)] v33 := by rw [ev33]; exact dkN_add dv32 (dkN_lit (x := 2) (2) rfl) rfl
  refine dk_ild (k := 348) hx hb hK (dk_at348 hW) (dkN_in (n := 54) dv33 rfl) dX6_goesOut_12 ?_
  refine lv_topi (fun v34 ev34 => ?_)
  refine lv_iconst (v := 1) hx hb dX6_goesOut_13 (by decide) ?_
  refine lv_icmp_ne (tgt := 39) hx hb dX6_goesOut_14 (by decide) (fun c35 => ?_) (fun c35 => ?_)
  ·
    have d36 : dkN [(-2147483648, 0), (2, 2147483647)] v34 := dkN_ne1 (1) (dkN_top v34) (dkN_lit (x := 1) (1) rfl) (dk_ne c35) rfl
    exact C39 I0 _ _ ls v32 hW hS hF hO (dkN_sub dv32 rfl) (lv_sub hl [1, 2, 0] rfl)
  ·
    have d37 : dkN [(1, 1)] v34 := dkN_eq1 (dkN_top v34) (dkN_lit (x := 1) (1) rfl) (congrArg Int32.toInt c35) rfl
    refine lv_aload_n hx hb dX6_goesOut_17 rfl (lv_at hl 1 rfl) ?_
    refine lv_iload_n hx hb dX6_goesOut_18 rfl (lv_at hl 0 rfl) ?_
    refine lv_iconst (v := 4) hx hb dX6_goesOut_19 (by decide) ?_
    refine lv_iadd hx hb dX6_goesOut_20 ?_
    refine lv_topi (fun v38 ev38 => ?_)
    have dv38 : dkN [(10, 34)] v38 := by rw [ev38]; exact dkN_add dv32 (dkN_lit (x := 4) (4) rfl) rfl
    refine dk_ild (k := 348) hx hb hK (dk_at348 hW) (dkN_in (n := 54) dv38 rfl) dX6_goesOut_21 ?_
    refine lv_topi (fun v39 ev39 => ?_)
    refine lv_aload_n hx hb dX6_goesOut_22 rfl (lv_at hl 1 rfl) ?_
    refine lv_iconst (v := 0) hx hb dX6_goesOut_23 (by decide) ?_
    refine dk_ild (k := 348) hx hb hK (dk_at348 hW) (dkN_in (n := 54) (dkN_lit (x := 0) (0) rfl) rfl) dX6_goesOut_24 ?_
    refine lv_topi (fun v40 ev40 => ?_)
    have ev40 : v40 = I0 348 0 := ev40
    have dv40 : dkN [(0, 9)] v40 := by rw [ev40]; exact (show dkN [(0, 9)] (I0 348 0) from (hO 348 0))
    refine lv_iconst (v := 1) hx hb dX6_goesOut_25 (by decide) ?_
    refine lv_isub hx hb dX6_goesOut_26 ?_
    refine lv_topi (fun v41 ev41 => ?_)
    have dv41 : dkN [(-1, 8)] v41 := by rw [ev41]; exact dkN_subt dv40 (dkN_lit (x := 1) (1) rfl) rfl
    refine lv_icmp_ne (tgt := 39) hx hb dX6_goesOut_27 (by decide) (fun c42 => ?_) (fun c42 => ?_)
    ·
      exact C39 I0 _ _ ls v32 hW hS hF hO (dkN_sub dv32 rfl) (lv_sub hl [1, 2, 0] rfl)
    ·
      have d43 : dkN [(-1, 8)] v39 := dkN_eq1 (dkN_top v39) dv41 (congrArg Int32.toInt c42) rfl
      refine lv_aload_n hx hb dX6_goesOut_30 rfl (lv_at hl 1 rfl) ?_
      refine lv_iload_n hx hb dX6_goesOut_31 rfl (lv_at hl 0 rfl) ?_
      refine lv_iconst (v := 2) hx hb dX6_goesOut_32 (by decide) ?_
      refine lv_iadd hx hb dX6_goesOut_33 ?_
      refine lv_topi (fun v44 ev44 => ?_)
      have dv44 : dkN [(8, 32)] v44 := by rw [ev44]; exact dkN_add dv32 (dkN_lit (x := 2) (2) rfl) rfl
      refine lv_iconst (v := 2) hx hb dX6_goesOut_34 (by decide) ?_
      refine dk_ist (k := 348) hx hb hK hW (fun _ => rfl) (by decide) hS (dkN_in (n := 54) dv44 rfl) dX6_goesOut_35 (fun I45 H45 L45 eI45 hW hS => ?_)
      have hO := dkO_set hO eI45 (by rw [dkB_w (k := 348) (B := [(-2147483648, 2147483647)]) (by decide) dv44 rfl]; exact dkN_top _)
      have hF := dkF_set hF eI45 (dkIn_v dv44 rfl)
      refine lv_goto (tgt := 62) hx hb dX6_goesOut_36 (by decide) ?_
      exact C62 I45 _ _ ls v32 hW hS hF hO (dkN_sub dv32 rfl) (lv_sub hl [1, 2, 0] rfl)
set_option maxHeartbeats 4000000 in
set_option maxRecDepth 100000 in
theorem c_X6_pull_1 (l : Launch) (g : dkG) (z : Nat) (I0 : dkI) (p0 : Int32) (p1 : Int32) (dp0 : dkN [(0, 5)] p0) (dp1 : dkN [(0, 4)] p1)  (hO : dkOk I0) : Met l yX6_pull wsX6_pull (dkR 1) (dkPc g z [.ref (z + 348), .int p0, .int p1] I0) (dkQi g z (fun r I1 => dkF [] I0 I1 ∧ dkOk I1 ∧ ((True ∧ True)))) 0 0 (dkA z) := by
  refine Met.ofW (cc := cX6_pull) (maxL := 5) (ret := (some .int)) (by decide) rfl ?_
  intro p e s m args below meth c s₁ B hml hv
  obtain ⟨ha, hW, hK, hT⟩ := hv
  have hx := B.exec
  have hb := B.bytes
  have hr := B.returns
  have hts := atoms_spec (ws := wsX6_pull) B.pre
  have hown : s.vm.findClass RX6 = some m.cls := findClass_of_methodNamed B.named
  have hlocks := B.notSynchronized
  have hS : va_S (dkA z) s.heap s.heap [] := va_S.rf
  have hF : dkF [] I0 I0 := dkF_rf _ _
  have hl := lv_entry ([.ref (z + 348), .int p0, .int p1]) (n := 5) (Nat.le_of_ble_eq_true rfl)
  have hgo : entryFrame m args 5 = entryFrame m ([.ref (z + 348), .int p0, .int p1] : List Value).toArray 5 := by rw [ha]
  rw [hgo, lg_entry_eq]
  generalize (lg_sl ([.ref (z + 348), .int p0, .int p1]) ++ List.replicate (5 - (lg_sl ([.ref (z + 348), .int p0, .int p1])).length) Slot.unset).toArray = ls at hl ⊢
  have hl : lv_has ls 5 [(0, .ref (z + 348)), (1, .int p0), (2, .int p1)] := hl
  have C50 : ∀ (I : dkI) (H : Heap) (locs : List Loc) (ls : Array Slot) (x50_3 : Int32) (x50_4 : Int32) (x50_s0 : Int32), dkW g z I H → va_S (dkA z) s.heap H locs → dkF [] I0 I → dkOk I → dkN [(6, 30)] x50_3 → lv_has ls 5 [(0, .ref (z + 348)), (1, .int p0), (2, .int p1), (3, .int x50_3), (4, .int x50_4)] → W p l e (headSpec wsX6_pull (dkR 1)).room s m args below meth c H locs 0 0 (MQ below (dkQi g z (fun r I1 => dkF [] I0 I1 ∧ dkOk I1 ∧ ((True ∧ True)))) args s 0 0 (dkA z)) (F0 m 50 ls [.int x50_s0]) := by
    intro I50_ H locs ls x50_3 x50_4 x50_s0 hW hS hF_50 hO k50_0 hl
    have hF := hF_50
    refine lv_iconst (v := 3) hx hb dX6_pull_50 (by decide) ?_
    refine lv_aload_n hx hb dX6_pull_51 rfl (lv_at hl 0 rfl) ?_
    refine lv_iload_n hx hb dX6_pull_52 rfl (lv_at hl 3 rfl) ?_
    refine lv_iconst (v := 3) hx hb dX6_pull_53 (by decide) ?_
    refine lv_iadd hx hb dX6_pull_54 ?_
    refine lv_topi (fun v1 ev1 => ?_)
    have dv1 : dkN [(9, 33)] v1 := by rw [ev1]; exact dkN_add k50_0 (dkN_lit (x := 3) (3) rfl) rfl
    refine dk_ild (k := 348) hx hb hK (dk_at348 hW) (dkN_in (n := 54) dv1 rfl) dX6_pull_55 ?_
    refine lv_topi (fun v2 ev2 => ?_)
    refine lv_imul hx hb dX6_pull_56 ?_
    refine lv_topi (fun v3 ev3 => ?_)
    refine lv_iadd hx hb dX6_pull_57 ?_
    refine lv_topi (fun v4 ev4 => ?_)
    refine lv_iload hx hb dX6_pull_58 (lv_at hl 4 rfl) ?_
    refine lv_isub hx hb dX6_pull_60 ?_
    refine lv_topi (fun v5 ev5 => ?_)
    exact W.iret (v := v5) hx hb hr (fun t ht hW9 => ⟨⟨v5, I50_, rfl, ⟨hF, hO, ⟨trivial, trivial⟩⟩, dkW_eq ht hW⟩, hS.F ht⟩) hS.2.2 dX6_pull_61
  refine lv_bipush (v := 6) hx hb dX6_pull_0 (by decide) ?_
  refine lv_bipush (v := 6) hx hb dX6_pull_2 (by decide) ?_
  refine lv_iload_n hx hb dX6_pull_4 rfl (lv_at hl 2 rfl) ?_
  refine lv_imul hx hb dX6_pull_5 ?_
  refine lv_topi (fun v6 ev6 => ?_)
  have dv6 : dkN [(0, 24)] v6 := by rw [ev6]; exact dkN_mulL 6 (by decide) (dkN_lit (x := 6) (6) rfl) dp1 rfl
  refine lv_iadd hx hb dX6_pull_6 ?_
  refine lv_topi (fun v7 ev7 => ?_)
  have dv7 : dkN [(6, 30)] v7 := by rw [ev7]; exact dkN_add (dkN_lit (x := 6) (6) rfl) dv6 rfl
  refine lv_istore_n (lv' := [(3, .int v7), (0, .ref (z + 348)), (1, .int p0), (2, .int p1)]) hx hb dX6_pull_7 rfl hl (by decide) rfl (fun ls hl => ?_)
  refine lv_aload_n hx hb dX6_pull_8 rfl (lv_at hl 1 rfl) ?_
  refine lv_iload_n hx hb dX6_pull_9 rfl (lv_at hl 0 rfl) ?_
  refine lv_iconst (v := 4) hx hb dX6_pull_10 (by decide) ?_
  refine lv_iadd hx hb dX6_pull_11 ?_
  refine lv_topi (fun v8 ev8 => ?_)
  have dv8 : dkN [(10, 34)] v8 := by rw [ev8]; exact dkN_add dv7 (dkN_lit (x := 4) (4) rfl) rfl
  refine dk_ild (k := 348) hx hb hK (dk_at348 hW) (dkN_in (n := 54) dv8 rfl) dX6_pull_12 ?_
  refine lv_topi (fun v9 ev9 => ?_)
  refine lv_aload_n hx hb dX6_pull_13 rfl (lv_at hl 1 rfl) ?_
  refine lv_bipush (v := 36) hx hb dX6_pull_14 (by decide) ?_
  refine lv_iconst (v := 3) hx hb dX6_pull_16 (by decide) ?_
  refine lv_iload_n hx hb dX6_pull_17 rfl (lv_at hl 2 rfl) ?_
  refine lv_imul hx hb dX6_pull_18 ?_
  refine lv_topi (fun v10 ev10 => ?_)
  have dv10 : dkN [(0, 0), (3, 3), (6, 6), (9, 9), (12, 12), (15, 15)] v10 := by rw [ev10]; exact dkN_mulPt 3 (dkN_lit (x := 3) (3) rfl) dp0 rfl
  refine lv_iadd hx hb dX6_pull_19 ?_
  refine lv_topi (fun v11 ev11 => ?_)
  have dv11 : dkN [(36, 36), (39, 39), (42, 42), (45, 45), (48, 48), (51, 51)] v11 := by rw [ev11]; exact dkN_add (dkN_lit (x := 36) (36) rfl) dv10 rfl
  refine lv_iconst (v := 2) hx hb dX6_pull_20 (by decide) ?_
  refine lv_iadd hx hb dX6_pull_21 ?_
  refine lv_topi (fun v12 ev12 => ?_)
  have dv12 : dkN [(38, 38), (41, 41), (44, 44), (47, 47), (50, 50), (53, 53)] v12 := by rw [ev12]; exact dkN_add dv11 (dkN_lit (x := 2) (2) rfl) rfl
  refine dk_ild (k := 348) hx hb hK (dk_at348 hW) (dkN_in (n := 54) dv12 rfl) dX6_pull_22 ?_
  refine lv_topi (fun v13 ev13 => ?_)
  refine lv_isub hx hb dX6_pull_23 ?_
  refine lv_topi (fun v14 ev14 => ?_)
  refine dk_Si (As := [.int v14]) (rest := []) ⟨hx, hb, hml, hown, hts⟩ (c_X6_size_0 l g z I0 v14 hO) (va_cwS 1 hts gX6_pull_X6_size rfl rfl rfl (by decide +kernel) ⟨Nat.le_of_ble_eq_true rfl, Nat.le_of_ble_eq_true rfl⟩) hK hT hW hS rfl hl.1 rfl (Nat.le_of_ble_eq_true rfl) dX6_pull_24 ⟨Nat.zero_le _, Nat.zero_le _⟩ (fun v15 I15 H15 L15 hp15 hW hS => ?_)
  obtain ⟨hF15, hO, hc15⟩ := hp15
  have hF := dkF_call hF hF15 rfl
  obtain ⟨_, -⟩ := hc15
  refine lv_istore (lv' := [(4, .int v15), (3, .int v7), (0, .ref (z + 348)), (1, .int p0), (2, .int p1)]) hx hb dX6_pull_27 hl (by decide) rfl (fun ls hl => ?_)
  refine lv_aload_n hx hb dX6_pull_29 rfl (lv_at hl 2 rfl) ?_
  refine lv_bipush (v := 36) hx hb dX6_pull_30 (by decide) ?_
  refine lv_iconst (v := 3) hx hb dX6_pull_32 (by decide) ?_
  refine lv_iload_n hx hb dX6_pull_33 rfl (lv_at hl 3 rfl) ?_
  refine lv_imul hx hb dX6_pull_34 ?_
  refine lv_topi (fun v16 ev16 => ?_)
  have dv16 : dkN [(0, 0), (3, 3), (6, 6), (9, 9), (12, 12), (15, 15)] v16 := by rw [ev16]; exact dkN_mulPt 3 (dkN_lit (x := 3) (3) rfl) dp0 rfl
  refine lv_iadd hx hb dX6_pull_35 ?_
  refine lv_topi (fun v17 ev17 => ?_)
  have dv17 : dkN [(36, 36), (39, 39), (42, 42), (45, 45), (48, 48), (51, 51)] v17 := by rw [ev17]; exact dkN_add (dkN_lit (x := 36) (36) rfl) dv16 rfl
  refine dk_ild (k := 348) hx hb hK (dk_at348 hW) (dkN_in (n := 54) dv17 rfl) dX6_pull_36 ?_
  refine lv_topi (fun v18 ev18 => ?_)
  refine lv_iconst (v := 2) hx hb dX6_pull_37 (by decide) ?_
  refine lv_icmp_ne (tgt := 45) hx hb dX6_pull_38 (by decide) (fun c19 => ?_) (fun c19 => ?_)
  ·
    have d20 : dkN [(-2147483648, 1), (3, 2147483647)] v18 := dkN_ne1 (2) (dkN_top v18) (dkN_lit (x := 2) (2) rfl) (dk_ne c19) rfl
    refine lv_aload_n hx hb dX6_pull_45 rfl (lv_at hl 2 rfl) ?_
    refine lv_iload_n hx hb dX6_pull_46 rfl (lv_at hl 1 rfl) ?_
    refine lv_iconst (v := 1) hx hb dX6_pull_47 (by decide) ?_
    refine lv_iadd hx hb dX6_pull_48 ?_
    refine lv_topi (fun v21 ev21 => ?_)
    have dv21 : dkN [(7, 31)] v21 := by rw [ev21]; exact dkN_add dv7 (dkN_lit (x := 1) (1) rfl) rfl
    refine dk_ild (k := 348) hx hb hK (dk_at348 hW) (dkN_in (n := 54) dv21 rfl) dX6_pull_49 ?_
    refine lv_topi (fun v22 ev22 => ?_)
    exact C50 I15 _ _ ls v7 v15 v22 hW hS hF hO (dkN_sub dv7 rfl) (lv_sub hl [2, 3, 4, 1, 0] rfl)
  ·
    have d23 : dkN [(2, 2)] v18 := dkN_eq1 (dkN_top v18) (dkN_lit (x := 2) (2) rfl) (congrArg Int32.toInt c19) rfl
    refine lv_iconst (v := 0) hx hb dX6_pull_41 (by decide) ?_
    refine lv_goto (tgt := 50) hx hb dX6_pull_42 (by decide) ?_
    exact C50 I15 _ _ ls v7 v15 0 hW hS hF hO (dkN_sub dv7 rfl) (lv_sub hl [2, 3, 4, 1, 0] rfl)
