set_option maxHeartbeats 4000000 in
set_option maxRecDepth 100000 in
theorem c_X6_ahead_0 (l : Launch) (g : dkG) (z : Nat) (I0 : dkI) (p0 : Int32) (p1 : Int32)  (hO : dkOk I0) : Met l yX6_ahead wsX6_ahead (dkR 7) (dkPc g z [.ref (z + 340), .int p0, .int p1] I0) (dkQi g z (fun r I1 => dkF [(348, 348, 0, 53)] I0 I1 ∧ dkOk I1 ∧ ((True ∧ True)))) 0 0 (dkA z) := by
  refine Met.ofW (cc := cX6_ahead) (maxL := 3) (ret := (some .int)) (by decide) rfl ?_
  intro p e s m args below meth c s₁ B hml hv
  obtain ⟨ha, hW, hK, hT⟩ := hv
  have hx := B.exec
  have hb := B.bytes
  have hr := B.returns
  have hts := atoms_spec (ws := wsX6_ahead) B.pre
  have hown : s.vm.findClass RX6 = some m.cls := findClass_of_methodNamed B.named
  have hlocks := B.notSynchronized
  have hS : va_S (dkA z) s.heap s.heap [] := va_S.rf
  have hF : dkF [(348, 348, 0, 53)] I0 I0 := dkF_rf _ _
  have hl := lv_entry ([.ref (z + 340), .int p0, .int p1]) (n := 3) (Nat.le_of_ble_eq_true rfl)
  have hgo : entryFrame m args 3 = entryFrame m ([.ref (z + 340), .int p0, .int p1] : List Value).toArray 3 := by rw [ha]
  rw [hgo, lg_entry_eq]
  generalize (lg_sl ([.ref (z + 340), .int p0, .int p1]) ++ List.replicate (3 - (lg_sl ([.ref (z + 340), .int p0, .int p1])).length) Slot.unset).toArray = ls at hl ⊢
  have hl : lv_has ls 3 [(0, .ref (z + 340)), (1, .int p0), (2, .int p1)] := hl
  refine lv_aload_n hx hb dX6_ahead_0 rfl (lv_at hl 0 rfl) ?_
  refine lv_iload_n hx hb dX6_ahead_1 rfl (lv_at hl 1 rfl) ?_
  refine dk_Vi (As := [.int p0]) (rest := []) ⟨hx, hb, hml, hown, hts⟩ (c_X6_isDog_0 l g z I0 p0 hO) (cwV 1 hts gX6_ahead_X6_isDog rfl rfl rfl (by decide +kernel) ⟨Nat.le_of_ble_eq_true rfl, Nat.le_of_ble_eq_true rfl⟩) (dk_at340 hW) rfl hK hT hW hS rfl hl.1 rfl (Nat.le_of_ble_eq_true rfl) dX6_ahead_2 ⟨Nat.zero_le _, Nat.zero_le _⟩ (fun v1 I1 H1 L1 hp1 hW hS => ?_)
  obtain ⟨hF1, hO, hc1⟩ := hp1
  have hF := dkF_call hF hF1 rfl
  rcases hc1 with ⟨dv1, -⟩ | hc1
  ·
    refine lv_if_eq (tgt := 18) hx hb dX6_ahead_5 (by decide) (fun c2 => ?_) (fun c2 => ?_)
    ·
      refine lv_ldc (v := (-1000001)) hx hb hown (hts (.constant RX6 64 (-1000001)) (List.mem_of_getElem? (i := 1) rfl)) dX6_ahead_18 ?_
      exact W.iret (v := (-1000001)) hx hb hr (fun t ht hW9 => ⟨⟨(-1000001), I1, rfl, ⟨hF, hO, ⟨trivial, trivial⟩⟩, dkW_eq ht hW⟩, hS.F ht⟩) hS.2.2 dX6_ahead_20
    ·
      exact (dkN_nil (show dkN [] v1 from dkN_ne1 (0) dv1 (dkN_lit (x := 0) (0) rfl) (dk_ne c2) rfl)).elim
  ·
    obtain ⟨dv1, a1_0, -⟩ := hc1
    have d3 : dkN [(0, 5)] p0 := dkN_eq1 (dkN_top p0) a1_0 rfl rfl
    refine lv_if_eq (tgt := 18) hx hb dX6_ahead_5 (by decide) (fun c4 => ?_) (fun c4 => ?_)
    ·
      exact (dkN_nil (show dkN [] v1 from dkN_eq1 dv1 (dkN_lit (x := 0) (0) rfl) (congrArg Int32.toInt c4) rfl)).elim
    ·
      refine lv_iload_n hx hb dX6_ahead_8 rfl (lv_at hl 2 rfl) ?_
      refine lv_iconst (v := 0) hx hb dX6_ahead_9 (by decide) ?_
      refine lv_bipush (v := 60) hx hb dX6_ahead_10 (by decide) ?_
      refine dk_Si (As := [.int p1, .int 0, .int 60]) (rest := []) ⟨hx, hb, hml, hown, hts⟩ (c_X6_in_14 l g z I1 p1 0 60 (dkN_lit (x := 0) (0) rfl) (dkN_lit (x := 60) (60) rfl) hO) (va_cwS 3 hts gX6_ahead_X6_in rfl rfl rfl (by decide +kernel) ⟨Nat.le_of_ble_eq_true rfl, Nat.le_of_ble_eq_true rfl⟩) hK hT hW hS rfl hl.1 rfl (Nat.le_of_ble_eq_true rfl) dX6_ahead_12 ⟨Nat.zero_le _, Nat.zero_le _⟩ (fun v5 I5 H5 L5 hp5 hW hS => ?_)
      obtain ⟨hF5, hO, hc5⟩ := hp5
      have hF := dkF_call hF hF5 rfl
      rcases hc5 with ⟨dv5, a5_0, -⟩ | hc5
      ·
        have d6 : dkN [(-2147483648, -1), (61, 2147483647)] p1 := dkN_eq1 (dkN_top p1) a5_0 rfl rfl
        refine lv_if_ne (tgt := 21) hx hb dX6_ahead_15 (by decide) (fun c7 => ?_) (fun c7 => ?_)
        ·
          exact (dkN_nil (show dkN [] v5 from dkN_ne1 (0) dv5 (dkN_lit (x := 0) (0) rfl) (dk_ne c7) rfl)).elim
        ·
          refine lv_ldc (v := (-1000001)) hx hb hown (hts (.constant RX6 64 (-1000001)) (List.mem_of_getElem? (i := 1) rfl)) dX6_ahead_18 ?_
          exact W.iret (v := (-1000001)) hx hb hr (fun t ht hW9 => ⟨⟨(-1000001), I5, rfl, ⟨hF, hO, ⟨trivial, trivial⟩⟩, dkW_eq ht hW⟩, hS.F ht⟩) hS.2.2 dX6_ahead_20
      ·
        obtain ⟨dv5, a5_0, -⟩ := hc5
        have d8 : dkN [(0, 60)] p1 := dkN_eq1 (dkN_top p1) a5_0 rfl rfl
        refine lv_if_ne (tgt := 21) hx hb dX6_ahead_15 (by decide) (fun c9 => ?_) (fun c9 => ?_)
        ·
          refine lv_aload_n hx hb dX6_ahead_21 rfl (lv_at hl 0 rfl) ?_
          refine dk_get (k := 340) hx hb hts iX6_ahead_6 hown hK (dk_at340 hW) rfl 13 (by decide) (hts (.fieldLink RX6 25 "DogKingsModel" "now" "[I") (List.mem_of_getElem? (i := 2) rfl)) rfl dX6_ahead_22 ?_
          refine lv_iconst (v := 0) hx hb dX6_ahead_25 (by decide) ?_
          refine lv_aload_n hx hb dX6_ahead_26 rfl (lv_at hl 0 rfl) ?_
          refine dk_get (k := 340) hx hb hts iX6_ahead_6 hown hK (dk_at340 hW) rfl 15 (by decide) (hts (.fieldLink RX6 31 "DogKingsModel" "tried" "[I") (List.mem_of_getElem? (i := 3) rfl)) rfl dX6_ahead_27 ?_
          refine lv_iconst (v := 0) hx hb dX6_ahead_30 (by decide) ?_
          refine dk_Sv (As := [.ref (z + 346), .int 0, .ref (z + 348), .int 0]) (rest := []) ⟨hx, hb, hml, hown, hts⟩ (c_X6_copies l g z I5 (kf := 346) (kt := 348) (nf := 54) (nt := 54) 0 0 (A := 0) (B := 0) rfl rfl (by decide) (by decide) (by decide) (by decide) (by decide) (by decide) (fun _ => rfl) (fun _ => rfl)) (va_cwS 4 hts gX6_ahead_X6_copies rfl rfl rfl (by decide +kernel) ⟨Nat.le_of_ble_eq_true rfl, Nat.le_of_ble_eq_true rfl⟩) hK hT hW hS rfl hl.1 rfl (Nat.le_of_ble_eq_true rfl) dX6_ahead_31 ⟨Nat.zero_le _, Nat.zero_le _⟩ (fun I10 H10 L10 eI10 hW hS => ?_)
          have eI10 : I10 = dkCp I5 346 348 0 0 := eI10
          have hO := dkO_cp hO eI10 (by decide) (by decide) (by decide) (by decide)
          have hF := dkF_cp (lo := 0) (hi := 0) hF eI10 ⟨by decide, by decide⟩ rfl
          refine lv_aload_n hx hb dX6_ahead_34 rfl (lv_at hl 0 rfl) ?_
          refine lv_iload_n hx hb dX6_ahead_35 rfl (lv_at hl 2 rfl) ?_
          refine dk_Vv (As := [.int p1]) (rest := []) ⟨hx, hb, hml, hown, hts⟩ (c_X6_goesOn_0 l g z I10 p1 d8 hO) (cwV 1 hts gX6_ahead_X6_goesOn rfl rfl rfl (by decide +kernel) ⟨Nat.le_of_ble_eq_true rfl, Nat.le_of_ble_eq_true rfl⟩) (dk_at340 hW) rfl hK hT hW hS rfl hl.1 rfl (Nat.le_of_ble_eq_true rfl) dX6_ahead_36 ⟨Nat.zero_le _, Nat.zero_le _⟩ (fun I11 H11 L11 hp11 hW hS => ?_)
          obtain ⟨hF11, hO, hc11⟩ := hp11
          have hF := dkF_call hF hF11 rfl
          refine lv_aload_n hx hb dX6_ahead_39 rfl (lv_at hl 0 rfl) ?_
          refine dk_get (k := 340) hx hb hts iX6_ahead_6 hown hK (dk_at340 hW) rfl 15 (by decide) (hts (.fieldLink RX6 31 "DogKingsModel" "tried" "[I") (List.mem_of_getElem? (i := 3) rfl)) rfl dX6_ahead_40 ?_
          refine lv_bipush (v := 36) hx hb dX6_ahead_43 (by decide) ?_
          refine lv_iconst (v := 3) hx hb dX6_ahead_45 (by decide) ?_
          refine lv_iload_n hx hb dX6_ahead_46 rfl (lv_at hl 1 rfl) ?_
          refine lv_imul hx hb dX6_ahead_47 ?_
          refine lv_topi (fun v12 ev12 => ?_)
          have dv12 : dkN [(0, 0), (3, 3), (6, 6), (9, 9), (12, 12), (15, 15)] v12 := by rw [ev12]; exact dkN_mulPt 3 (dkN_lit (x := 3) (3) rfl) d3 rfl
          refine lv_iadd hx hb dX6_ahead_48 ?_
          refine lv_topi (fun v13 ev13 => ?_)
          have dv13 : dkN [(36, 36), (39, 39), (42, 42), (45, 45), (48, 48), (51, 51)] v13 := by rw [ev13]; exact dkN_add (dkN_lit (x := 36) (36) rfl) dv12 rfl
          refine lv_iconst (v := 2) hx hb dX6_ahead_49 (by decide) ?_
          refine lv_iadd hx hb dX6_ahead_50 ?_
          refine lv_topi (fun v14 ev14 => ?_)
          have dv14 : dkN [(38, 38), (41, 41), (44, 44), (47, 47), (50, 50), (53, 53)] v14 := by rw [ev14]; exact dkN_add dv13 (dkN_lit (x := 2) (2) rfl) rfl
          refine dk_ild (k := 348) hx hb hK (dk_at348 hW) (dkN_in (n := 54) dv14 rfl) dX6_ahead_51 ?_
          refine lv_topi (fun v15 ev15 => ?_)
          exact W.iret (v := v15) hx hb hr (fun t ht hW9 => ⟨⟨v15, I11, rfl, ⟨hF, hO, ⟨trivial, trivial⟩⟩, dkW_eq ht hW⟩, hS.F ht⟩) hS.2.2 dX6_ahead_52
        ·
          exact (dkN_nil (show dkN [] v5 from dkN_eq1 dv5 (dkN_lit (x := 0) (0) rfl) (congrArg Int32.toInt c9) rfl)).elim
set_option maxHeartbeats 4000000 in
set_option maxRecDepth 100000 in
theorem c_X3_personLater_0 (l : Launch) (g : dkG) (z : Nat) (I0 : dkI) (p0 : Int32) (p1 : Int32) (dp0 : dkN [(0, 4)] p0) (dp1 : dkN [(0, 60)] p1)  (hO : dkOk I0) : Met l yX3_personLater wsX3_personLater (dkR 6) (dkPc g z [.ref (z + 325), .int p0, .int p1] I0) (dkQi g z (fun r I1 => dkF [(326, 326, 0, 4), (326, 326, 11, 11), (326, 326, 15, 17), (327, 327, 0, 4), (328, 328, 0, 4), (329, 329, 0, 4), (330, 330, 0, 4), (331, 331, 0, 4), (332, 332, 0, 4), (333, 333, 0, 5), (334, 334, 0, 5), (335, 335, 0, 5), (336, 336, 0, 8)] I0 I1 ∧ dkOk I1 ∧ ((True ∧ True)))) 0 0 (dkA z) := by
  refine Met.ofW (cc := cX3_personLater) (maxL := 3) (ret := (some .int)) (by decide) rfl ?_
  intro p e s m args below meth c s₁ B hml hv
  obtain ⟨ha, hW, hK, hT⟩ := hv
  have hx := B.exec
  have hb := B.bytes
  have hr := B.returns
  have hts := atoms_spec (ws := wsX3_personLater) B.pre
  have hown : s.vm.findClass RX3 = some m.cls := findClass_of_methodNamed B.named
  have hlocks := B.notSynchronized
  have hS : va_S (dkA z) s.heap s.heap [] := va_S.rf
  have hF : dkF [(326, 326, 0, 4), (326, 326, 11, 11), (326, 326, 15, 17), (327, 327, 0, 4), (328, 328, 0, 4), (329, 329, 0, 4), (330, 330, 0, 4), (331, 331, 0, 4), (332, 332, 0, 4), (333, 333, 0, 5), (334, 334, 0, 5), (335, 335, 0, 5), (336, 336, 0, 8)] I0 I0 := dkF_rf _ _
  have hl := lv_entry ([.ref (z + 325), .int p0, .int p1]) (n := 3) (Nat.le_of_ble_eq_true rfl)
  have hgo : entryFrame m args 3 = entryFrame m ([.ref (z + 325), .int p0, .int p1] : List Value).toArray 3 := by rw [ha]
  rw [hgo, lg_entry_eq]
  generalize (lg_sl ([.ref (z + 325), .int p0, .int p1]) ++ List.replicate (3 - (lg_sl ([.ref (z + 325), .int p0, .int p1])).length) Slot.unset).toArray = ls at hl ⊢
  have hl : lv_has ls 3 [(0, .ref (z + 325)), (1, .int p0), (2, .int p1)] := hl
  refine lv_aload_n hx hb dX3_personLater_0 rfl (lv_at hl 0 rfl) ?_
  refine lv_iload_n hx hb dX3_personLater_1 rfl (lv_at hl 2 rfl) ?_
  refine dk_Vv (As := [.int p1]) (rest := []) ⟨hx, hb, hml, hown, hts⟩ (c_X3_passMinutes_0 l g z I0 p1 dp1 hO) (cwV 1 hts gX3_personLater_X3_passMinutes rfl rfl rfl (by decide +kernel) ⟨Nat.le_of_ble_eq_true rfl, Nat.le_of_ble_eq_true rfl⟩) (dk_at325 hW) rfl hK hT hW hS rfl hl.1 rfl (Nat.le_of_ble_eq_true rfl) dX3_personLater_2 ⟨Nat.zero_le _, Nat.zero_le _⟩ (fun I1 H1 L1 hp1 hW hS => ?_)
  obtain ⟨hF1, hO, hc1⟩ := hp1
  have hF := dkF_call hF hF1 rfl
  refine lv_aload_n hx hb dX3_personLater_5 rfl (lv_at hl 0 rfl) ?_
  refine dk_get (k := 325) hx hb hts iX3_personLater_3 hown hK (dk_at325 hW) rfl 1 (by decide) (hts (.fieldLink RX3 12 "DogKings$Seer" "then" "LDogKings$Town;") (List.mem_of_getElem? (i := 1) rfl)) rfl dX3_personLater_6 ?_
  refine dk_get (k := 326) hx hb hts iX3_personLater_4 hown hK (dk_at326 hW) rfl 7 (by decide) (hts (.fieldLink RX3 32 "DogKings$Town" "personAt" "[I") (List.mem_of_getElem? (i := 2) rfl)) rfl dX3_personLater_9 ?_
  refine lv_iload_n hx hb dX3_personLater_12 rfl (lv_at hl 1 rfl) ?_
  refine dk_ild (k := 329) hx hb hK (dk_at329 hW) (dkN_in (n := 5) dp0 rfl) dX3_personLater_13 ?_
  refine lv_topi (fun v2 ev2 => ?_)
  exact W.iret (v := v2) hx hb hr (fun t ht hW9 => ⟨⟨v2, I1, rfl, ⟨hF, hO, ⟨trivial, trivial⟩⟩, dkW_eq ht hW⟩, hS.F ht⟩) hS.2.2 dX3_personLater_14
set_option maxHeartbeats 4000000 in
set_option maxRecDepth 100000 in
theorem c_X5_goes_0 (l : Launch) (g : dkG) (z : Nat) (I0 : dkI) (p0 : Int32) (p1 : Int32)  (hO : dkOk I0) : Met l yX5_goes wsX5_goes (dkR 7) (dkPc g z [.ref (z + 0), .int p0, .int p1] I0) (dkQi g z (fun r I1 => dkF [(326, 326, 0, 4), (326, 326, 11, 11), (326, 326, 15, 17), (327, 327, 0, 4), (328, 328, 0, 4), (329, 329, 0, 4), (330, 330, 0, 4), (331, 331, 0, 4), (332, 332, 0, 4), (333, 333, 0, 5), (334, 334, 0, 5), (335, 335, 0, 5), (336, 336, 0, 8)] I0 I1 ∧ dkOk I1 ∧ ((True ∧ True)))) 0 0 (dkA z) := by
  refine Met.ofW (cc := cX5_goes) (maxL := 3) (ret := (some .int)) (by decide) rfl ?_
  intro p e s m args below meth c s₁ B hml hv
  obtain ⟨ha, hW, hK, hT⟩ := hv
  have hx := B.exec
  have hb := B.bytes
  have hr := B.returns
  have hts := atoms_spec (ws := wsX5_goes) B.pre
  have hown : s.vm.findClass RX5 = some m.cls := findClass_of_methodNamed B.named
  have hlocks := B.notSynchronized
  have hS : va_S (dkA z) s.heap s.heap [] := va_S.rf
  have hF : dkF [(326, 326, 0, 4), (326, 326, 11, 11), (326, 326, 15, 17), (327, 327, 0, 4), (328, 328, 0, 4), (329, 329, 0, 4), (330, 330, 0, 4), (331, 331, 0, 4), (332, 332, 0, 4), (333, 333, 0, 5), (334, 334, 0, 5), (335, 335, 0, 5), (336, 336, 0, 8)] I0 I0 := dkF_rf _ _
  have hl := lv_entry ([.ref (z + 0), .int p0, .int p1]) (n := 3) (Nat.le_of_ble_eq_true rfl)
  have hgo : entryFrame m args 3 = entryFrame m ([.ref (z + 0), .int p0, .int p1] : List Value).toArray 3 := by rw [ha]
  rw [hgo, lg_entry_eq]
  generalize (lg_sl ([.ref (z + 0), .int p0, .int p1]) ++ List.replicate (3 - (lg_sl ([.ref (z + 0), .int p0, .int p1])).length) Slot.unset).toArray = ls at hl ⊢
  have hl : lv_has ls 3 [(0, .ref (z + 0)), (1, .int p0), (2, .int p1)] := hl
  refine lv_aload_n hx hb dX5_goes_0 rfl (lv_at hl 0 rfl) ?_
  refine lv_iload_n hx hb dX5_goes_1 rfl (lv_at hl 1 rfl) ?_
  refine dk_Vi (As := [.int p0]) (rest := []) ⟨hx, hb, hml, hown, hts⟩ (c_X5_isPerson_0 l g z I0 p0 hO) (cwV 1 hts gX5_goes_X5_isPerson rfl rfl rfl (by decide +kernel) ⟨Nat.le_of_ble_eq_true rfl, Nat.le_of_ble_eq_true rfl⟩) (dk_at0 hW) rfl hK hT hW hS rfl hl.1 rfl (Nat.le_of_ble_eq_true rfl) dX5_goes_2 ⟨Nat.zero_le _, Nat.zero_le _⟩ (fun v1 I1 H1 L1 hp1 hW hS => ?_)
  obtain ⟨hF1, hO, hc1⟩ := hp1
  have hF := dkF_call hF hF1 rfl
  rcases hc1 with ⟨dv1, -⟩ | hc1
  ·
    refine lv_if_eq (tgt := 29) hx hb dX5_goes_5 (by decide) (fun c2 => ?_) (fun c2 => ?_)
    ·
      refine lv_ldc (v := (-1000001)) hx hb hown (hts (.constant RX5 70 (-1000001)) (List.mem_of_getElem? (i := 2) rfl)) dX5_goes_29 ?_
      exact W.iret (v := (-1000001)) hx hb hr (fun t ht hW9 => ⟨⟨(-1000001), I1, rfl, ⟨hF, hO, ⟨trivial, trivial⟩⟩, dkW_eq ht hW⟩, hS.F ht⟩) hS.2.2 dX5_goes_31
    ·
      exact (dkN_nil (show dkN [] v1 from dkN_ne1 (0) dv1 (dkN_lit (x := 0) (0) rfl) (dk_ne c2) rfl)).elim
  ·
    obtain ⟨dv1, a1_0, f1_25_4, -⟩ := hc1
    have d3 : dkN [(0, 4)] p0 := dkN_eq1 (dkN_top p0) a1_0 rfl rfl
    refine lv_if_eq (tgt := 29) hx hb dX5_goes_5 (by decide) (fun c4 => ?_) (fun c4 => ?_)
    ·
      exact (dkN_nil (show dkN [] v1 from dkN_eq1 dv1 (dkN_lit (x := 0) (0) rfl) (congrArg Int32.toInt c4) rfl)).elim
    ·
      refine lv_iload_n hx hb dX5_goes_8 rfl (lv_at hl 2 rfl) ?_
      refine lv_bipush (v := 60) hx hb dX5_goes_9 (by decide) ?_
      refine dk_Si (As := [.int p1, .int 60]) (rest := []) ⟨hx, hb, hml, hown, hts⟩ (c_X5_isUpTo_4 l g z I1 p1 60 (dkN_lit (x := 60) (60) rfl) hO) (va_cwS 2 hts gX5_goes_X5_isUpTo rfl rfl rfl (by decide +kernel) ⟨Nat.le_of_ble_eq_true rfl, Nat.le_of_ble_eq_true rfl⟩) hK hT hW hS rfl hl.1 rfl (Nat.le_of_ble_eq_true rfl) dX5_goes_11 ⟨Nat.zero_le _, Nat.zero_le _⟩ (fun v5 I5 H5 L5 hp5 hW hS => ?_)
      obtain ⟨hF5, hO, hc5⟩ := hp5
      have hF := dkF_call hF hF5 rfl
      rcases hc5 with ⟨dv5, a5_0, -⟩ | hc5
      ·
        have d6 : dkN [(-2147483648, -1), (61, 2147483647)] p1 := dkN_eq1 (dkN_top p1) a5_0 rfl rfl
        refine lv_if_eq (tgt := 29) hx hb dX5_goes_14 (by decide) (fun c7 => ?_) (fun c7 => ?_)
        ·
          refine lv_ldc (v := (-1000001)) hx hb hown (hts (.constant RX5 70 (-1000001)) (List.mem_of_getElem? (i := 2) rfl)) dX5_goes_29 ?_
          exact W.iret (v := (-1000001)) hx hb hr (fun t ht hW9 => ⟨⟨(-1000001), I5, rfl, ⟨hF, hO, ⟨trivial, trivial⟩⟩, dkW_eq ht hW⟩, hS.F ht⟩) hS.2.2 dX5_goes_31
        ·
          exact (dkN_nil (show dkN [] v5 from dkN_ne1 (0) dv5 (dkN_lit (x := 0) (0) rfl) (dk_ne c7) rfl)).elim
      ·
        obtain ⟨dv5, a5_0, -⟩ := hc5
        have d8 : dkN [(0, 60)] p1 := dkN_eq1 (dkN_top p1) a5_0 rfl rfl
        refine lv_if_eq (tgt := 29) hx hb dX5_goes_14 (by decide) (fun c9 => ?_) (fun c9 => ?_)
        ·
          exact (dkN_nil (show dkN [] v5 from dkN_eq1 dv5 (dkN_lit (x := 0) (0) rfl) (congrArg Int32.toInt c9) rfl)).elim
        ·
          refine lv_aload_n hx hb dX5_goes_17 rfl (lv_at hl 0 rfl) ?_
          refine dk_get (k := 0) hx hb hts iX5_goes_5 hown hK (dk_at0 hW) rfl 8 (by decide) (hts (.fieldLink RX5 51 "DogKings" "seer" "LDogKings$Seer;") (List.mem_of_getElem? (i := 1) rfl)) rfl dX5_goes_18 ?_
          refine lv_iload_n hx hb dX5_goes_21 rfl (lv_at hl 1 rfl) ?_
          refine lv_iload_n hx hb dX5_goes_22 rfl (lv_at hl 2 rfl) ?_
          refine dk_Vi (As := [.int p0, .int p1]) (rest := []) ⟨hx, hb, hml, hown, hts⟩ (c_X3_personLater_0 l g z I5 p0 p1 d3 d8 hO) (cwV 2 hts gX5_goes_X3_personLater rfl rfl rfl (by decide +kernel) ⟨Nat.le_of_ble_eq_true rfl, Nat.le_of_ble_eq_true rfl⟩) (dk_at325 hW) rfl hK hT hW hS rfl hl.1 rfl (Nat.le_of_ble_eq_true rfl) dX5_goes_23 ⟨Nat.zero_le _, Nat.zero_le _⟩ (fun v10 I10 H10 L10 hp10 hW hS => ?_)
          obtain ⟨hF10, hO, hc10⟩ := hp10
          have hF := dkF_call hF hF10 rfl
          obtain ⟨_, -⟩ := hc10
          refine lv_goto (tgt := 31) hx hb dX5_goes_26 (by decide) ?_
          exact W.iret (v := v10) hx hb hr (fun t ht hW9 => ⟨⟨v10, I10, rfl, ⟨hF, hO, ⟨trivial, trivial⟩⟩, dkW_eq ht hW⟩, hS.F ht⟩) hS.2.2 dX5_goes_31
set_option maxHeartbeats 4000000 in
set_option maxRecDepth 100000 in
theorem c_X6_goes_0 (l : Launch) (g : dkG) (z : Nat) (I0 : dkI) (p0 : Int32) (p1 : Int32)  (hO : dkOk I0) : Met l yX6_goes wsX6_goes (dkR 7) (dkPc g z [.ref (z + 340), .int p0, .int p1] I0) (dkQi g z (fun r I1 => dkF [(348, 348, 0, 53)] I0 I1 ∧ dkOk I1 ∧ ((True ∧ True)))) 0 0 (dkA z) := by
  refine Met.ofW (cc := cX6_goes) (maxL := 3) (ret := (some .int)) (by decide) rfl ?_
  intro p e s m args below meth c s₁ B hml hv
  obtain ⟨ha, hW, hK, hT⟩ := hv
  have hx := B.exec
  have hb := B.bytes
  have hr := B.returns
  have hts := atoms_spec (ws := wsX6_goes) B.pre
  have hown : s.vm.findClass RX6 = some m.cls := findClass_of_methodNamed B.named
  have hlocks := B.notSynchronized
  have hS : va_S (dkA z) s.heap s.heap [] := va_S.rf
  have hF : dkF [(348, 348, 0, 53)] I0 I0 := dkF_rf _ _
  have hl := lv_entry ([.ref (z + 340), .int p0, .int p1]) (n := 3) (Nat.le_of_ble_eq_true rfl)
  have hgo : entryFrame m args 3 = entryFrame m ([.ref (z + 340), .int p0, .int p1] : List Value).toArray 3 := by rw [ha]
  rw [hgo, lg_entry_eq]
  generalize (lg_sl ([.ref (z + 340), .int p0, .int p1]) ++ List.replicate (3 - (lg_sl ([.ref (z + 340), .int p0, .int p1])).length) Slot.unset).toArray = ls at hl ⊢
  have hl : lv_has ls 3 [(0, .ref (z + 340)), (1, .int p0), (2, .int p1)] := hl
  refine lv_aload_n hx hb dX6_goes_0 rfl (lv_at hl 0 rfl) ?_
  refine lv_iload_n hx hb dX6_goes_1 rfl (lv_at hl 1 rfl) ?_
  refine dk_Vi (As := [.int p0]) (rest := []) ⟨hx, hb, hml, hown, hts⟩ (c_X6_isPerson_0 l g z I0 p0 hO) (cwV 1 hts gX6_goes_X6_isPerson rfl rfl rfl (by decide +kernel) ⟨Nat.le_of_ble_eq_true rfl, Nat.le_of_ble_eq_true rfl⟩) (dk_at340 hW) rfl hK hT hW hS rfl hl.1 rfl (Nat.le_of_ble_eq_true rfl) dX6_goes_2 ⟨Nat.zero_le _, Nat.zero_le _⟩ (fun v1 I1 H1 L1 hp1 hW hS => ?_)
  obtain ⟨hF1, hO, hc1⟩ := hp1
  have hF := dkF_call hF hF1 rfl
  rcases hc1 with ⟨dv1, -⟩ | hc1
  ·
    refine lv_if_eq (tgt := 18) hx hb dX6_goes_5 (by decide) (fun c2 => ?_) (fun c2 => ?_)
    ·
      refine lv_ldc (v := (-1000001)) hx hb hown (hts (.constant RX6 64 (-1000001)) (List.mem_of_getElem? (i := 1) rfl)) dX6_goes_18 ?_
      exact W.iret (v := (-1000001)) hx hb hr (fun t ht hW9 => ⟨⟨(-1000001), I1, rfl, ⟨hF, hO, ⟨trivial, trivial⟩⟩, dkW_eq ht hW⟩, hS.F ht⟩) hS.2.2 dX6_goes_20
    ·
      exact (dkN_nil (show dkN [] v1 from dkN_ne1 (0) dv1 (dkN_lit (x := 0) (0) rfl) (dk_ne c2) rfl)).elim
  ·
    obtain ⟨dv1, a1_0, -⟩ := hc1
    have d3 : dkN [(0, 4)] p0 := dkN_eq1 (dkN_top p0) a1_0 rfl rfl
    refine lv_if_eq (tgt := 18) hx hb dX6_goes_5 (by decide) (fun c4 => ?_) (fun c4 => ?_)
    ·
      exact (dkN_nil (show dkN [] v1 from dkN_eq1 dv1 (dkN_lit (x := 0) (0) rfl) (congrArg Int32.toInt c4) rfl)).elim
    ·
      refine lv_iload_n hx hb dX6_goes_8 rfl (lv_at hl 2 rfl) ?_
      refine lv_iconst (v := 0) hx hb dX6_goes_9 (by decide) ?_
      refine lv_bipush (v := 60) hx hb dX6_goes_10 (by decide) ?_
      refine dk_Si (As := [.int p1, .int 0, .int 60]) (rest := []) ⟨hx, hb, hml, hown, hts⟩ (c_X6_in_14 l g z I1 p1 0 60 (dkN_lit (x := 0) (0) rfl) (dkN_lit (x := 60) (60) rfl) hO) (va_cwS 3 hts gX6_goes_X6_in rfl rfl rfl (by decide +kernel) ⟨Nat.le_of_ble_eq_true rfl, Nat.le_of_ble_eq_true rfl⟩) hK hT hW hS rfl hl.1 rfl (Nat.le_of_ble_eq_true rfl) dX6_goes_12 ⟨Nat.zero_le _, Nat.zero_le _⟩ (fun v5 I5 H5 L5 hp5 hW hS => ?_)
      obtain ⟨hF5, hO, hc5⟩ := hp5
      have hF := dkF_call hF hF5 rfl
      rcases hc5 with ⟨dv5, a5_0, -⟩ | hc5
      ·
        have d6 : dkN [(-2147483648, -1), (61, 2147483647)] p1 := dkN_eq1 (dkN_top p1) a5_0 rfl rfl
        refine lv_if_ne (tgt := 21) hx hb dX6_goes_15 (by decide) (fun c7 => ?_) (fun c7 => ?_)
        ·
          exact (dkN_nil (show dkN [] v5 from dkN_ne1 (0) dv5 (dkN_lit (x := 0) (0) rfl) (dk_ne c7) rfl)).elim
        ·
          refine lv_ldc (v := (-1000001)) hx hb hown (hts (.constant RX6 64 (-1000001)) (List.mem_of_getElem? (i := 1) rfl)) dX6_goes_18 ?_
          exact W.iret (v := (-1000001)) hx hb hr (fun t ht hW9 => ⟨⟨(-1000001), I5, rfl, ⟨hF, hO, ⟨trivial, trivial⟩⟩, dkW_eq ht hW⟩, hS.F ht⟩) hS.2.2 dX6_goes_20
      ·
        obtain ⟨dv5, a5_0, -⟩ := hc5
        have d8 : dkN [(0, 60)] p1 := dkN_eq1 (dkN_top p1) a5_0 rfl rfl
        refine lv_if_ne (tgt := 21) hx hb dX6_goes_15 (by decide) (fun c9 => ?_) (fun c9 => ?_)
        ·
          refine lv_aload_n hx hb dX6_goes_21 rfl (lv_at hl 0 rfl) ?_
          refine dk_get (k := 340) hx hb hts iX6_goes_6 hown hK (dk_at340 hW) rfl 13 (by decide) (hts (.fieldLink RX6 25 "DogKingsModel" "now" "[I") (List.mem_of_getElem? (i := 2) rfl)) rfl dX6_goes_22 ?_
          refine lv_iconst (v := 0) hx hb dX6_goes_25 (by decide) ?_
          refine lv_aload_n hx hb dX6_goes_26 rfl (lv_at hl 0 rfl) ?_
          refine dk_get (k := 340) hx hb hts iX6_goes_6 hown hK (dk_at340 hW) rfl 15 (by decide) (hts (.fieldLink RX6 31 "DogKingsModel" "tried" "[I") (List.mem_of_getElem? (i := 3) rfl)) rfl dX6_goes_27 ?_
          refine lv_iconst (v := 0) hx hb dX6_goes_30 (by decide) ?_
          refine dk_Sv (As := [.ref (z + 346), .int 0, .ref (z + 348), .int 0]) (rest := []) ⟨hx, hb, hml, hown, hts⟩ (c_X6_copies l g z I5 (kf := 346) (kt := 348) (nf := 54) (nt := 54) 0 0 (A := 0) (B := 0) rfl rfl (by decide) (by decide) (by decide) (by decide) (by decide) (by decide) (fun _ => rfl) (fun _ => rfl)) (va_cwS 4 hts gX6_goes_X6_copies rfl rfl rfl (by decide +kernel) ⟨Nat.le_of_ble_eq_true rfl, Nat.le_of_ble_eq_true rfl⟩) hK hT hW hS rfl hl.1 rfl (Nat.le_of_ble_eq_true rfl) dX6_goes_31 ⟨Nat.zero_le _, Nat.zero_le _⟩ (fun I10 H10 L10 eI10 hW hS => ?_)
          have eI10 : I10 = dkCp I5 346 348 0 0 := eI10
          have hO := dkO_cp hO eI10 (by decide) (by decide) (by decide) (by decide)
          have hF := dkF_cp (lo := 0) (hi := 0) hF eI10 ⟨by decide, by decide⟩ rfl
          refine lv_aload_n hx hb dX6_goes_34 rfl (lv_at hl 0 rfl) ?_
          refine lv_iload_n hx hb dX6_goes_35 rfl (lv_at hl 2 rfl) ?_
          refine dk_Vv (As := [.int p1]) (rest := []) ⟨hx, hb, hml, hown, hts⟩ (c_X6_goesOn_0 l g z I10 p1 d8 hO) (cwV 1 hts gX6_goes_X6_goesOn rfl rfl rfl (by decide +kernel) ⟨Nat.le_of_ble_eq_true rfl, Nat.le_of_ble_eq_true rfl⟩) (dk_at340 hW) rfl hK hT hW hS rfl hl.1 rfl (Nat.le_of_ble_eq_true rfl) dX6_goes_36 ⟨Nat.zero_le _, Nat.zero_le _⟩ (fun I11 H11 L11 hp11 hW hS => ?_)
          obtain ⟨hF11, hO, hc11⟩ := hp11
          have hF := dkF_call hF hF11 rfl
          refine lv_aload_n hx hb dX6_goes_39 rfl (lv_at hl 0 rfl) ?_
          refine dk_get (k := 340) hx hb hts iX6_goes_6 hown hK (dk_at340 hW) rfl 15 (by decide) (hts (.fieldLink RX6 31 "DogKingsModel" "tried" "[I") (List.mem_of_getElem? (i := 3) rfl)) rfl dX6_goes_40 ?_
          refine lv_bipush (v := 6) hx hb dX6_goes_43 (by decide) ?_
          refine lv_bipush (v := 6) hx hb dX6_goes_45 (by decide) ?_
          refine lv_iload_n hx hb dX6_goes_47 rfl (lv_at hl 1 rfl) ?_
          refine lv_imul hx hb dX6_goes_48 ?_
          refine lv_topi (fun v12 ev12 => ?_)
          have dv12 : dkN [(0, 24)] v12 := by rw [ev12]; exact dkN_mulL 6 (by decide) (dkN_lit (x := 6) (6) rfl) d3 rfl
          refine lv_iadd hx hb dX6_goes_49 ?_
          refine lv_topi (fun v13 ev13 => ?_)
          have dv13 : dkN [(6, 30)] v13 := by rw [ev13]; exact dkN_add (dkN_lit (x := 6) (6) rfl) dv12 rfl
          refine lv_iconst (v := 4) hx hb dX6_goes_50 (by decide) ?_
          refine lv_iadd hx hb dX6_goes_51 ?_
          refine lv_topi (fun v14 ev14 => ?_)
          have dv14 : dkN [(10, 34)] v14 := by rw [ev14]; exact dkN_add dv13 (dkN_lit (x := 4) (4) rfl) rfl
          refine dk_ild (k := 348) hx hb hK (dk_at348 hW) (dkN_in (n := 54) dv14 rfl) dX6_goes_52 ?_
          refine lv_topi (fun v15 ev15 => ?_)
          exact W.iret (v := v15) hx hb hr (fun t ht hW9 => ⟨⟨v15, I11, rfl, ⟨hF, hO, ⟨trivial, trivial⟩⟩, dkW_eq ht hW⟩, hS.F ht⟩) hS.2.2 dX6_goes_53
        ·
          exact (dkN_nil (show dkN [] v5 from dkN_eq1 dv5 (dkN_lit (x := 0) (0) rfl) (congrArg Int32.toInt c9) rfl)).elim
set_option maxHeartbeats 4000000 in
set_option maxRecDepth 100000 in
theorem c_X4_runToBell_0 (l : Launch) (g : dkG) (z : Nat) (I0 : dkI) (t0 : Nat) (ht0 : dkT t0)  (hO : dkOk I0) : Met l yX4_runToBell wsX4_runToBell (dkR 4) (dkPc g z [.ref (z + t0)] I0) (dkQv g z (fun I1 => dkF [(t0, t0, 3, 3), (t0 + 3, t0 + 3, 0, 4), (t0 + 5, t0 + 5, 0, 4), (t0 + 9, t0 + 9, 0, 5), (t0 + 10, t0 + 10, 0, 8)] I0 I1 ∧ dkOk I1 ∧ ((True)))) 0 0 (dkA z) := by
  refine Met.ofW (cc := cX4_runToBell) (maxL := 2) (ret := none) (by decide) rfl ?_
  intro p e s m args below meth c s₁ B hml hv
  obtain ⟨ha, hW, hK, hT⟩ := hv
  have hx := B.exec
  have hb := B.bytes
  have hr := B.returns
  have hts := atoms_spec (ws := wsX4_runToBell) B.pre
  have hown : s.vm.findClass RX4 = some m.cls := findClass_of_methodNamed B.named
  have hlocks := B.notSynchronized
  have hS : va_S (dkA z) s.heap s.heap [] := va_S.rf
  have hF : dkF [(t0, t0, 3, 3), (t0 + 3, t0 + 3, 0, 4), (t0 + 5, t0 + 5, 0, 4), (t0 + 9, t0 + 9, 0, 5), (t0 + 10, t0 + 10, 0, 8)] I0 I0 := dkF_rf _ _
  have hl := lv_entry ([.ref (z + t0)]) (n := 2) (Nat.le_of_ble_eq_true rfl)
  have hgo : entryFrame m args 2 = entryFrame m ([.ref (z + t0)] : List Value).toArray 2 := by rw [ha]
  rw [hgo, lg_entry_eq]
  generalize (lg_sl ([.ref (z + t0)]) ++ List.replicate (2 - (lg_sl ([.ref (z + t0)])).length) Slot.unset).toArray = ls at hl ⊢
  have hl : lv_has ls 2 [(0, .ref (z + t0))] := hl
  have C10 : ∀ (n : Nat), ∀ (I : dkI) (H : Heap) (locs : List Loc) (ls : Array Slot) (x10_1 : Int32), (x10_1.toInt - (-2147483648)).toNat < n → dkW g z I H → va_S (dkA z) s.heap H locs → dkF [(t0, t0, 3, 3), (t0 + 3, t0 + 3, 0, 4), (t0 + 5, t0 + 5, 0, 4), (t0 + 9, t0 + 9, 0, 5), (t0 + 10, t0 + 10, 0, 8)] I0 I → dkOk I → lv_has ls 2 [(0, .ref (z + t0)), (1, .int x10_1)] → W p l e (headSpec wsX4_runToBell (dkR 4)).room s m args below meth c H locs 0 0 (MQ below (dkQv g z (fun I1 => dkF [(t0, t0, 3, 3), (t0 + 3, t0 + 3, 0, 4), (t0 + 5, t0 + 5, 0, 4), (t0 + 9, t0 + 9, 0, 5), (t0 + 10, t0 + 10, 0, 8)] I0 I1 ∧ dkOk I1 ∧ ((True)))) args s 0 0 (dkA z)) (F0 m 10 ls []) := by
    intro n
    induction n with
    | zero => intro I H locs ls x10_1 hn; exact absurd hn (Nat.not_lt_zero _)
    | succ n ih10 =>
      intro I10_ H locs ls x10_1 hn10 hW hS hF_10 hO hl
      have hF := hF_10
      refine lv_iload_n hx hb dX4_runToBell_10 rfl (lv_at hl 1 rfl) ?_
      refine lv_if_le (tgt := 24) hx hb dX4_runToBell_11 (by decide) (fun c1 => ?_) (fun c1 => ?_)
      ·
        have d2 : dkN [(-2147483648, 0)] x10_1 := dkN_le1 0 (dkN_top x10_1) (dkN_lit (x := 0) (0) rfl) (dkc_le c1) rfl
        exact W.vret hx hb hr (fun t ht hW9 => ⟨⟨I10_, rfl, ⟨hF, hO, trivial⟩, dkW_eq ht hW⟩, hS.F ht⟩) hS.2.2 dX4_runToBell_24
      ·
        have d3 : dkN [(1, 2147483647)] x10_1 := dkN_le2 1 (dkN_lit (x := 0) (0) rfl) (dkN_top x10_1) (dkc_nle c1) rfl
        refine lv_aload_n hx hb dX4_runToBell_14 rfl (lv_at hl 0 rfl) ?_
        refine dk_Vv (As := []) (rest := []) ⟨hx, hb, hml, hown, hts⟩ (c_X4_stir_0 l g z I10_ t0 ht0 hO) (cwV 0 hts gX4_runToBell_X4_stir rfl rfl rfl (by decide +kernel) ⟨Nat.le_of_ble_eq_true rfl, Nat.le_of_ble_eq_true rfl⟩) (dk_aT0 ht0 hW) rfl hK hT hW hS rfl hl.1 rfl (Nat.le_of_ble_eq_true rfl) dX4_runToBell_15 ⟨Nat.zero_le _, Nat.zero_le _⟩ (fun I4 H4 L4 hp4 hW hS => ?_)
        obtain ⟨hF4, hO, hc4⟩ := hp4
        have hF := dkF_callP hF hF4 (dkSub_cons (i := 0) rfl (Nat.le_refl _) (Nat.le_refl _) (by decide) (by decide) (dkSub_cons (i := 1) rfl (Nat.le_refl _) (Nat.le_refl _) (by decide) (by decide) (dkSub_cons (i := 2) rfl (Nat.le_refl _) (Nat.le_refl _) (by decide) (by decide) (dkSub_cons (i := 3) rfl (Nat.le_refl _) (Nat.le_refl _) (by decide) (by decide) (dkSub_cons (i := 4) rfl (Nat.le_refl _) (Nat.le_refl _) (by decide) (by decide) dkSub_nil)))))
        obtain ⟨v5, ev5⟩ : ∃ y : Int32, y = x10_1 + (-1) := ⟨_, rfl⟩
        have dv5 : dkN [(0, 2147483646)] v5 := by rw [ev5]; exact dkN_add d3 (dkN_lit (x := (-1)) (-1) rfl) rfl
        refine lv_iinc (v := v5) (lv' := [(1, .int v5), (0, .ref (z + t0))]) hx hb dX4_runToBell_18 hl (k := 1) rfl (by rw [ev5]; rfl) (by decide) rfl (fun ls hl => ?_)
        refine lv_goto (tgt := 10) hx hb dX4_runToBell_21 (by decide) ?_
        exact ih10 I4 _ _ ls v5 (dk_nearD hn10 (by rw [ev5]; exact dk_dec d3 rfl) (dkN_gt d3 rfl)) hW hS hF hO  (lv_sub hl [1, 0] rfl)
  refine lv_aload_n hx hb dX4_runToBell_0 rfl (lv_at hl 0 rfl) ?_
  refine dk_get (k := t0) hx hb hts iX4_runToBell_4 hown hK (dk_aT0 ht0 hW) rfl 1 (by decide) (hts (.fieldLink RX4 46 "DogKings$Town" "fridayLasts" "I") (List.mem_of_getElem? (i := 1) rfl)) rfl dX4_runToBell_1 ?_
  refine lv_topi (fun v6 ev6 => ?_)
  have dv6 : dkN [(0, 30)] v6 := by rw [ev6]; exact (dkO_at hO ht0 (c := 0) (by decide) 1)
  refine lv_aload_n hx hb dX4_runToBell_4 rfl (lv_at hl 0 rfl) ?_
  refine dk_get (k := t0) hx hb hts iX4_runToBell_4 hown hK (dk_aT0 ht0 hW) rfl 3 (by decide) (hts (.fieldLink RX4 52 "DogKings$Town" "minute" "I") (List.mem_of_getElem? (i := 2) rfl)) rfl dX4_runToBell_5 ?_
  refine lv_topi (fun v7 ev7 => ?_)
  refine lv_isub hx hb dX4_runToBell_8 ?_
  refine lv_topi (fun v8 ev8 => ?_)
  refine lv_istore_n (lv' := [(1, .int v8), (0, .ref (z + t0))]) hx hb dX4_runToBell_9 rfl hl (by decide) rfl (fun ls hl => ?_)
  exact C10 _ I0 _ _ ls v8 (Nat.lt_succ_self _) hW hS hF hO  (lv_sub hl [1, 0] rfl)
set_option maxHeartbeats 4000000 in
set_option maxRecDepth 100000 in
theorem c_X3_kingOfBell_0 (l : Launch) (g : dkG) (z : Nat) (I0 : dkI) (p0 : Int32) (dp0 : dkN [(1, 9)] p0)  (hO : dkOk I0) : Met l yX3_kingOfBell wsX3_kingOfBell (dkR 5) (dkPc g z [.ref (z + 325), .int p0] I0) (dkQi g z (fun r I1 => dkF [(326, 326, 0, 4), (326, 326, 11, 11), (326, 326, 15, 17), (327, 327, 0, 4), (328, 328, 0, 4), (329, 329, 0, 4), (330, 330, 0, 4), (331, 331, 0, 4), (332, 332, 0, 4), (333, 333, 0, 5), (334, 334, 0, 5), (335, 335, 0, 5), (336, 336, 0, 8)] I0 I1 ∧ dkOk I1 ∧ ((dkN [(-1000000, -1000000), (0, 4)] r ∧ True)))) 0 0 (dkA z) := by
  refine Met.ofW (cc := cX3_kingOfBell) (maxL := 4) (ret := (some .int)) (by decide) rfl ?_
  intro p e s m args below meth c s₁ B hml hv
  obtain ⟨ha, hW, hK, hT⟩ := hv
  have hx := B.exec
  have hb := B.bytes
  have hr := B.returns
  have hts := atoms_spec (ws := wsX3_kingOfBell) B.pre
  have hown : s.vm.findClass RX3 = some m.cls := findClass_of_methodNamed B.named
  have hlocks := B.notSynchronized
  have hS : va_S (dkA z) s.heap s.heap [] := va_S.rf
  have hF : dkF [(326, 326, 0, 4), (326, 326, 11, 11), (326, 326, 15, 17), (327, 327, 0, 4), (328, 328, 0, 4), (329, 329, 0, 4), (330, 330, 0, 4), (331, 331, 0, 4), (332, 332, 0, 4), (333, 333, 0, 5), (334, 334, 0, 5), (335, 335, 0, 5), (336, 336, 0, 8)] I0 I0 := dkF_rf _ _
  have hl := lv_entry ([.ref (z + 325), .int p0]) (n := 4) (Nat.le_of_ble_eq_true rfl)
  have hgo : entryFrame m args 4 = entryFrame m ([.ref (z + 325), .int p0] : List Value).toArray 4 := by rw [ha]
  rw [hgo, lg_entry_eq]
  generalize (lg_sl ([.ref (z + 325), .int p0]) ++ List.replicate (4 - (lg_sl ([.ref (z + 325), .int p0])).length) Slot.unset).toArray = ls at hl ⊢
  have hl : lv_has ls 4 [(0, .ref (z + 325)), (1, .int p0)] := hl
  have C16 : ∀ (n : Nat), ∀ (I : dkI) (H : Heap) (locs : List Loc) (ls : Array Slot) (x16_2 : Int32) (x16_3 : Int32), (9 - x16_3.toInt).toNat < n → dkW g z I H → va_S (dkA z) s.heap H locs → dkF [(326, 326, 0, 4), (326, 326, 11, 11), (326, 326, 15, 17), (327, 327, 0, 4), (328, 328, 0, 4), (329, 329, 0, 4), (330, 330, 0, 4), (331, 331, 0, 4), (332, 332, 0, 4), (333, 333, 0, 5), (334, 334, 0, 5), (335, 335, 0, 5), (336, 336, 0, 8)] I0 I → dkOk I → dkN [(-1000000, -1000000), (0, 4)] x16_2 → dkN [(0, 9)] x16_3 → lv_has ls 4 [(0, .ref (z + 325)), (1, .int p0), (2, .int x16_2), (3, .int x16_3)] → W p l e (headSpec wsX3_kingOfBell (dkR 5)).room s m args below meth c H locs 0 0 (MQ below (dkQi g z (fun r I1 => dkF [(326, 326, 0, 4), (326, 326, 11, 11), (326, 326, 15, 17), (327, 327, 0, 4), (328, 328, 0, 4), (329, 329, 0, 4), (330, 330, 0, 4), (331, 331, 0, 4), (332, 332, 0, 4), (333, 333, 0, 5), (334, 334, 0, 5), (335, 335, 0, 5), (336, 336, 0, 8)] I0 I1 ∧ dkOk I1 ∧ ((dkN [(-1000000, -1000000), (0, 4)] r ∧ True)))) args s 0 0 (dkA z)) (F0 m 16 ls []) := by
    intro n
    induction n with
    | zero => intro I H locs ls x16_2 x16_3 hn; exact absurd hn (Nat.not_lt_zero _)
    | succ n ih16 =>
      intro I16_ H locs ls x16_2 x16_3 hn16 hW hS hF_16 hO k16_0 k16_1 hl
      have hF := hF_16
      refine lv_iload_n hx hb dX3_kingOfBell_16 rfl (lv_at hl 3 rfl) ?_
      refine lv_iload_n hx hb dX3_kingOfBell_17 rfl (lv_at hl 1 rfl) ?_
      refine lv_icmp_ge (tgt := 42) hx hb dX3_kingOfBell_18 (by decide) (fun c1 => ?_) (fun c1 => ?_)
      ·
        have d2 : dkN [(1, 9)] x16_3 := dkN_le2 0 dp0 k16_1 (dkc_le c1) rfl
        refine lv_iload_n hx hb dX3_kingOfBell_42 rfl (lv_at hl 2 rfl) ?_
        exact W.iret (v := x16_2) hx hb hr (fun t ht hW9 => ⟨⟨x16_2, I16_, rfl, ⟨hF, hO, ⟨dkN_sub k16_0 rfl, trivial⟩⟩, dkW_eq ht hW⟩, hS.F ht⟩) hS.2.2 dX3_kingOfBell_43
      ·
        have d3 : dkN [(0, 8)] x16_3 := dkN_le1 1 k16_1 dp0 (dkc_nle c1) rfl
        refine lv_aload_n hx hb dX3_kingOfBell_21 rfl (lv_at hl 0 rfl) ?_
        refine dk_get (k := 325) hx hb hts iX3_kingOfBell_3 hown hK (dk_at325 hW) rfl 1 (by decide) (hts (.fieldLink RX3 12 "DogKings$Seer" "then" "LDogKings$Town;") (List.mem_of_getElem? (i := 1) rfl)) rfl dX3_kingOfBell_22 ?_
        refine dk_Vv (As := []) (rest := []) ⟨hx, hb, hml, hown, hts⟩ (c_X4_runToBell_0 l g z I16_ (326) (by unfold dkT; omega) hO) (cwV 0 hts gX3_kingOfBell_X4_runToBell rfl rfl rfl (by decide +kernel) ⟨Nat.le_of_ble_eq_true rfl, Nat.le_of_ble_eq_true rfl⟩) (dk_at326 hW) rfl hK hT hW hS rfl hl.1 rfl (Nat.le_of_ble_eq_true rfl) dX3_kingOfBell_25 ⟨Nat.zero_le _, Nat.zero_le _⟩ (fun I4 H4 L4 hp4 hW hS => ?_)
        obtain ⟨hF4, hO, hc4⟩ := hp4
        have hF := dkF_call hF hF4 rfl
        refine lv_aload_n hx hb dX3_kingOfBell_28 rfl (lv_at hl 0 rfl) ?_
        refine dk_get (k := 325) hx hb hts iX3_kingOfBell_3 hown hK (dk_at325 hW) rfl 1 (by decide) (hts (.fieldLink RX3 12 "DogKings$Seer" "then" "LDogKings$Town;") (List.mem_of_getElem? (i := 1) rfl)) rfl dX3_kingOfBell_29 ?_
        refine dk_Vi (As := []) (rest := []) ⟨hx, hb, hml, hown, hts⟩ (c_X4_ring_0 l g z I4 (326) (by unfold dkT; omega) hO) (cwV 0 hts gX3_kingOfBell_X4_ring rfl rfl rfl (by decide +kernel) ⟨Nat.le_of_ble_eq_true rfl, Nat.le_of_ble_eq_true rfl⟩) (dk_at326 hW) rfl hK hT hW hS rfl hl.1 rfl (Nat.le_of_ble_eq_true rfl) dX3_kingOfBell_32 ⟨Nat.zero_le _, Nat.zero_le _⟩ (fun v5 I5 H5 L5 hp5 hW hS => ?_)
        obtain ⟨hF5, hO, hc5⟩ := hp5
        have hF := dkF_call hF hF5 rfl
        obtain ⟨dv5, f5_326_3, -⟩ := hc5
        refine lv_istore_n (lv' := [(2, .int v5), (0, .ref (z + 325)), (1, .int p0), (3, .int x16_3)]) hx hb dX3_kingOfBell_35 rfl hl (by decide) rfl (fun ls hl => ?_)
        obtain ⟨v6, ev6⟩ : ∃ y : Int32, y = x16_3 + 1 := ⟨_, rfl⟩
        have dv6 : dkN [(1, 9)] v6 := by rw [ev6]; exact dkN_add d3 (dkN_lit (x := 1) (1) rfl) rfl
        refine lv_iinc (v := v6) (lv' := [(3, .int v6), (2, .int v5), (0, .ref (z + 325)), (1, .int p0)]) hx hb dX3_kingOfBell_36 hl (k := 3) rfl (by rw [ev6]; rfl) (by decide) rfl (fun ls hl => ?_)
        refine lv_goto (tgt := 16) hx hb dX3_kingOfBell_39 (by decide) ?_
        exact ih16 I5 _ _ ls v5 v6 (dk_near hn16 (by rw [ev6]; exact dk_inc d3 rfl) (dkN_lt d3 rfl)) hW hS hF hO (dkN_sub dv5 rfl) (dkN_sub dv6 rfl) (lv_sub hl [2, 3, 1, 0] rfl)
  refine lv_aload_n hx hb dX3_kingOfBell_0 rfl (lv_at hl 0 rfl) ?_
  refine dk_get (k := 325) hx hb hts iX3_kingOfBell_3 hown hK (dk_at325 hW) rfl 1 (by decide) (hts (.fieldLink RX3 12 "DogKings$Seer" "then" "LDogKings$Town;") (List.mem_of_getElem? (i := 1) rfl)) rfl dX3_kingOfBell_1 ?_
  refine lv_aload_n hx hb dX3_kingOfBell_4 rfl (lv_at hl 0 rfl) ?_
  refine dk_get (k := 325) hx hb hts iX3_kingOfBell_3 hown hK (dk_at325 hW) rfl 0 (by decide) (hts (.fieldLink RX3 22 "DogKings$Seer" "now" "LDogKings$Town;") (List.mem_of_getElem? (i := 2) rfl)) rfl dX3_kingOfBell_5 ?_
  refine dk_Vv (As := [.ref (z + 25)]) (rest := []) ⟨hx, hb, hml, hown, hts⟩ (c_X4_become_0 l g z I0 (326) (by unfold dkT; omega) (25) (by unfold dkT; omega) hO) (cwV 1 hts gX3_kingOfBell_X4_become rfl rfl rfl (by decide +kernel) ⟨Nat.le_of_ble_eq_true rfl, Nat.le_of_ble_eq_true rfl⟩) (dk_at326 hW) rfl hK hT hW hS rfl hl.1 rfl (Nat.le_of_ble_eq_true rfl) dX3_kingOfBell_8 ⟨Nat.zero_le _, Nat.zero_le _⟩ (fun I7 H7 L7 hp7 hW hS => ?_)
  obtain ⟨hF7, hO, hc7⟩ := hp7
  have hF := dkF_call hF hF7 rfl
  refine lv_ldc (v := (-1000000)) hx hb hown (hts (.constant RX3 43 (-1000000)) (List.mem_of_getElem? (i := 3) rfl)) dX3_kingOfBell_11 ?_
  refine lv_istore_n (lv' := [(2, .int ((-1000000))), (0, .ref (z + 325)), (1, .int p0)]) hx hb dX3_kingOfBell_13 rfl hl (by decide) rfl (fun ls hl => ?_)
  refine lv_iconst (v := 0) hx hb dX3_kingOfBell_14 (by decide) ?_
  refine lv_istore_n (lv' := [(3, .int 0), (2, .int ((-1000000))), (0, .ref (z + 325)), (1, .int p0)]) hx hb dX3_kingOfBell_15 rfl hl (by decide) rfl (fun ls hl => ?_)
  exact C16 _ I7 _ _ ls ((-1000000)) 0 (Nat.lt_succ_self _) hW hS hF hO (dkN_sub (dkN_lit (x := (-1000000)) (-1000000) rfl) rfl) (dkN_sub (dkN_lit (x := 0) (0) rfl) rfl) (lv_sub hl [2, 3, 1, 0] rfl)
set_option maxHeartbeats 4000000 in
set_option maxRecDepth 100000 in
theorem c_X5_crowned_0 (l : Launch) (g : dkG) (z : Nat) (I0 : dkI) (p0 : Int32)  (hO : dkOk I0) : Met l yX5_crowned wsX5_crowned (dkR 6) (dkPc g z [.ref (z + 0), .int p0] I0) (dkQi g z (fun r I1 => dkF [(326, 326, 0, 4), (326, 326, 11, 11), (326, 326, 15, 17), (327, 327, 0, 4), (328, 328, 0, 4), (329, 329, 0, 4), (330, 330, 0, 4), (331, 331, 0, 4), (332, 332, 0, 4), (333, 333, 0, 5), (334, 334, 0, 5), (335, 335, 0, 5), (336, 336, 0, 8)] I0 I1 ∧ dkOk I1 ∧ ((dkN [(-1000002, -1000002)] r ∧ dkN [(0, 0)] (I1 25 0) ∧ True) ∨ (dkN [(-1000001, -1000001)] r ∧ dkN [(-2147483648, 0), (10, 2147483647)] p0 ∧ dkN [(1, 9)] (I1 25 0) ∧ True) ∨ (dkN [(-1000000, -1000000), (0, 4)] r ∧ dkN [(1, 9)] p0 ∧ dkN [(1, 9)] (I1 25 0) ∧ True)))) 0 0 (dkA z) := by
  refine Met.ofW (cc := cX5_crowned) (maxL := 2) (ret := (some .int)) (by decide) rfl ?_
  intro p e s m args below meth c s₁ B hml hv
  obtain ⟨ha, hW, hK, hT⟩ := hv
  have hx := B.exec
  have hb := B.bytes
  have hr := B.returns
  have hts := atoms_spec (ws := wsX5_crowned) B.pre
  have hown : s.vm.findClass RX5 = some m.cls := findClass_of_methodNamed B.named
  have hlocks := B.notSynchronized
  have hS : va_S (dkA z) s.heap s.heap [] := va_S.rf
  have hF : dkF [(326, 326, 0, 4), (326, 326, 11, 11), (326, 326, 15, 17), (327, 327, 0, 4), (328, 328, 0, 4), (329, 329, 0, 4), (330, 330, 0, 4), (331, 331, 0, 4), (332, 332, 0, 4), (333, 333, 0, 5), (334, 334, 0, 5), (335, 335, 0, 5), (336, 336, 0, 8)] I0 I0 := dkF_rf _ _
  have hl := lv_entry ([.ref (z + 0), .int p0]) (n := 2) (Nat.le_of_ble_eq_true rfl)
  have hgo : entryFrame m args 2 = entryFrame m ([.ref (z + 0), .int p0] : List Value).toArray 2 := by rw [ha]
  rw [hgo, lg_entry_eq]
  generalize (lg_sl ([.ref (z + 0), .int p0]) ++ List.replicate (2 - (lg_sl ([.ref (z + 0), .int p0])).length) Slot.unset).toArray = ls at hl ⊢
  have hl : lv_has ls 2 [(0, .ref (z + 0)), (1, .int p0)] := hl
  refine lv_aload_n hx hb dX5_crowned_0 rfl (lv_at hl 0 rfl) ?_
  refine dk_get (k := 0) hx hb hts iX5_crowned_5 hown hK (dk_at0 hW) rfl 5 (by decide) (hts (.fieldLink RX5 31 "DogKings" "now" "LDogKings$Town;") (List.mem_of_getElem? (i := 1) rfl)) rfl dX5_crowned_1 ?_
  refine dk_Vi (As := []) (rest := []) ⟨hx, hb, hml, hown, hts⟩ (c_X4_stands_0 l g z I0 (25) (by unfold dkT; omega) hO) (cwV 0 hts gX5_crowned_X4_stands rfl rfl rfl (by decide +kernel) ⟨Nat.le_of_ble_eq_true rfl, Nat.le_of_ble_eq_true rfl⟩) (dk_at25 hW) rfl hK hT hW hS rfl hl.1 rfl (Nat.le_of_ble_eq_true rfl) dX5_crowned_4 ⟨Nat.zero_le _, Nat.zero_le _⟩ (fun v1 I1 H1 L1 hp1 hW hS => ?_)
  obtain ⟨hF1, hO, hc1⟩ := hp1
  have hF := dkF_call hF hF1 rfl
  rcases hc1 with ⟨dv1, f1_25_0, -⟩ | hc1
  ·
    refine lv_if_ne (tgt := 13) hx hb dX5_crowned_7 (by decide) (fun c2 => ?_) (fun c2 => ?_)
    ·
      exact (dkN_nil (show dkN [] v1 from dkN_ne1 (0) dv1 (dkN_lit (x := 0) (0) rfl) (dk_ne c2) rfl)).elim
    ·
      refine lv_ldc (v := (-1000002)) hx hb hown (hts (.constant RX5 129 (-1000002)) (List.mem_of_getElem? (i := 2) rfl)) dX5_crowned_10 ?_
      exact W.iret (v := (-1000002)) hx hb hr (fun t ht hW9 => ⟨⟨(-1000002), I1, rfl, ⟨hF, hO, Or.inl ⟨dkN_sub (dkN_lit (x := (-1000002)) (-1000002) rfl) rfl, (show dkN [(0, 0)] (I1 25 0) from dkN_sub f1_25_0 rfl), trivial⟩⟩, dkW_eq ht hW⟩, hS.F ht⟩) hS.2.2 dX5_crowned_12
  ·
    obtain ⟨dv1, f1_25_0, -⟩ := hc1
    refine lv_if_ne (tgt := 13) hx hb dX5_crowned_7 (by decide) (fun c3 => ?_) (fun c3 => ?_)
    ·
      refine lv_iload_n hx hb dX5_crowned_13 rfl (lv_at hl 1 rfl) ?_
      refine lv_iconst (v := 1) hx hb dX5_crowned_14 (by decide) ?_
      refine lv_icmp_lt (tgt := 24) hx hb dX5_crowned_15 (by decide) (fun c4 => ?_) (fun c4 => ?_)
      ·
        have d5 : dkN [(-2147483648, 0)] p0 := dkN_le1 1 (dkN_top p0) (dkN_lit (x := 1) (1) rfl) (dkc_lt c4) rfl
        refine lv_ldc (v := (-1000001)) hx hb hown (hts (.constant RX5 70 (-1000001)) (List.mem_of_getElem? (i := 3) rfl)) dX5_crowned_24 ?_
        refine lv_goto (tgt := 37) hx hb dX5_crowned_26 (by decide) ?_
        exact W.iret (v := (-1000001)) hx hb hr (fun t ht hW9 => ⟨⟨(-1000001), I1, rfl, ⟨hF, hO, Or.inr (Or.inl ⟨dkN_sub (dkN_lit (x := (-1000001)) (-1000001) rfl) rfl, dkN_sub d5 rfl, (show dkN [(1, 9)] (I1 25 0) from dkN_sub f1_25_0 rfl), trivial⟩)⟩, dkW_eq ht hW⟩, hS.F ht⟩) hS.2.2 dX5_crowned_37
      ·
        have d6 : dkN [(1, 2147483647)] p0 := dkN_le2 0 (dkN_lit (x := 1) (1) rfl) (dkN_top p0) (dkc_nlt c4) rfl
        refine lv_iload_n hx hb dX5_crowned_18 rfl (lv_at hl 1 rfl) ?_
        refine lv_bipush (v := 9) hx hb dX5_crowned_19 (by decide) ?_
        refine lv_icmp_le (tgt := 29) hx hb dX5_crowned_21 (by decide) (fun c7 => ?_) (fun c7 => ?_)
        ·
          have d8 : dkN [(1, 9)] p0 := dkN_le1 0 d6 (dkN_lit (x := 9) (9) rfl) (dkc_le c7) rfl
          refine lv_aload_n hx hb dX5_crowned_29 rfl (lv_at hl 0 rfl) ?_
          refine dk_get (k := 0) hx hb hts iX5_crowned_5 hown hK (dk_at0 hW) rfl 8 (by decide) (hts (.fieldLink RX5 51 "DogKings" "seer" "LDogKings$Seer;") (List.mem_of_getElem? (i := 4) rfl)) rfl dX5_crowned_30 ?_
          refine lv_iload_n hx hb dX5_crowned_33 rfl (lv_at hl 1 rfl) ?_
          refine dk_Vi (As := [.int p0]) (rest := []) ⟨hx, hb, hml, hown, hts⟩ (c_X3_kingOfBell_0 l g z I1 p0 d8 hO) (cwV 1 hts gX5_crowned_X3_kingOfBell rfl rfl rfl (by decide +kernel) ⟨Nat.le_of_ble_eq_true rfl, Nat.le_of_ble_eq_true rfl⟩) (dk_at325 hW) rfl hK hT hW hS rfl hl.1 rfl (Nat.le_of_ble_eq_true rfl) dX5_crowned_34 ⟨Nat.zero_le _, Nat.zero_le _⟩ (fun v9 I9 H9 L9 hp9 hW hS => ?_)
          obtain ⟨hF9, hO, hc9⟩ := hp9
          have hF := dkF_call hF hF9 rfl
          obtain ⟨dv9, -⟩ := hc9
          exact W.iret (v := v9) hx hb hr (fun t ht hW9 => ⟨⟨v9, I9, rfl, ⟨hF, hO, Or.inr (Or.inr (⟨dkN_sub dv9 rfl, dkN_sub d8 rfl, (show dkN [(1, 9)] (I9 25 0) from dkN_sub (by rw [hF9 25 0 rfl]; exact f1_25_0) rfl), trivial⟩))⟩, dkW_eq ht hW⟩, hS.F ht⟩) hS.2.2 dX5_crowned_37
        ·
          have d10 : dkN [(10, 2147483647)] p0 := dkN_le2 1 (dkN_lit (x := 9) (9) rfl) d6 (dkc_nle c7) rfl
          refine lv_ldc (v := (-1000001)) hx hb hown (hts (.constant RX5 70 (-1000001)) (List.mem_of_getElem? (i := 3) rfl)) dX5_crowned_24 ?_
          refine lv_goto (tgt := 37) hx hb dX5_crowned_26 (by decide) ?_
          exact W.iret (v := (-1000001)) hx hb hr (fun t ht hW9 => ⟨⟨(-1000001), I1, rfl, ⟨hF, hO, Or.inr (Or.inl ⟨dkN_sub (dkN_lit (x := (-1000001)) (-1000001) rfl) rfl, dkN_sub d10 rfl, (show dkN [(1, 9)] (I1 25 0) from dkN_sub f1_25_0 rfl), trivial⟩)⟩, dkW_eq ht hW⟩, hS.F ht⟩) hS.2.2 dX5_crowned_37
    ·
      exact (dkN_nil (show dkN [] v1 from dkN_eq1 dv1 (dkN_lit (x := 0) (0) rfl) (congrArg Int32.toInt c3) rfl)).elim
set_option maxHeartbeats 4000000 in
set_option maxRecDepth 100000 in
theorem c_X6_in_15 (l : Launch) (g : dkG) (z : Nat) (I0 : dkI) (p0 : Int32) (p1 : Int32) (p2 : Int32) (dp1 : dkN [(1, 1)] p1) (dp2 : dkN [(9, 9)] p2)  (hO : dkOk I0) : Met l yX6_in wsX6_in (dkR 0) (dkPc g z [.int p0, .int p1, .int p2] I0) (dkQi g z (fun r I1 => dkF [] I0 I1 ∧ dkOk I1 ∧ ((dkN [(0, 0)] r ∧ dkN [(-2147483648, 0), (10, 2147483647)] p0 ∧ True) ∨ (dkN [(1, 1)] r ∧ dkN [(1, 9)] p0 ∧ True)))) 0 0 (dkA z) := by
  refine Met.ofW (cc := cX6_in) (maxL := 3) (ret := (some .boolean)) (by decide) rfl ?_
  intro p e s m args below meth c s₁ B hml hv
  obtain ⟨ha, hW, hK, hT⟩ := hv
  have hx := B.exec
  have hb := B.bytes
  have hr := B.returns
  have hts := atoms_spec (ws := wsX6_in) B.pre
  have hown : s.vm.findClass RX6 = some m.cls := findClass_of_methodNamed B.named
  have hlocks := B.notSynchronized
  have hS : va_S (dkA z) s.heap s.heap [] := va_S.rf
  have hF : dkF [] I0 I0 := dkF_rf _ _
  have hl := lv_entry ([.int p0, .int p1, .int p2]) (n := 3) (Nat.le_of_ble_eq_true rfl)
  have hgo : entryFrame m args 3 = entryFrame m ([.int p0, .int p1, .int p2] : List Value).toArray 3 := by rw [ha]
  rw [hgo, lg_entry_eq]
  generalize (lg_sl ([.int p0, .int p1, .int p2]) ++ List.replicate (3 - (lg_sl ([.int p0, .int p1, .int p2])).length) Slot.unset).toArray = ls at hl ⊢
  have hl : lv_has ls 3 [(0, .int p0), (1, .int p1), (2, .int p2)] := hl
  refine lv_iload_n hx hb dX6_in_0 rfl (lv_at hl 0 rfl) ?_
  refine lv_iload_n hx hb dX6_in_1 rfl (lv_at hl 1 rfl) ?_
  refine lv_icmp_lt (tgt := 14) hx hb dX6_in_2 (by decide) (fun c1 => ?_) (fun c1 => ?_)
  ·
    have d2 : dkN [(-2147483648, 0)] p0 := dkN_le1 1 (dkN_top p0) dp1 (dkc_lt c1) rfl
    refine lv_iconst (v := 0) hx hb dX6_in_14 (by decide) ?_
    exact W.zret (v := 0) (ty := .boolean) hx hb hr rfl (fun t ht hW9 => ⟨⟨0, I0, rfl, ⟨hF, hO, Or.inl ⟨dkN_sub (dkN_lit (x := 0) (0) rfl) rfl, dkN_sub d2 rfl, trivial⟩⟩, dkW_eq ht hW⟩, hS.F ht⟩) hS.2.2 dX6_in_15
  ·
    have d3 : dkN [(1, 2147483647)] p0 := dkN_le2 0 dp1 (dkN_top p0) (dkc_nlt c1) rfl
    refine lv_iload_n hx hb dX6_in_5 rfl (lv_at hl 0 rfl) ?_
    refine lv_iload_n hx hb dX6_in_6 rfl (lv_at hl 2 rfl) ?_
    refine lv_icmp_gt (tgt := 14) hx hb dX6_in_7 (by decide) (fun c4 => ?_) (fun c4 => ?_)
    ·
      have d5 : dkN [(10, 2147483647)] p0 := dkN_le2 1 dp2 d3 (dkc_lt c4) rfl
      refine lv_iconst (v := 0) hx hb dX6_in_14 (by decide) ?_
      exact W.zret (v := 0) (ty := .boolean) hx hb hr rfl (fun t ht hW9 => ⟨⟨0, I0, rfl, ⟨hF, hO, Or.inl ⟨dkN_sub (dkN_lit (x := 0) (0) rfl) rfl, dkN_sub d5 rfl, trivial⟩⟩, dkW_eq ht hW⟩, hS.F ht⟩) hS.2.2 dX6_in_15
    ·
      have d6 : dkN [(1, 9)] p0 := dkN_le1 0 d3 dp2 (dkc_nlt c4) rfl
      refine lv_iconst (v := 1) hx hb dX6_in_10 (by decide) ?_
      refine lv_goto (tgt := 15) hx hb dX6_in_11 (by decide) ?_
      exact W.zret (v := 1) (ty := .boolean) hx hb hr rfl (fun t ht hW9 => ⟨⟨1, I0, rfl, ⟨hF, hO, Or.inr (⟨dkN_sub (dkN_lit (x := 1) (1) rfl) rfl, dkN_sub d6 rfl, trivial⟩)⟩, dkW_eq ht hW⟩, hS.F ht⟩) hS.2.2 dX6_in_15
set_option maxHeartbeats 4000000 in
set_option maxRecDepth 100000 in
theorem c_X6_tries_0 (l : Launch) (g : dkG) (z : Nat) (I0 : dkI)  (hO : dkOk I0) : Met l yX6_tries wsX6_tries (dkR 1) (dkPc g z [.ref (z + 340)] I0) (dkQv g z (fun I1 => dkF [(340, 340, 20, 22), (348, 348, 0, 53)] I0 I1 ∧ dkOk I1 ∧ ((dkN [(0, 0)] (I1 340 20) ∧ dkN [(0, 0)] (I1 340 21) ∧ dkN [(0, 0)] (I1 340 22) ∧ True)))) 0 0 (dkA z) := by
  refine Met.ofW (cc := cX6_tries) (maxL := 1) (ret := none) (by decide) rfl ?_
  intro p e s m args below meth c s₁ B hml hv
  obtain ⟨ha, hW, hK, hT⟩ := hv
  have hx := B.exec
  have hb := B.bytes
  have hr := B.returns
  have hts := atoms_spec (ws := wsX6_tries) B.pre
  have hown : s.vm.findClass RX6 = some m.cls := findClass_of_methodNamed B.named
  have hlocks := B.notSynchronized
  have hS : va_S (dkA z) s.heap s.heap [] := va_S.rf
  have hF : dkF [(340, 340, 20, 22), (348, 348, 0, 53)] I0 I0 := dkF_rf _ _
  have hl := lv_entry ([.ref (z + 340)]) (n := 1) (Nat.le_of_ble_eq_true rfl)
  have hgo : entryFrame m args 1 = entryFrame m ([.ref (z + 340)] : List Value).toArray 1 := by rw [ha]
  rw [hgo, lg_entry_eq]
  generalize (lg_sl ([.ref (z + 340)]) ++ List.replicate (1 - (lg_sl ([.ref (z + 340)])).length) Slot.unset).toArray = ls at hl ⊢
  have hl : lv_has ls 1 [(0, .ref (z + 340))] := hl
  refine lv_aload_n hx hb dX6_tries_0 rfl (lv_at hl 0 rfl) ?_
  refine dk_get (k := 340) hx hb hts iX6_tries_6 hown hK (dk_at340 hW) rfl 13 (by decide) (hts (.fieldLink RX6 25 "DogKingsModel" "now" "[I") (List.mem_of_getElem? (i := 1) rfl)) rfl dX6_tries_1 ?_
  refine lv_iconst (v := 0) hx hb dX6_tries_4 (by decide) ?_
  refine lv_aload_n hx hb dX6_tries_5 rfl (lv_at hl 0 rfl) ?_
  refine dk_get (k := 340) hx hb hts iX6_tries_6 hown hK (dk_at340 hW) rfl 15 (by decide) (hts (.fieldLink RX6 31 "DogKingsModel" "tried" "[I") (List.mem_of_getElem? (i := 2) rfl)) rfl dX6_tries_6 ?_
  refine lv_iconst (v := 0) hx hb dX6_tries_9 (by decide) ?_
  refine dk_Sv (As := [.ref (z + 346), .int 0, .ref (z + 348), .int 0]) (rest := []) ⟨hx, hb, hml, hown, hts⟩ (c_X6_copies l g z I0 (kf := 346) (kt := 348) (nf := 54) (nt := 54) 0 0 (A := 0) (B := 0) rfl rfl (by decide) (by decide) (by decide) (by decide) (by decide) (by decide) (fun _ => rfl) (fun _ => rfl)) (va_cwS 4 hts gX6_tries_X6_copies rfl rfl rfl (by decide +kernel) ⟨Nat.le_of_ble_eq_true rfl, Nat.le_of_ble_eq_true rfl⟩) hK hT hW hS rfl hl.1 rfl (Nat.le_of_ble_eq_true rfl) dX6_tries_10 ⟨Nat.zero_le _, Nat.zero_le _⟩ (fun I1 H1 L1 eI1 hW hS => ?_)
  have eI1 : I1 = dkCp I0 346 348 0 0 := eI1
  have hO := dkO_cp hO eI1 (by decide) (by decide) (by decide) (by decide)
  have hF := dkF_cp (lo := 0) (hi := 0) hF eI1 ⟨by decide, by decide⟩ rfl
  refine lv_aload_n hx hb dX6_tries_13 rfl (lv_at hl 0 rfl) ?_
  refine lv_iconst (v := 0) hx hb dX6_tries_14 (by decide) ?_
  refine dk_put (k := 340) hx hb hts iX6_tries_6 tyX6 tyX6_ok nmX6 hown hK hW (dk_at340 hW) hS rfl 20 (by decide) (hts (.fieldLink RX6 209 "DogKingsModel" "gone" "I") (List.mem_of_getElem? (i := 3) rfl)) rfl rfl (Nat.le_of_ble_eq_true rfl) rfl dX6_tries_15 (fun I2 H2 L2 eI2 hW hS => ?_)
  have eI2 : I2 = dkU I1 340 20 0 := eI2
  have hO := dkO_set hO eI2 (dkN_sub (dkN_lit (x := 0) (0) rfl) rfl)
  have hF := dkF_set hF eI2 rfl
  refine lv_aload_n hx hb dX6_tries_18 rfl (lv_at hl 0 rfl) ?_
  refine lv_iconst (v := 0) hx hb dX6_tries_19 (by decide) ?_
  refine dk_put (k := 340) hx hb hts iX6_tries_6 tyX6 tyX6_ok nmX6 hown hK hW (dk_at340 hW) hS rfl 21 (by decide) (hts (.fieldLink RX6 212 "DogKingsModel" "asleep" "I") (List.mem_of_getElem? (i := 4) rfl)) rfl rfl (Nat.le_of_ble_eq_true rfl) rfl dX6_tries_20 (fun I3 H3 L3 eI3 hW hS => ?_)
  have eI3 : I3 = dkU I2 340 21 0 := eI3
  have hO := dkO_set hO eI3 (dkN_sub (dkN_lit (x := 0) (0) rfl) rfl)
  have hF := dkF_set hF eI3 rfl
  refine lv_aload_n hx hb dX6_tries_23 rfl (lv_at hl 0 rfl) ?_
  refine lv_iconst (v := 0) hx hb dX6_tries_24 (by decide) ?_
  refine dk_put (k := 340) hx hb hts iX6_tries_6 tyX6 tyX6_ok nmX6 hown hK hW (dk_at340 hW) hS rfl 22 (by decide) (hts (.fieldLink RX6 215 "DogKingsModel" "cats" "I") (List.mem_of_getElem? (i := 5) rfl)) rfl rfl (Nat.le_of_ble_eq_true rfl) rfl dX6_tries_25 (fun I4 H4 L4 eI4 hW hS => ?_)
  have eI4 : I4 = dkU I3 340 22 0 := eI4
  have hO := dkO_set hO eI4 (dkN_sub (dkN_lit (x := 0) (0) rfl) rfl)
  have hF := dkF_set hF eI4 rfl
  exact W.vret hx hb hr (fun t ht hW9 => ⟨⟨I4, rfl, ⟨hF, hO, ⟨(show dkN [(0, 0)] (I4 340 20) from dkN_sub (by rw [eI4, dkU_sn (by decide)]; exact (by rw [eI3, dkU_sn (by decide)]; exact (by rw [eI2, dkU_ss]; exact (dkN_lit (x := 0) (0) rfl)))) rfl), (show dkN [(0, 0)] (I4 340 21) from dkN_sub (by rw [eI4, dkU_sn (by decide)]; exact (by rw [eI3, dkU_ss]; exact (dkN_lit (x := 0) (0) rfl))) rfl), (show dkN [(0, 0)] (I4 340 22) from dkN_sub (by rw [eI4, dkU_ss]; exact (dkN_lit (x := 0) (0) rfl)) rfl), trivial⟩⟩, dkW_eq ht hW⟩, hS.F ht⟩) hS.2.2 dX6_tries_28
set_option maxHeartbeats 4000000 in
set_option maxRecDepth 100000 in
theorem c_X6_toBell_0 (l : Launch) (g : dkG) (z : Nat) (I0 : dkI)  (hO : dkOk I0) : Met l yX6_toBell wsX6_toBell (dkR 5) (dkPc g z [.ref (z + 340)] I0) (dkQv g z (fun I1 => dkF [(348, 348, 3, 3), (348, 348, 8, 34), (348, 348, 38, 38), (348, 348, 41, 41), (348, 348, 44, 44), (348, 348, 47, 47), (348, 348, 50, 50), (348, 348, 53, 53)] I0 I1 ∧ dkOk I1 ∧ ((dkN [(0, 2147483647)] (I1 348 3) ∧ True)))) 0 0 (dkA z) := by
  refine Met.ofW (cc := cX6_toBell) (maxL := 1) (ret := none) (by decide) rfl ?_
  intro p e s m args below meth c s₁ B hml hv
  obtain ⟨ha, hW, hK, hT⟩ := hv
  have hx := B.exec
  have hb := B.bytes
  have hr := B.returns
  have hts := atoms_spec (ws := wsX6_toBell) B.pre
  have hown : s.vm.findClass RX6 = some m.cls := findClass_of_methodNamed B.named
  have hlocks := B.notSynchronized
  have hS : va_S (dkA z) s.heap s.heap [] := va_S.rf
  have hF : dkF [(348, 348, 3, 3), (348, 348, 8, 34), (348, 348, 38, 38), (348, 348, 41, 41), (348, 348, 44, 44), (348, 348, 47, 47), (348, 348, 50, 50), (348, 348, 53, 53)] I0 I0 := dkF_rf _ _
  have hl := lv_entry ([.ref (z + 340)]) (n := 1) (Nat.le_of_ble_eq_true rfl)
  have hgo : entryFrame m args 1 = entryFrame m ([.ref (z + 340)] : List Value).toArray 1 := by rw [ha]
  rw [hgo, lg_entry_eq]
  generalize (lg_sl ([.ref (z + 340)]) ++ List.replicate (1 - (lg_sl ([.ref (z + 340)])).length) Slot.unset).toArray = ls at hl ⊢
  have hl : lv_has ls 1 [(0, .ref (z + 340))] := hl
  have C0 : ∀ (n : Nat), ∀ (I : dkI) (H : Heap) (locs : List Loc) (ls : Array Slot), (2147483647 - (I 348 3).toInt).toNat < n → dkW g z I H → va_S (dkA z) s.heap H locs → dkF [(348, 348, 3, 3), (348, 348, 8, 34), (348, 348, 38, 38), (348, 348, 41, 41), (348, 348, 44, 44), (348, 348, 47, 47), (348, 348, 50, 50), (348, 348, 53, 53)] I0 I → dkOk I → lv_has ls 1 [(0, .ref (z + 340))] → W p l e (headSpec wsX6_toBell (dkR 5)).room s m args below meth c H locs 0 0 (MQ below (dkQv g z (fun I1 => dkF [(348, 348, 3, 3), (348, 348, 8, 34), (348, 348, 38, 38), (348, 348, 41, 41), (348, 348, 44, 44), (348, 348, 47, 47), (348, 348, 50, 50), (348, 348, 53, 53)] I0 I1 ∧ dkOk I1 ∧ ((dkN [(0, 2147483647)] (I1 348 3) ∧ True)))) args s 0 0 (dkA z)) (F0 m 0 ls []) := by
    intro n
    induction n with
    | zero => intro I H locs ls  hn; exact absurd hn (Nat.not_lt_zero _)
    | succ n ih0 =>
      intro I0_ H locs ls hn0 hW hS hF_0 hO hl
      have hF := hF_0
      refine lv_aload_n hx hb dX6_toBell_0 rfl (lv_at hl 0 rfl) ?_
      refine dk_get (k := 340) hx hb hts iX6_toBell_6 hown hK (dk_at340 hW) rfl 15 (by decide) (hts (.fieldLink RX6 31 "DogKingsModel" "tried" "[I") (List.mem_of_getElem? (i := 1) rfl)) rfl dX6_toBell_1 ?_
      refine lv_iconst (v := 3) hx hb dX6_toBell_4 (by decide) ?_
      refine dk_ild (k := 348) hx hb hK (dk_at348 hW) (dkN_in (n := 54) (dkN_lit (x := 3) (3) rfl) rfl) dX6_toBell_5 ?_
      refine lv_topi (fun v1 ev1 => ?_)
      have ev1 : v1 = I0_ 348 3 := ev1
      refine lv_aload_n hx hb dX6_toBell_6 rfl (lv_at hl 0 rfl) ?_
      refine dk_get (k := 340) hx hb hts iX6_toBell_6 hown hK (dk_at340 hW) rfl 15 (by decide) (hts (.fieldLink RX6 31 "DogKingsModel" "tried" "[I") (List.mem_of_getElem? (i := 1) rfl)) rfl dX6_toBell_7 ?_
      refine lv_iconst (v := 1) hx hb dX6_toBell_10 (by decide) ?_
      refine dk_ild (k := 348) hx hb hK (dk_at348 hW) (dkN_in (n := 54) (dkN_lit (x := 1) (1) rfl) rfl) dX6_toBell_11 ?_
      refine lv_topi (fun v2 ev2 => ?_)
      have ev2 : v2 = I0_ 348 1 := ev2
      have dv2 : dkN [(0, 30)] v2 := by rw [ev2]; exact (show dkN [(0, 30)] (I0_ 348 1) from (hO 348 1))
      refine lv_icmp_ge (tgt := 37) hx hb dX6_toBell_12 (by decide) (fun c3 => ?_) (fun c3 => ?_)
      ·
        have d4 : dkN [(0, 2147483647)] v1 := dkN_le2 0 dv2 (dkN_top v1) (dkc_le c3) rfl
        have f5 : dkN [(0, 2147483647)] (I0_ 348 3) := by rw [← ev1]; exact d4
        exact W.vret hx hb hr (fun t ht hW9 => ⟨⟨I0_, rfl, ⟨hF, hO, ⟨(show dkN [(0, 2147483647)] (I0_ 348 3) from dkN_sub f5 rfl), trivial⟩⟩, dkW_eq ht hW⟩, hS.F ht⟩) hS.2.2 dX6_toBell_37
      ·
        have d6 : dkN [(-2147483648, 29)] v1 := dkN_le1 1 (dkN_top v1) dv2 (dkc_nle c3) rfl
        have f7 : dkN [(-2147483648, 29)] (I0_ 348 3) := by rw [← ev1]; exact d6
        refine lv_aload_n hx hb dX6_toBell_15 rfl (lv_at hl 0 rfl) ?_
        refine dk_get (k := 340) hx hb hts iX6_toBell_6 hown hK (dk_at340 hW) rfl 15 (by decide) (hts (.fieldLink RX6 31 "DogKingsModel" "tried" "[I") (List.mem_of_getElem? (i := 1) rfl)) rfl dX6_toBell_16 ?_
        refine lv_aload_n hx hb dX6_toBell_19 rfl (lv_at hl 0 rfl) ?_
        refine dk_get (k := 340) hx hb hts iX6_toBell_6 hown hK (dk_at340 hW) rfl 20 (by decide) (hts (.fieldLink RX6 209 "DogKingsModel" "gone" "I") (List.mem_of_getElem? (i := 2) rfl)) rfl dX6_toBell_20 ?_
        refine lv_topi (fun v8 ev8 => ?_)
        refine lv_aload_n hx hb dX6_toBell_23 rfl (lv_at hl 0 rfl) ?_
        refine dk_get (k := 340) hx hb hts iX6_toBell_6 hown hK (dk_at340 hW) rfl 21 (by decide) (hts (.fieldLink RX6 212 "DogKingsModel" "asleep" "I") (List.mem_of_getElem? (i := 3) rfl)) rfl dX6_toBell_24 ?_
        refine lv_topi (fun v9 ev9 => ?_)
        refine lv_aload_n hx hb dX6_toBell_27 rfl (lv_at hl 0 rfl) ?_
        refine dk_get (k := 340) hx hb hts iX6_toBell_6 hown hK (dk_at340 hW) rfl 22 (by decide) (hts (.fieldLink RX6 215 "DogKingsModel" "cats" "I") (List.mem_of_getElem? (i := 4) rfl)) rfl dX6_toBell_28 ?_
        refine lv_topi (fun v10 ev10 => ?_)
        refine dk_Sv (As := [.ref (z + 348), .int v8, .int v9, .int v10]) (rest := []) ⟨hx, hb, hml, hown, hts⟩ (c_X6_steps_1 l g z I0_ v8 v9 v10 hO) (va_cwS 4 hts gX6_toBell_X6_steps rfl rfl rfl (by decide +kernel) ⟨Nat.le_of_ble_eq_true rfl, Nat.le_of_ble_eq_true rfl⟩) hK hT hW hS rfl hl.1 rfl (Nat.le_of_ble_eq_true rfl) dX6_toBell_31 ⟨Nat.zero_le _, Nat.zero_le _⟩ (fun I11 H11 L11 hp11 hW hS => ?_)
        obtain ⟨hF11, hO, hi11_0, hc11⟩ := hp11
        have hF := dkF_call hF hF11 rfl
        refine lv_goto (tgt := 0) hx hb dX6_toBell_34 (by decide) ?_
        exact ih0 I11 _ _ ls  (dk_nearH hn0 hi11_0 rfl f7 rfl rfl) hW hS hF hO  (lv_sub hl [0] rfl)
  exact C0 _ I0 _ _ ls  (Nat.lt_succ_self _) hW hS hF hO  (lv_sub hl [0] rfl)
set_option maxHeartbeats 4000000 in
set_option maxRecDepth 100000 in
theorem c_X6_crowned_0 (l : Launch) (g : dkG) (z : Nat) (I0 : dkI) (p0 : Int32)  (hO : dkOk I0) : Met l yX6_crowned wsX6_crowned (dkR 6) (dkPc g z [.ref (z + 340), .int p0] I0) (dkQi g z (fun r I1 => dkF [(340, 340, 20, 22), (348, 348, 0, 53)] I0 I1 ∧ dkOk I1 ∧ ((dkN [(-1000002, -1000002)] r ∧ dkN [(0, 0)] (I1 346 0) ∧ True) ∨ (dkN [(-1000001, -1000001)] r ∧ dkN [(-2147483648, 0), (10, 2147483647)] p0 ∧ dkN [(1, 9)] (I1 346 0) ∧ True) ∨ (dkN [(-1000000, -1000000), (0, 4)] r ∧ dkN [(1, 9)] p0 ∧ dkN [(0, 0)] (I1 340 20) ∧ dkN [(0, 0)] (I1 340 21) ∧ dkN [(0, 0)] (I1 340 22) ∧ dkN [(1, 9)] (I1 346 0) ∧ True)))) 0 0 (dkA z) := by
  refine Met.ofW (cc := cX6_crowned) (maxL := 4) (ret := (some .int)) (by decide) rfl ?_
  intro p e s m args below meth c s₁ B hml hv
  obtain ⟨ha, hW, hK, hT⟩ := hv
  have hx := B.exec
  have hb := B.bytes
  have hr := B.returns
  have hts := atoms_spec (ws := wsX6_crowned) B.pre
  have hown : s.vm.findClass RX6 = some m.cls := findClass_of_methodNamed B.named
  have hlocks := B.notSynchronized
  have hS : va_S (dkA z) s.heap s.heap [] := va_S.rf
  have hF : dkF [(340, 340, 20, 22), (348, 348, 0, 53)] I0 I0 := dkF_rf _ _
  have hl := lv_entry ([.ref (z + 340), .int p0]) (n := 4) (Nat.le_of_ble_eq_true rfl)
  have hgo : entryFrame m args 4 = entryFrame m ([.ref (z + 340), .int p0] : List Value).toArray 4 := by rw [ha]
  rw [hgo, lg_entry_eq]
  generalize (lg_sl ([.ref (z + 340), .int p0]) ++ List.replicate (4 - (lg_sl ([.ref (z + 340), .int p0])).length) Slot.unset).toArray = ls at hl ⊢
  have hl : lv_has ls 4 [(0, .ref (z + 340)), (1, .int p0)] := hl
  have C32 : ∀ (n : Nat), ∀ (I : dkI) (H : Heap) (locs : List Loc) (ls : Array Slot) (x32_2 : Int32) (x32_3 : Int32), (9 - x32_3.toInt).toNat < n → dkW g z I H → va_S (dkA z) s.heap H locs → dkF [(340, 340, 20, 22), (348, 348, 0, 53)] I0 I → dkOk I → dkN [(-1000000, -1000000), (0, 4)] x32_2 → dkN [(0, 9)] x32_3 → dkN [(1, 9)] p0 → dkN [(0, 0)] (I 340 20) → dkN [(0, 0)] (I 340 21) → dkN [(0, 0)] (I 340 22) → dkN [(1, 9)] (I 346 0) → lv_has ls 4 [(0, .ref (z + 340)), (1, .int p0), (2, .int x32_2), (3, .int x32_3)] → W p l e (headSpec wsX6_crowned (dkR 6)).room s m args below meth c H locs 0 0 (MQ below (dkQi g z (fun r I1 => dkF [(340, 340, 20, 22), (348, 348, 0, 53)] I0 I1 ∧ dkOk I1 ∧ ((dkN [(-1000002, -1000002)] r ∧ dkN [(0, 0)] (I1 346 0) ∧ True) ∨ (dkN [(-1000001, -1000001)] r ∧ dkN [(-2147483648, 0), (10, 2147483647)] p0 ∧ dkN [(1, 9)] (I1 346 0) ∧ True) ∨ (dkN [(-1000000, -1000000), (0, 4)] r ∧ dkN [(1, 9)] p0 ∧ dkN [(0, 0)] (I1 340 20) ∧ dkN [(0, 0)] (I1 340 21) ∧ dkN [(0, 0)] (I1 340 22) ∧ dkN [(1, 9)] (I1 346 0) ∧ True)))) args s 0 0 (dkA z)) (F0 m 32 ls []) := by
    intro n
    induction n with
    | zero => intro I H locs ls x32_2 x32_3 hn; exact absurd hn (Nat.not_lt_zero _)
    | succ n ih32 =>
      intro I32_ H locs ls x32_2 x32_3 hn32 hW hS hF_32 hO k32_0 k32_1 r32_0 f32_0 f32_1 f32_2 f32_3 hl
      have hF := hF_32
      refine lv_iload_n hx hb dX6_crowned_32 rfl (lv_at hl 3 rfl) ?_
      refine lv_iload_n hx hb dX6_crowned_33 rfl (lv_at hl 1 rfl) ?_
      refine lv_icmp_ge (tgt := 55) hx hb dX6_crowned_34 (by decide) (fun c1 => ?_) (fun c1 => ?_)
      ·
        have d2 : dkN [(1, 9)] x32_3 := dkN_le2 0 r32_0 k32_1 (dkc_le c1) rfl
        refine lv_iload_n hx hb dX6_crowned_55 rfl (lv_at hl 2 rfl) ?_
        exact W.iret (v := x32_2) hx hb hr (fun t ht hW9 => ⟨⟨x32_2, I32_, rfl, ⟨hF, hO, Or.inr (Or.inr (⟨dkN_sub k32_0 rfl, dkN_sub r32_0 rfl, (show dkN [(0, 0)] (I32_ 340 20) from dkN_sub f32_0 rfl), (show dkN [(0, 0)] (I32_ 340 21) from dkN_sub f32_1 rfl), (show dkN [(0, 0)] (I32_ 340 22) from dkN_sub f32_2 rfl), (show dkN [(1, 9)] (I32_ 346 0) from dkN_sub f32_3 rfl), trivial⟩))⟩, dkW_eq ht hW⟩, hS.F ht⟩) hS.2.2 dX6_crowned_56
      ·
        have d3 : dkN [(0, 8)] x32_3 := dkN_le1 1 k32_1 r32_0 (dkc_nle c1) rfl
        refine lv_aload_n hx hb dX6_crowned_37 rfl (lv_at hl 0 rfl) ?_
        refine dk_Vv (As := []) (rest := []) ⟨hx, hb, hml, hown, hts⟩ (c_X6_toBell_0 l g z I32_ hO) (cwV 0 hts gX6_crowned_X6_toBell rfl rfl rfl (by decide +kernel) ⟨Nat.le_of_ble_eq_true rfl, Nat.le_of_ble_eq_true rfl⟩) (dk_at340 hW) rfl hK hT hW hS rfl hl.1 rfl (Nat.le_of_ble_eq_true rfl) dX6_crowned_38 ⟨Nat.zero_le _, Nat.zero_le _⟩ (fun I4 H4 L4 hp4 hW hS => ?_)
        obtain ⟨hF4, hO, hc4⟩ := hp4
        have hF := dkF_call hF hF4 rfl
        obtain ⟨f4_348_3, -⟩ := hc4
        refine lv_aload_n hx hb dX6_crowned_41 rfl (lv_at hl 0 rfl) ?_
        refine dk_get (k := 340) hx hb hts iX6_crowned_6 hown hK (dk_at340 hW) rfl 15 (by decide) (hts (.fieldLink RX6 31 "DogKingsModel" "tried" "[I") (List.mem_of_getElem? (i := 4) rfl)) rfl dX6_crowned_42 ?_
        refine dk_Si (As := [.ref (z + 348)]) (rest := []) ⟨hx, hb, hml, hown, hts⟩ (c_X6_rings_1 l g z I4 hO) (va_cwS 1 hts gX6_crowned_X6_rings rfl rfl rfl (by decide +kernel) ⟨Nat.le_of_ble_eq_true rfl, Nat.le_of_ble_eq_true rfl⟩) hK hT hW hS rfl hl.1 rfl (Nat.le_of_ble_eq_true rfl) dX6_crowned_45 ⟨Nat.zero_le _, Nat.zero_le _⟩ (fun v5 I5 H5 L5 hp5 hW hS => ?_)
        obtain ⟨hF5, hO, hc5⟩ := hp5
        have hF := dkF_call hF hF5 rfl
        obtain ⟨dv5, f5_348_3, -⟩ := hc5
        refine lv_istore_n (lv' := [(2, .int v5), (0, .ref (z + 340)), (1, .int p0), (3, .int x32_3)]) hx hb dX6_crowned_48 rfl hl (by decide) rfl (fun ls hl => ?_)
        obtain ⟨v6, ev6⟩ : ∃ y : Int32, y = x32_3 + 1 := ⟨_, rfl⟩
        have dv6 : dkN [(1, 9)] v6 := by rw [ev6]; exact dkN_add d3 (dkN_lit (x := 1) (1) rfl) rfl
        refine lv_iinc (v := v6) (lv' := [(3, .int v6), (2, .int v5), (0, .ref (z + 340)), (1, .int p0)]) hx hb dX6_crowned_49 hl (k := 3) rfl (by rw [ev6]; rfl) (by decide) rfl (fun ls hl => ?_)
        refine lv_goto (tgt := 32) hx hb dX6_crowned_52 (by decide) ?_
        exact ih32 I5 _ _ ls v5 v6 (dk_near hn32 (by rw [ev6]; exact dk_inc d3 rfl) (dkN_lt d3 rfl)) hW hS hF hO (dkN_sub dv5 rfl) (dkN_sub dv6 rfl) (dkN_sub r32_0 rfl) (show dkN [(0, 0)] (I5 340 20) from dkN_sub (by rw [hF5 340 20 rfl]; exact (by rw [hF4 340 20 rfl]; exact f32_0)) rfl) (show dkN [(0, 0)] (I5 340 21) from dkN_sub (by rw [hF5 340 21 rfl]; exact (by rw [hF4 340 21 rfl]; exact f32_1)) rfl) (show dkN [(0, 0)] (I5 340 22) from dkN_sub (by rw [hF5 340 22 rfl]; exact (by rw [hF4 340 22 rfl]; exact f32_2)) rfl) (show dkN [(1, 9)] (I5 346 0) from dkN_sub (by rw [hF5 346 0 rfl]; exact (by rw [hF4 346 0 rfl]; exact f32_3)) rfl) (lv_sub hl [2, 3, 1, 0] rfl)
  refine lv_aload_n hx hb dX6_crowned_0 rfl (lv_at hl 0 rfl) ?_
  refine dk_Vi (As := []) (rest := []) ⟨hx, hb, hml, hown, hts⟩ (c_X6_isTown_0 l g z I0 hO) (cwV 0 hts gX6_crowned_X6_isTown rfl rfl rfl (by decide +kernel) ⟨Nat.le_of_ble_eq_true rfl, Nat.le_of_ble_eq_true rfl⟩) (dk_at340 hW) rfl hK hT hW hS rfl hl.1 rfl (Nat.le_of_ble_eq_true rfl) dX6_crowned_1 ⟨Nat.zero_le _, Nat.zero_le _⟩ (fun v7 I7 H7 L7 hp7 hW hS => ?_)
  obtain ⟨hF7, hO, hc7⟩ := hp7
  have hF := dkF_call hF hF7 rfl
  rcases hc7 with ⟨dv7, f7_346_0, -⟩ | hc7
  ·
    refine lv_if_ne (tgt := 10) hx hb dX6_crowned_4 (by decide) (fun c8 => ?_) (fun c8 => ?_)
    ·
      exact (dkN_nil (show dkN [] v7 from dkN_ne1 (0) dv7 (dkN_lit (x := 0) (0) rfl) (dk_ne c8) rfl)).elim
    ·
      refine lv_ldc (v := (-1000002)) hx hb hown (hts (.constant RX6 185 (-1000002)) (List.mem_of_getElem? (i := 1) rfl)) dX6_crowned_7 ?_
      exact W.iret (v := (-1000002)) hx hb hr (fun t ht hW9 => ⟨⟨(-1000002), I7, rfl, ⟨hF, hO, Or.inl ⟨dkN_sub (dkN_lit (x := (-1000002)) (-1000002) rfl) rfl, (show dkN [(0, 0)] (I7 346 0) from dkN_sub f7_346_0 rfl), trivial⟩⟩, dkW_eq ht hW⟩, hS.F ht⟩) hS.2.2 dX6_crowned_9
  ·
    obtain ⟨dv7, f7_346_0, -⟩ := hc7
    refine lv_if_ne (tgt := 10) hx hb dX6_crowned_4 (by decide) (fun c9 => ?_) (fun c9 => ?_)
    ·
      refine lv_iload_n hx hb dX6_crowned_10 rfl (lv_at hl 1 rfl) ?_
      refine lv_iconst (v := 1) hx hb dX6_crowned_11 (by decide) ?_
      refine lv_bipush (v := 9) hx hb dX6_crowned_12 (by decide) ?_
      refine dk_Si (As := [.int p0, .int 1, .int 9]) (rest := []) ⟨hx, hb, hml, hown, hts⟩ (c_X6_in_15 l g z I7 p0 1 9 (dkN_lit (x := 1) (1) rfl) (dkN_lit (x := 9) (9) rfl) hO) (va_cwS 3 hts gX6_crowned_X6_in rfl rfl rfl (by decide +kernel) ⟨Nat.le_of_ble_eq_true rfl, Nat.le_of_ble_eq_true rfl⟩) hK hT hW hS rfl hl.1 rfl (Nat.le_of_ble_eq_true rfl) dX6_crowned_14 ⟨Nat.zero_le _, Nat.zero_le _⟩ (fun v10 I10 H10 L10 hp10 hW hS => ?_)
      obtain ⟨hF10, hO, hc10⟩ := hp10
      have hF := dkF_call hF hF10 rfl
      rcases hc10 with ⟨dv10, a10_0, -⟩ | hc10
      ·
        have d11 : dkN [(-2147483648, 0), (10, 2147483647)] p0 := dkN_eq1 (dkN_top p0) a10_0 rfl rfl
        refine lv_if_ne (tgt := 23) hx hb dX6_crowned_17 (by decide) (fun c12 => ?_) (fun c12 => ?_)
        ·
          exact (dkN_nil (show dkN [] v10 from dkN_ne1 (0) dv10 (dkN_lit (x := 0) (0) rfl) (dk_ne c12) rfl)).elim
        ·
          refine lv_ldc (v := (-1000001)) hx hb hown (hts (.constant RX6 64 (-1000001)) (List.mem_of_getElem? (i := 2) rfl)) dX6_crowned_20 ?_
          exact W.iret (v := (-1000001)) hx hb hr (fun t ht hW9 => ⟨⟨(-1000001), I10, rfl, ⟨hF, hO, Or.inr (Or.inl ⟨dkN_sub (dkN_lit (x := (-1000001)) (-1000001) rfl) rfl, dkN_sub d11 rfl, (show dkN [(1, 9)] (I10 346 0) from dkN_sub (by rw [hF10 346 0 rfl]; exact f7_346_0) rfl), trivial⟩)⟩, dkW_eq ht hW⟩, hS.F ht⟩) hS.2.2 dX6_crowned_22
      ·
        obtain ⟨dv10, a10_0, -⟩ := hc10
        have d13 : dkN [(1, 9)] p0 := dkN_eq1 (dkN_top p0) a10_0 rfl rfl
        refine lv_if_ne (tgt := 23) hx hb dX6_crowned_17 (by decide) (fun c14 => ?_) (fun c14 => ?_)
        ·
          refine lv_aload_n hx hb dX6_crowned_23 rfl (lv_at hl 0 rfl) ?_
          refine dk_Vv (As := []) (rest := []) ⟨hx, hb, hml, hown, hts⟩ (c_X6_tries_0 l g z I10 hO) (cwV 0 hts gX6_crowned_X6_tries rfl rfl rfl (by decide +kernel) ⟨Nat.le_of_ble_eq_true rfl, Nat.le_of_ble_eq_true rfl⟩) (dk_at340 hW) rfl hK hT hW hS rfl hl.1 rfl (Nat.le_of_ble_eq_true rfl) dX6_crowned_24 ⟨Nat.zero_le _, Nat.zero_le _⟩ (fun I15 H15 L15 hp15 hW hS => ?_)
          obtain ⟨hF15, hO, hc15⟩ := hp15
          have hF := dkF_call hF hF15 rfl
          obtain ⟨f15_340_20, f15_340_21, f15_340_22, -⟩ := hc15
          refine lv_ldc (v := (-1000000)) hx hb hown (hts (.constant RX6 50 (-1000000)) (List.mem_of_getElem? (i := 3) rfl)) dX6_crowned_27 ?_
          refine lv_istore_n (lv' := [(2, .int ((-1000000))), (0, .ref (z + 340)), (1, .int p0)]) hx hb dX6_crowned_29 rfl hl (by decide) rfl (fun ls hl => ?_)
          refine lv_iconst (v := 0) hx hb dX6_crowned_30 (by decide) ?_
          refine lv_istore_n (lv' := [(3, .int 0), (2, .int ((-1000000))), (0, .ref (z + 340)), (1, .int p0)]) hx hb dX6_crowned_31 rfl hl (by decide) rfl (fun ls hl => ?_)
          exact C32 _ I15 _ _ ls ((-1000000)) 0 (Nat.lt_succ_self _) hW hS hF hO (dkN_sub (dkN_lit (x := (-1000000)) (-1000000) rfl) rfl) (dkN_sub (dkN_lit (x := 0) (0) rfl) rfl) (dkN_sub d13 rfl) (show dkN [(0, 0)] (I15 340 20) from dkN_sub f15_340_20 rfl) (show dkN [(0, 0)] (I15 340 21) from dkN_sub f15_340_21 rfl) (show dkN [(0, 0)] (I15 340 22) from dkN_sub f15_340_22 rfl) (show dkN [(1, 9)] (I15 346 0) from dkN_sub (by rw [hF15 346 0 rfl]; exact (by rw [hF10 346 0 rfl]; exact f7_346_0)) rfl) (lv_sub hl [2, 3, 1, 0] rfl)
        ·
          exact (dkN_nil (show dkN [] v10 from dkN_eq1 dv10 (dkN_lit (x := 0) (0) rfl) (congrArg Int32.toInt c14) rfl)).elim
    ·
      exact (dkN_nil (show dkN [] v7 from dkN_eq1 dv7 (dkN_lit (x := 0) (0) rfl) (congrArg Int32.toInt c9) rfl)).elim
set_option maxHeartbeats 4000000 in
set_option maxRecDepth 100000 in
theorem c_X3_minutesToReign_0 (l : Launch) (g : dkG) (z : Nat) (I0 : dkI) (p0 : Int32) (dp0 : dkN [(0, 4)] p0)  (hO : dkOk I0) : Met l yX3_minutesToReign wsX3_minutesToReign (dkR 5) (dkPc g z [.ref (z + 325), .int p0] I0) (dkQi g z (fun r I1 => dkF [(326, 326, 0, 4), (326, 326, 11, 11), (326, 326, 15, 17), (327, 327, 0, 4), (328, 328, 0, 4), (329, 329, 0, 4), (330, 330, 0, 4), (331, 331, 0, 4), (332, 332, 0, 4), (333, 333, 0, 5), (334, 334, 0, 5), (335, 335, 0, 5), (336, 336, 0, 8)] I0 I1 ∧ dkOk I1 ∧ ((dkN [(-1000000, -1000000)] r ∧ True) ∨ (dkN [(1, 60)] r ∧ dkN [(-2147483648, 29)] (I1 326 3) ∧ True)))) 0 0 (dkA z) := by
  refine Met.ofW (cc := cX3_minutesToReign) (maxL := 3) (ret := (some .int)) (by decide) rfl ?_
  intro p e s m args below meth c s₁ B hml hv
  obtain ⟨ha, hW, hK, hT⟩ := hv
  have hx := B.exec
  have hb := B.bytes
  have hr := B.returns
  have hts := atoms_spec (ws := wsX3_minutesToReign) B.pre
  have hown : s.vm.findClass RX3 = some m.cls := findClass_of_methodNamed B.named
  have hlocks := B.notSynchronized
  have hS : va_S (dkA z) s.heap s.heap [] := va_S.rf
  have hF : dkF [(326, 326, 0, 4), (326, 326, 11, 11), (326, 326, 15, 17), (327, 327, 0, 4), (328, 328, 0, 4), (329, 329, 0, 4), (330, 330, 0, 4), (331, 331, 0, 4), (332, 332, 0, 4), (333, 333, 0, 5), (334, 334, 0, 5), (335, 335, 0, 5), (336, 336, 0, 8)] I0 I0 := dkF_rf _ _
  have hl := lv_entry ([.ref (z + 325), .int p0]) (n := 3) (Nat.le_of_ble_eq_true rfl)
  have hgo : entryFrame m args 3 = entryFrame m ([.ref (z + 325), .int p0] : List Value).toArray 3 := by rw [ha]
  rw [hgo, lg_entry_eq]
  generalize (lg_sl ([.ref (z + 325), .int p0]) ++ List.replicate (3 - (lg_sl ([.ref (z + 325), .int p0])).length) Slot.unset).toArray = ls at hl ⊢
  have hl : lv_has ls 3 [(0, .ref (z + 325)), (1, .int p0)] := hl
  have C13 : ∀ (n : Nat), ∀ (I : dkI) (H : Heap) (locs : List Loc) (ls : Array Slot) (x13_2 : Int32), (61 - x13_2.toInt).toNat < n → dkW g z I H → va_S (dkA z) s.heap H locs → dkF [(326, 326, 0, 4), (326, 326, 11, 11), (326, 326, 15, 17), (327, 327, 0, 4), (328, 328, 0, 4), (329, 329, 0, 4), (330, 330, 0, 4), (331, 331, 0, 4), (332, 332, 0, 4), (333, 333, 0, 5), (334, 334, 0, 5), (335, 335, 0, 5), (336, 336, 0, 8)] I0 I → dkOk I → dkN [(1, 61)] x13_2 → lv_has ls 3 [(0, .ref (z + 325)), (1, .int p0), (2, .int x13_2)] → W p l e (headSpec wsX3_minutesToReign (dkR 5)).room s m args below meth c H locs 0 0 (MQ below (dkQi g z (fun r I1 => dkF [(326, 326, 0, 4), (326, 326, 11, 11), (326, 326, 15, 17), (327, 327, 0, 4), (328, 328, 0, 4), (329, 329, 0, 4), (330, 330, 0, 4), (331, 331, 0, 4), (332, 332, 0, 4), (333, 333, 0, 5), (334, 334, 0, 5), (335, 335, 0, 5), (336, 336, 0, 8)] I0 I1 ∧ dkOk I1 ∧ ((dkN [(-1000000, -1000000)] r ∧ True) ∨ (dkN [(1, 60)] r ∧ dkN [(-2147483648, 29)] (I1 326 3) ∧ True)))) args s 0 0 (dkA z)) (F0 m 13 ls []) := by
    intro n
    induction n with
    | zero => intro I H locs ls x13_2 hn; exact absurd hn (Nat.not_lt_zero _)
    | succ n ih13 =>
      intro I13_ H locs ls x13_2 hn13 hW hS hF_13 hO k13_0 hl
      have hF := hF_13
      refine lv_iload_n hx hb dX3_minutesToReign_13 rfl (lv_at hl 2 rfl) ?_
      refine lv_bipush (v := 60) hx hb dX3_minutesToReign_14 (by decide) ?_
      refine lv_icmp_gt (tgt := 38) hx hb dX3_minutesToReign_16 (by decide) (fun c1 => ?_) (fun c1 => ?_)
      ·
        have d2 : dkN [(61, 61)] x13_2 := dkN_le2 1 (dkN_lit (x := 60) (60) rfl) k13_0 (dkc_lt c1) rfl
        refine lv_ldc (v := (-1000000)) hx hb hown (hts (.constant RX3 43 (-1000000)) (List.mem_of_getElem? (i := 3) rfl)) dX3_minutesToReign_38 ?_
        exact W.iret (v := (-1000000)) hx hb hr (fun t ht hW9 => ⟨⟨(-1000000), I13_, rfl, ⟨hF, hO, Or.inl ⟨dkN_sub (dkN_lit (x := (-1000000)) (-1000000) rfl) rfl, trivial⟩⟩, dkW_eq ht hW⟩, hS.F ht⟩) hS.2.2 dX3_minutesToReign_40
      ·
        have d3 : dkN [(1, 60)] x13_2 := dkN_le1 0 k13_0 (dkN_lit (x := 60) (60) rfl) (dkc_nlt c1) rfl
        refine lv_aload_n hx hb dX3_minutesToReign_19 rfl (lv_at hl 0 rfl) ?_
        refine dk_get (k := 325) hx hb hts iX3_minutesToReign_3 hown hK (dk_at325 hW) rfl 1 (by decide) (hts (.fieldLink RX3 12 "DogKings$Seer" "then" "LDogKings$Town;") (List.mem_of_getElem? (i := 1) rfl)) rfl dX3_minutesToReign_20 ?_
        refine dk_Vi (As := []) (rest := []) ⟨hx, hb, hml, hown, hts⟩ (c_X4_pass_0 l g z I13_ (326) (by unfold dkT; omega) hO) (cwV 0 hts gX3_minutesToReign_X4_pass rfl rfl rfl (by decide +kernel) ⟨Nat.le_of_ble_eq_true rfl, Nat.le_of_ble_eq_true rfl⟩) (dk_at326 hW) rfl hK hT hW hS rfl hl.1 rfl (Nat.le_of_ble_eq_true rfl) dX3_minutesToReign_23 ⟨Nat.zero_le _, Nat.zero_le _⟩ (fun v4 I4 H4 L4 hp4 hW hS => ?_)
        obtain ⟨hF4, hO, hc4⟩ := hp4
        have hF := dkF_call hF hF4 rfl
        obtain ⟨dv4, f4_326_3, -⟩ := hc4
        refine lv_iload_n hx hb dX3_minutesToReign_26 rfl (lv_at hl 1 rfl) ?_
        refine lv_icmp_ne (tgt := 32) hx hb dX3_minutesToReign_27 (by decide) (fun c5 => ?_) (fun c5 => ?_)
        ·
          obtain ⟨v6, ev6⟩ : ∃ y : Int32, y = x13_2 + 1 := ⟨_, rfl⟩
          have dv6 : dkN [(2, 61)] v6 := by rw [ev6]; exact dkN_add d3 (dkN_lit (x := 1) (1) rfl) rfl
          refine lv_iinc (v := v6) (lv' := [(2, .int v6), (0, .ref (z + 325)), (1, .int p0)]) hx hb dX3_minutesToReign_32 hl (k := 2) rfl (by rw [ev6]; rfl) (by decide) rfl (fun ls hl => ?_)
          refine lv_goto (tgt := 13) hx hb dX3_minutesToReign_35 (by decide) ?_
          exact ih13 I4 _ _ ls v6 (dk_near hn13 (by rw [ev6]; exact dk_inc d3 rfl) (dkN_lt d3 rfl)) hW hS hF hO (dkN_sub dv6 rfl) (lv_sub hl [1, 2, 0] rfl)
        ·
          have d7 : dkN [(0, 4)] v4 := dkN_eq1 dv4 dp0 (congrArg Int32.toInt c5) rfl
          refine lv_iload_n hx hb dX3_minutesToReign_30 rfl (lv_at hl 2 rfl) ?_
          exact W.iret (v := x13_2) hx hb hr (fun t ht hW9 => ⟨⟨x13_2, I4, rfl, ⟨hF, hO, Or.inr (⟨dkN_sub d3 rfl, (show dkN [(-2147483648, 29)] (I4 326 3) from dkN_sub f4_326_3 rfl), trivial⟩)⟩, dkW_eq ht hW⟩, hS.F ht⟩) hS.2.2 dX3_minutesToReign_31
  refine lv_aload_n hx hb dX3_minutesToReign_0 rfl (lv_at hl 0 rfl) ?_
  refine dk_get (k := 325) hx hb hts iX3_minutesToReign_3 hown hK (dk_at325 hW) rfl 1 (by decide) (hts (.fieldLink RX3 12 "DogKings$Seer" "then" "LDogKings$Town;") (List.mem_of_getElem? (i := 1) rfl)) rfl dX3_minutesToReign_1 ?_
  refine lv_aload_n hx hb dX3_minutesToReign_4 rfl (lv_at hl 0 rfl) ?_
  refine dk_get (k := 325) hx hb hts iX3_minutesToReign_3 hown hK (dk_at325 hW) rfl 0 (by decide) (hts (.fieldLink RX3 22 "DogKings$Seer" "now" "LDogKings$Town;") (List.mem_of_getElem? (i := 2) rfl)) rfl dX3_minutesToReign_5 ?_
  refine dk_Vv (As := [.ref (z + 25)]) (rest := []) ⟨hx, hb, hml, hown, hts⟩ (c_X4_become_0 l g z I0 (326) (by unfold dkT; omega) (25) (by unfold dkT; omega) hO) (cwV 1 hts gX3_minutesToReign_X4_become rfl rfl rfl (by decide +kernel) ⟨Nat.le_of_ble_eq_true rfl, Nat.le_of_ble_eq_true rfl⟩) (dk_at326 hW) rfl hK hT hW hS rfl hl.1 rfl (Nat.le_of_ble_eq_true rfl) dX3_minutesToReign_8 ⟨Nat.zero_le _, Nat.zero_le _⟩ (fun I8 H8 L8 hp8 hW hS => ?_)
  obtain ⟨hF8, hO, hc8⟩ := hp8
  have hF := dkF_call hF hF8 rfl
  refine lv_iconst (v := 1) hx hb dX3_minutesToReign_11 (by decide) ?_
  refine lv_istore_n (lv' := [(2, .int 1), (0, .ref (z + 325)), (1, .int p0)]) hx hb dX3_minutesToReign_12 rfl hl (by decide) rfl (fun ls hl => ?_)
  exact C13 _ I8 _ _ ls 1 (Nat.lt_succ_self _) hW hS hF hO (dkN_sub (dkN_lit (x := 1) (1) rfl) rfl) (lv_sub hl [1, 2, 0] rfl)
set_option maxHeartbeats 4000000 in
set_option maxRecDepth 100000 in
theorem c_X5_heir_0 (l : Launch) (g : dkG) (z : Nat) (I0 : dkI) (p0 : Int32)  (hO : dkOk I0) : Met l yX5_heir wsX5_heir (dkR 6) (dkPc g z [.ref (z + 0), .int p0] I0) (dkQi g z (fun r I1 => dkF [(326, 326, 0, 4), (326, 326, 11, 11), (326, 326, 15, 17), (327, 327, 0, 4), (328, 328, 0, 4), (329, 329, 0, 4), (330, 330, 0, 4), (331, 331, 0, 4), (332, 332, 0, 4), (333, 333, 0, 5), (334, 334, 0, 5), (335, 335, 0, 5), (336, 336, 0, 8)] I0 I1 ∧ dkOk I1 ∧ ((dkN [(-1000001, -1000001)] r ∧ True) ∨ (dkN [(-1000000, -1000000)] r ∧ dkN [(0, 4)] p0 ∧ dkN [(1, 5)] (I1 25 4) ∧ True) ∨ (dkN [(1, 60)] r ∧ dkN [(0, 4)] p0 ∧ dkN [(1, 5)] (I1 25 4) ∧ dkN [(-2147483648, 29)] (I1 326 3) ∧ True)))) 0 0 (dkA z) := by
  refine Met.ofW (cc := cX5_heir) (maxL := 2) (ret := (some .int)) (by decide) rfl ?_
  intro p e s m args below meth c s₁ B hml hv
  obtain ⟨ha, hW, hK, hT⟩ := hv
  have hx := B.exec
  have hb := B.bytes
  have hr := B.returns
  have hts := atoms_spec (ws := wsX5_heir) B.pre
  have hown : s.vm.findClass RX5 = some m.cls := findClass_of_methodNamed B.named
  have hlocks := B.notSynchronized
  have hS : va_S (dkA z) s.heap s.heap [] := va_S.rf
  have hF : dkF [(326, 326, 0, 4), (326, 326, 11, 11), (326, 326, 15, 17), (327, 327, 0, 4), (328, 328, 0, 4), (329, 329, 0, 4), (330, 330, 0, 4), (331, 331, 0, 4), (332, 332, 0, 4), (333, 333, 0, 5), (334, 334, 0, 5), (335, 335, 0, 5), (336, 336, 0, 8)] I0 I0 := dkF_rf _ _
  have hl := lv_entry ([.ref (z + 0), .int p0]) (n := 2) (Nat.le_of_ble_eq_true rfl)
  have hgo : entryFrame m args 2 = entryFrame m ([.ref (z + 0), .int p0] : List Value).toArray 2 := by rw [ha]
  rw [hgo, lg_entry_eq]
  generalize (lg_sl ([.ref (z + 0), .int p0]) ++ List.replicate (2 - (lg_sl ([.ref (z + 0), .int p0])).length) Slot.unset).toArray = ls at hl ⊢
  have hl : lv_has ls 2 [(0, .ref (z + 0)), (1, .int p0)] := hl
  refine lv_aload_n hx hb dX5_heir_0 rfl (lv_at hl 0 rfl) ?_
  refine lv_iload_n hx hb dX5_heir_1 rfl (lv_at hl 1 rfl) ?_
  refine dk_Vi (As := [.int p0]) (rest := []) ⟨hx, hb, hml, hown, hts⟩ (c_X5_isPerson_0 l g z I0 p0 hO) (cwV 1 hts gX5_heir_X5_isPerson rfl rfl rfl (by decide +kernel) ⟨Nat.le_of_ble_eq_true rfl, Nat.le_of_ble_eq_true rfl⟩) (dk_at0 hW) rfl hK hT hW hS rfl hl.1 rfl (Nat.le_of_ble_eq_true rfl) dX5_heir_2 ⟨Nat.zero_le _, Nat.zero_le _⟩ (fun v1 I1 H1 L1 hp1 hW hS => ?_)
  obtain ⟨hF1, hO, hc1⟩ := hp1
  have hF := dkF_call hF hF1 rfl
  rcases hc1 with ⟨dv1, -⟩ | hc1
  ·
    refine lv_if_eq (tgt := 19) hx hb dX5_heir_5 (by decide) (fun c2 => ?_) (fun c2 => ?_)
    ·
      refine lv_ldc (v := (-1000001)) hx hb hown (hts (.constant RX5 70 (-1000001)) (List.mem_of_getElem? (i := 2) rfl)) dX5_heir_19 ?_
      exact W.iret (v := (-1000001)) hx hb hr (fun t ht hW9 => ⟨⟨(-1000001), I1, rfl, ⟨hF, hO, Or.inl ⟨dkN_sub (dkN_lit (x := (-1000001)) (-1000001) rfl) rfl, trivial⟩⟩, dkW_eq ht hW⟩, hS.F ht⟩) hS.2.2 dX5_heir_21
    ·
      exact (dkN_nil (show dkN [] v1 from dkN_ne1 (0) dv1 (dkN_lit (x := 0) (0) rfl) (dk_ne c2) rfl)).elim
  ·
    obtain ⟨dv1, a1_0, f1_25_4, -⟩ := hc1
    have d3 : dkN [(0, 4)] p0 := dkN_eq1 (dkN_top p0) a1_0 rfl rfl
    refine lv_if_eq (tgt := 19) hx hb dX5_heir_5 (by decide) (fun c4 => ?_) (fun c4 => ?_)
    ·
      exact (dkN_nil (show dkN [] v1 from dkN_eq1 dv1 (dkN_lit (x := 0) (0) rfl) (congrArg Int32.toInt c4) rfl)).elim
    ·
      refine lv_aload_n hx hb dX5_heir_8 rfl (lv_at hl 0 rfl) ?_
      refine dk_get (k := 0) hx hb hts iX5_heir_5 hown hK (dk_at0 hW) rfl 8 (by decide) (hts (.fieldLink RX5 51 "DogKings" "seer" "LDogKings$Seer;") (List.mem_of_getElem? (i := 1) rfl)) rfl dX5_heir_9 ?_
      refine lv_iload_n hx hb dX5_heir_12 rfl (lv_at hl 1 rfl) ?_
      refine dk_Vi (As := [.int p0]) (rest := []) ⟨hx, hb, hml, hown, hts⟩ (c_X3_minutesToReign_0 l g z I1 p0 d3 hO) (cwV 1 hts gX5_heir_X3_minutesToReign rfl rfl rfl (by decide +kernel) ⟨Nat.le_of_ble_eq_true rfl, Nat.le_of_ble_eq_true rfl⟩) (dk_at325 hW) rfl hK hT hW hS rfl hl.1 rfl (Nat.le_of_ble_eq_true rfl) dX5_heir_13 ⟨Nat.zero_le _, Nat.zero_le _⟩ (fun v5 I5 H5 L5 hp5 hW hS => ?_)
      obtain ⟨hF5, hO, hc5⟩ := hp5
      have hF := dkF_call hF hF5 rfl
      rcases hc5 with ⟨dv5, -⟩ | hc5
      ·
        refine lv_goto (tgt := 21) hx hb dX5_heir_16 (by decide) ?_
        exact W.iret (v := v5) hx hb hr (fun t ht hW9 => ⟨⟨v5, I5, rfl, ⟨hF, hO, Or.inr (Or.inl ⟨dkN_sub dv5 rfl, dkN_sub d3 rfl, (show dkN [(1, 5)] (I5 25 4) from dkN_sub (by rw [hF5 25 4 rfl]; exact f1_25_4) rfl), trivial⟩)⟩, dkW_eq ht hW⟩, hS.F ht⟩) hS.2.2 dX5_heir_21
      ·
        obtain ⟨dv5, f5_326_3, -⟩ := hc5
        refine lv_goto (tgt := 21) hx hb dX5_heir_16 (by decide) ?_
        exact W.iret (v := v5) hx hb hr (fun t ht hW9 => ⟨⟨v5, I5, rfl, ⟨hF, hO, Or.inr (Or.inr (⟨dkN_sub dv5 rfl, dkN_sub d3 rfl, (show dkN [(1, 5)] (I5 25 4) from dkN_sub (by rw [hF5 25 4 rfl]; exact f1_25_4) rfl), (show dkN [(-2147483648, 29)] (I5 326 3) from dkN_sub f5_326_3 rfl), trivial⟩))⟩, dkW_eq ht hW⟩, hS.F ht⟩) hS.2.2 dX5_heir_21
set_option maxHeartbeats 4000000 in
set_option maxRecDepth 100000 in
theorem c_X6_heir_0 (l : Launch) (g : dkG) (z : Nat) (I0 : dkI) (p0 : Int32)  (hO : dkOk I0) : Met l yX6_heir wsX6_heir (dkR 5) (dkPc g z [.ref (z + 340), .int p0] I0) (dkQi g z (fun r I1 => dkF [(340, 340, 20, 22), (348, 348, 0, 53)] I0 I1 ∧ dkOk I1 ∧ ((dkN [(-1000001, -1000001)] r ∧ True) ∨ (dkN [(-1000000, -1000000)] r ∧ dkN [(0, 4)] p0 ∧ dkN [(0, 0)] (I1 340 20) ∧ dkN [(0, 0)] (I1 340 21) ∧ dkN [(0, 0)] (I1 340 22) ∧ True) ∨ (dkN [(1, 60)] r ∧ dkN [(0, 4)] p0 ∧ dkN [(0, 0)] (I1 340 20) ∧ dkN [(0, 0)] (I1 340 21) ∧ dkN [(0, 0)] (I1 340 22) ∧ dkN [(0, 0)] (I1 348 3) ∧ True)))) 0 0 (dkA z) := by
  refine Met.ofW (cc := cX6_heir) (maxL := 3) (ret := (some .int)) (by decide) rfl ?_
  intro p e s m args below meth c s₁ B hml hv
  obtain ⟨ha, hW, hK, hT⟩ := hv
  have hx := B.exec
  have hb := B.bytes
  have hr := B.returns
  have hts := atoms_spec (ws := wsX6_heir) B.pre
  have hown : s.vm.findClass RX6 = some m.cls := findClass_of_methodNamed B.named
  have hlocks := B.notSynchronized
  have hS : va_S (dkA z) s.heap s.heap [] := va_S.rf
  have hF : dkF [(340, 340, 20, 22), (348, 348, 0, 53)] I0 I0 := dkF_rf _ _
  have hl := lv_entry ([.ref (z + 340), .int p0]) (n := 3) (Nat.le_of_ble_eq_true rfl)
  have hgo : entryFrame m args 3 = entryFrame m ([.ref (z + 340), .int p0] : List Value).toArray 3 := by rw [ha]
  rw [hgo, lg_entry_eq]
  generalize (lg_sl ([.ref (z + 340), .int p0]) ++ List.replicate (3 - (lg_sl ([.ref (z + 340), .int p0])).length) Slot.unset).toArray = ls at hl ⊢
  have hl : lv_has ls 3 [(0, .ref (z + 340)), (1, .int p0)] := hl
  have C17 : ∀ (n : Nat), ∀ (I : dkI) (H : Heap) (locs : List Loc) (ls : Array Slot) (x17_2 : Int32), (61 - x17_2.toInt).toNat < n → dkW g z I H → va_S (dkA z) s.heap H locs → dkF [(340, 340, 20, 22), (348, 348, 0, 53)] I0 I → dkOk I → dkN [(1, 61)] x17_2 → dkN [(0, 4)] p0 → dkN [(0, 0)] (I 340 20) → dkN [(0, 0)] (I 340 21) → dkN [(0, 0)] (I 340 22) → lv_has ls 3 [(0, .ref (z + 340)), (1, .int p0), (2, .int x17_2)] → W p l e (headSpec wsX6_heir (dkR 5)).room s m args below meth c H locs 0 0 (MQ below (dkQi g z (fun r I1 => dkF [(340, 340, 20, 22), (348, 348, 0, 53)] I0 I1 ∧ dkOk I1 ∧ ((dkN [(-1000001, -1000001)] r ∧ True) ∨ (dkN [(-1000000, -1000000)] r ∧ dkN [(0, 4)] p0 ∧ dkN [(0, 0)] (I1 340 20) ∧ dkN [(0, 0)] (I1 340 21) ∧ dkN [(0, 0)] (I1 340 22) ∧ True) ∨ (dkN [(1, 60)] r ∧ dkN [(0, 4)] p0 ∧ dkN [(0, 0)] (I1 340 20) ∧ dkN [(0, 0)] (I1 340 21) ∧ dkN [(0, 0)] (I1 340 22) ∧ dkN [(0, 0)] (I1 348 3) ∧ True)))) args s 0 0 (dkA z)) (F0 m 17 ls []) := by
    intro n
    induction n with
    | zero => intro I H locs ls x17_2 hn; exact absurd hn (Nat.not_lt_zero _)
    | succ n ih17 =>
      intro I17_ H locs ls x17_2 hn17 hW hS hF_17 hO k17_0 r17_0 f17_0 f17_1 f17_2 hl
      have hF := hF_17
      have C61 : ∀ (I : dkI) (H : Heap) (locs : List Loc) (ls : Array Slot), dkW g z I H → va_S (dkA z) s.heap H locs → dkF [(340, 340, 20, 22), (348, 348, 0, 53)] I0 I → dkOk I → dkN [(0, 4)] p0 → dkN [(1, 60)] x17_2 → dkN [(0, 0)] (I 340 20) → dkN [(0, 0)] (I 340 21) → dkN [(0, 0)] (I 340 22) → lv_has ls 3 [(0, .ref (z + 340)), (1, .int p0), (2, .int x17_2)] → W p l e (headSpec wsX6_heir (dkR 5)).room s m args below meth c H locs 0 0 (MQ below (dkQi g z (fun r I1 => dkF [(340, 340, 20, 22), (348, 348, 0, 53)] I0 I1 ∧ dkOk I1 ∧ ((dkN [(-1000001, -1000001)] r ∧ True) ∨ (dkN [(-1000000, -1000000)] r ∧ dkN [(0, 4)] p0 ∧ dkN [(0, 0)] (I1 340 20) ∧ dkN [(0, 0)] (I1 340 21) ∧ dkN [(0, 0)] (I1 340 22) ∧ True) ∨ (dkN [(1, 60)] r ∧ dkN [(0, 4)] p0 ∧ dkN [(0, 0)] (I1 340 20) ∧ dkN [(0, 0)] (I1 340 21) ∧ dkN [(0, 0)] (I1 340 22) ∧ dkN [(0, 0)] (I1 348 3) ∧ True)))) args s 0 0 (dkA z)) (F0 m 61 ls []) := by
        intro I61_ H locs ls hW hS hF_61 hO r61_0 r61_1 f61_0 f61_1 f61_2 hl
        have hF := hF_61
        obtain ⟨v1, ev1⟩ : ∃ y : Int32, y = x17_2 + 1 := ⟨_, rfl⟩
        have dv1 : dkN [(2, 61)] v1 := by rw [ev1]; exact dkN_add r61_1 (dkN_lit (x := 1) (1) rfl) rfl
        refine lv_iinc (v := v1) (lv' := [(2, .int v1), (0, .ref (z + 340)), (1, .int p0)]) hx hb dX6_heir_61 hl (k := 2) rfl (by rw [ev1]; rfl) (by decide) rfl (fun ls hl => ?_)
        refine lv_goto (tgt := 17) hx hb dX6_heir_64 (by decide) ?_
        exact ih17 I61_ _ _ ls v1 (dk_near hn17 (by rw [ev1]; exact dk_inc r61_1 rfl) (dkN_lt r61_1 rfl)) hW hS hF hO (dkN_sub dv1 rfl) (dkN_sub r61_0 rfl) (show dkN [(0, 0)] (I61_ 340 20) from dkN_sub f61_0 rfl) (show dkN [(0, 0)] (I61_ 340 21) from dkN_sub f61_1 rfl) (show dkN [(0, 0)] (I61_ 340 22) from dkN_sub f61_2 rfl) (lv_sub hl [1, 2, 0] rfl)
      refine lv_iload_n hx hb dX6_heir_17 rfl (lv_at hl 2 rfl) ?_
      refine lv_bipush (v := 61) hx hb dX6_heir_18 (by decide) ?_
      refine lv_icmp_ge (tgt := 67) hx hb dX6_heir_20 (by decide) (fun c2 => ?_) (fun c2 => ?_)
      ·
        have d3 : dkN [(61, 61)] x17_2 := dkN_le2 0 (dkN_lit (x := 61) (61) rfl) k17_0 (dkc_le c2) rfl
        refine lv_ldc (v := (-1000000)) hx hb hown (hts (.constant RX6 50 (-1000000)) (List.mem_of_getElem? (i := 3) rfl)) dX6_heir_67 ?_
        exact W.iret (v := (-1000000)) hx hb hr (fun t ht hW9 => ⟨⟨(-1000000), I17_, rfl, ⟨hF, hO, Or.inr (Or.inl ⟨dkN_sub (dkN_lit (x := (-1000000)) (-1000000) rfl) rfl, dkN_sub r17_0 rfl, (show dkN [(0, 0)] (I17_ 340 20) from dkN_sub f17_0 rfl), (show dkN [(0, 0)] (I17_ 340 21) from dkN_sub f17_1 rfl), (show dkN [(0, 0)] (I17_ 340 22) from dkN_sub f17_2 rfl), trivial⟩)⟩, dkW_eq ht hW⟩, hS.F ht⟩) hS.2.2 dX6_heir_69
      ·
        have d4 : dkN [(1, 60)] x17_2 := dkN_le1 1 k17_0 (dkN_lit (x := 61) (61) rfl) (dkc_nle c2) rfl
        refine lv_aload_n hx hb dX6_heir_23 rfl (lv_at hl 0 rfl) ?_
        refine dk_get (k := 340) hx hb hts iX6_heir_6 hown hK (dk_at340 hW) rfl 15 (by decide) (hts (.fieldLink RX6 31 "DogKingsModel" "tried" "[I") (List.mem_of_getElem? (i := 2) rfl)) rfl dX6_heir_24 ?_
        refine lv_iconst (v := 0) hx hb dX6_heir_27 (by decide) ?_
        refine lv_iconst (v := 0) hx hb dX6_heir_28 (by decide) ?_
        refine lv_iconst (v := 0) hx hb dX6_heir_29 (by decide) ?_
        refine dk_Sv (As := [.ref (z + 348), .int 0, .int 0, .int 0]) (rest := []) ⟨hx, hb, hml, hown, hts⟩ (c_X6_steps_1 l g z I17_ 0 0 0 hO) (va_cwS 4 hts gX6_heir_X6_steps rfl rfl rfl (by decide +kernel) ⟨Nat.le_of_ble_eq_true rfl, Nat.le_of_ble_eq_true rfl⟩) hK hT hW hS rfl hl.1 rfl (Nat.le_of_ble_eq_true rfl) dX6_heir_30 ⟨Nat.zero_le _, Nat.zero_le _⟩ (fun I5 H5 L5 hp5 hW hS => ?_)
        obtain ⟨hF5, hO, hi5_0, hc5⟩ := hp5
        have hF := dkF_call hF hF5 rfl
        refine lv_aload_n hx hb dX6_heir_33 rfl (lv_at hl 0 rfl) ?_
        refine dk_get (k := 340) hx hb hts iX6_heir_6 hown hK (dk_at340 hW) rfl 15 (by decide) (hts (.fieldLink RX6 31 "DogKingsModel" "tried" "[I") (List.mem_of_getElem? (i := 2) rfl)) rfl dX6_heir_34 ?_
        refine lv_iconst (v := 3) hx hb dX6_heir_37 (by decide) ?_
        refine dk_ild (k := 348) hx hb hK (dk_at348 hW) (dkN_in (n := 54) (dkN_lit (x := 3) (3) rfl) rfl) dX6_heir_38 ?_
        refine lv_topi (fun v6 ev6 => ?_)
        have ev6 : v6 = I5 348 3 := ev6
        refine lv_aload_n hx hb dX6_heir_39 rfl (lv_at hl 0 rfl) ?_
        refine dk_get (k := 340) hx hb hts iX6_heir_6 hown hK (dk_at340 hW) rfl 15 (by decide) (hts (.fieldLink RX6 31 "DogKingsModel" "tried" "[I") (List.mem_of_getElem? (i := 2) rfl)) rfl dX6_heir_40 ?_
        refine lv_iconst (v := 1) hx hb dX6_heir_43 (by decide) ?_
        refine dk_ild (k := 348) hx hb hK (dk_at348 hW) (dkN_in (n := 54) (dkN_lit (x := 1) (1) rfl) rfl) dX6_heir_44 ?_
        refine lv_topi (fun v7 ev7 => ?_)
        have ev7 : v7 = I5 348 1 := ev7
        have dv7 : dkN [(0, 30)] v7 := by rw [ev7]; exact (show dkN [(0, 30)] (I5 348 1) from (hO 348 1))
        refine lv_icmp_ne (tgt := 61) hx hb dX6_heir_45 (by decide) (fun c8 => ?_) (fun c8 => ?_)
        ·
          exact C61 I5 _ _ ls  hW hS hF hO (dkN_sub r17_0 rfl) (dkN_sub d4 rfl) (show dkN [(0, 0)] (I5 340 20) from dkN_sub (by rw [hF5 340 20 rfl]; exact f17_0) rfl) (show dkN [(0, 0)] (I5 340 21) from dkN_sub (by rw [hF5 340 21 rfl]; exact f17_1) rfl) (show dkN [(0, 0)] (I5 340 22) from dkN_sub (by rw [hF5 340 22 rfl]; exact f17_2) rfl) (lv_sub hl [0, 1, 2] rfl)
        ·
          have d9 : dkN [(0, 30)] v6 := dkN_eq1 (dkN_top v6) dv7 (congrArg Int32.toInt c8) rfl
          have f10 : dkN [(0, 30)] (I5 348 3) := by rw [← ev6]; exact d9
          refine lv_aload_n hx hb dX6_heir_48 rfl (lv_at hl 0 rfl) ?_
          refine dk_get (k := 340) hx hb hts iX6_heir_6 hown hK (dk_at340 hW) rfl 15 (by decide) (hts (.fieldLink RX6 31 "DogKingsModel" "tried" "[I") (List.mem_of_getElem? (i := 2) rfl)) rfl dX6_heir_49 ?_
          refine dk_Si (As := [.ref (z + 348)]) (rest := []) ⟨hx, hb, hml, hown, hts⟩ (c_X6_rings_1 l g z I5 hO) (va_cwS 1 hts gX6_heir_X6_rings rfl rfl rfl (by decide +kernel) ⟨Nat.le_of_ble_eq_true rfl, Nat.le_of_ble_eq_true rfl⟩) hK hT hW hS rfl hl.1 rfl (Nat.le_of_ble_eq_true rfl) dX6_heir_52 ⟨Nat.zero_le _, Nat.zero_le _⟩ (fun v11 I11 H11 L11 hp11 hW hS => ?_)
          obtain ⟨hF11, hO, hc11⟩ := hp11
          have hF := dkF_call hF hF11 rfl
          obtain ⟨dv11, f11_348_3, -⟩ := hc11
          refine lv_iload_n hx hb dX6_heir_55 rfl (lv_at hl 1 rfl) ?_
          refine lv_icmp_ne (tgt := 61) hx hb dX6_heir_56 (by decide) (fun c12 => ?_) (fun c12 => ?_)
          ·
            exact C61 I11 _ _ ls  hW hS hF hO (dkN_sub r17_0 rfl) (dkN_sub d4 rfl) (show dkN [(0, 0)] (I11 340 20) from dkN_sub (by rw [hF11 340 20 rfl]; exact (by rw [hF5 340 20 rfl]; exact f17_0)) rfl) (show dkN [(0, 0)] (I11 340 21) from dkN_sub (by rw [hF11 340 21 rfl]; exact (by rw [hF5 340 21 rfl]; exact f17_1)) rfl) (show dkN [(0, 0)] (I11 340 22) from dkN_sub (by rw [hF11 340 22 rfl]; exact (by rw [hF5 340 22 rfl]; exact f17_2)) rfl) (lv_sub hl [0, 1, 2] rfl)
          ·
            have d13 : dkN [(0, 4)] v11 := dkN_eq1 dv11 r17_0 (congrArg Int32.toInt c12) rfl
            refine lv_iload_n hx hb dX6_heir_59 rfl (lv_at hl 2 rfl) ?_
            exact W.iret (v := x17_2) hx hb hr (fun t ht hW9 => ⟨⟨x17_2, I11, rfl, ⟨hF, hO, Or.inr (Or.inr (⟨dkN_sub d4 rfl, dkN_sub r17_0 rfl, (show dkN [(0, 0)] (I11 340 20) from dkN_sub (by rw [hF11 340 20 rfl]; exact (by rw [hF5 340 20 rfl]; exact f17_0)) rfl), (show dkN [(0, 0)] (I11 340 21) from dkN_sub (by rw [hF11 340 21 rfl]; exact (by rw [hF5 340 21 rfl]; exact f17_1)) rfl), (show dkN [(0, 0)] (I11 340 22) from dkN_sub (by rw [hF11 340 22 rfl]; exact (by rw [hF5 340 22 rfl]; exact f17_2)) rfl), (show dkN [(0, 0)] (I11 348 3) from dkN_sub f11_348_3 rfl), trivial⟩))⟩, dkW_eq ht hW⟩, hS.F ht⟩) hS.2.2 dX6_heir_60
  refine lv_aload_n hx hb dX6_heir_0 rfl (lv_at hl 0 rfl) ?_
  refine lv_iload_n hx hb dX6_heir_1 rfl (lv_at hl 1 rfl) ?_
  refine dk_Vi (As := [.int p0]) (rest := []) ⟨hx, hb, hml, hown, hts⟩ (c_X6_isPerson_0 l g z I0 p0 hO) (cwV 1 hts gX6_heir_X6_isPerson rfl rfl rfl (by decide +kernel) ⟨Nat.le_of_ble_eq_true rfl, Nat.le_of_ble_eq_true rfl⟩) (dk_at340 hW) rfl hK hT hW hS rfl hl.1 rfl (Nat.le_of_ble_eq_true rfl) dX6_heir_2 ⟨Nat.zero_le _, Nat.zero_le _⟩ (fun v14 I14 H14 L14 hp14 hW hS => ?_)
  obtain ⟨hF14, hO, hc14⟩ := hp14
  have hF := dkF_call hF hF14 rfl
  rcases hc14 with ⟨dv14, -⟩ | hc14
  ·
    refine lv_if_ne (tgt := 11) hx hb dX6_heir_5 (by decide) (fun c15 => ?_) (fun c15 => ?_)
    ·
      exact (dkN_nil (show dkN [] v14 from dkN_ne1 (0) dv14 (dkN_lit (x := 0) (0) rfl) (dk_ne c15) rfl)).elim
    ·
      refine lv_ldc (v := (-1000001)) hx hb hown (hts (.constant RX6 64 (-1000001)) (List.mem_of_getElem? (i := 1) rfl)) dX6_heir_8 ?_
      exact W.iret (v := (-1000001)) hx hb hr (fun t ht hW9 => ⟨⟨(-1000001), I14, rfl, ⟨hF, hO, Or.inl ⟨dkN_sub (dkN_lit (x := (-1000001)) (-1000001) rfl) rfl, trivial⟩⟩, dkW_eq ht hW⟩, hS.F ht⟩) hS.2.2 dX6_heir_10
  ·
    obtain ⟨dv14, a14_0, -⟩ := hc14
    have d16 : dkN [(0, 4)] p0 := dkN_eq1 (dkN_top p0) a14_0 rfl rfl
    refine lv_if_ne (tgt := 11) hx hb dX6_heir_5 (by decide) (fun c17 => ?_) (fun c17 => ?_)
    ·
      refine lv_aload_n hx hb dX6_heir_11 rfl (lv_at hl 0 rfl) ?_
      refine dk_Vv (As := []) (rest := []) ⟨hx, hb, hml, hown, hts⟩ (c_X6_tries_0 l g z I14 hO) (cwV 0 hts gX6_heir_X6_tries rfl rfl rfl (by decide +kernel) ⟨Nat.le_of_ble_eq_true rfl, Nat.le_of_ble_eq_true rfl⟩) (dk_at340 hW) rfl hK hT hW hS rfl hl.1 rfl (Nat.le_of_ble_eq_true rfl) dX6_heir_12 ⟨Nat.zero_le _, Nat.zero_le _⟩ (fun I18 H18 L18 hp18 hW hS => ?_)
      obtain ⟨hF18, hO, hc18⟩ := hp18
      have hF := dkF_call hF hF18 rfl
      obtain ⟨f18_340_20, f18_340_21, f18_340_22, -⟩ := hc18
      refine lv_iconst (v := 1) hx hb dX6_heir_15 (by decide) ?_
      refine lv_istore_n (lv' := [(2, .int 1), (0, .ref (z + 340)), (1, .int p0)]) hx hb dX6_heir_16 rfl hl (by decide) rfl (fun ls hl => ?_)
      exact C17 _ I18 _ _ ls 1 (Nat.lt_succ_self _) hW hS hF hO (dkN_sub (dkN_lit (x := 1) (1) rfl) rfl) (dkN_sub d16 rfl) (show dkN [(0, 0)] (I18 340 20) from dkN_sub f18_340_20 rfl) (show dkN [(0, 0)] (I18 340 21) from dkN_sub f18_340_21 rfl) (show dkN [(0, 0)] (I18 340 22) from dkN_sub f18_340_22 rfl) (lv_sub hl [1, 2, 0] rfl)
    ·
      exact (dkN_nil (show dkN [] v14 from dkN_eq1 dv14 (dkN_lit (x := 0) (0) rfl) (congrArg Int32.toInt c17) rfl)).elim
set_option maxHeartbeats 4000000 in
set_option maxRecDepth 100000 in
theorem c_X4_take_0 (l : Launch) (g : dkG) (z : Nat) (I0 : dkI) (t0 : Nat) (ht0 : dkT t0) (p0 : Int32) (p1 : Int32) (p2 : Int32) (dp0 : dkN [(4, 4)] p0) (dp1 : dkN [(0, 4)] p1) (dp2 : dkN [(0, 9)] p2)  (hO : dkOk I0) : Met l yX4_take wsX4_take (dkR 0) (dkPc g z [.ref (z + t0), .int p0, .int p1, .int p2] I0) (dkQv g z (fun I1 => dkF [(t0 + 4, t0 + 4, 0, 4)] I0 I1 ∧ dkOk I1 ∧ ((True)))) 0 0 (dkA z) := by
  refine Met.ofW (cc := cX4_take) (maxL := 4) (ret := none) (by decide) rfl ?_
  intro p e s m args below meth c s₁ B hml hv
  obtain ⟨ha, hW, hK, hT⟩ := hv
  have hx := B.exec
  have hb := B.bytes
  have hr := B.returns
  have hts := atoms_spec (ws := wsX4_take) B.pre
  have hown : s.vm.findClass RX4 = some m.cls := findClass_of_methodNamed B.named
  have hlocks := B.notSynchronized
  have hS : va_S (dkA z) s.heap s.heap [] := va_S.rf
  have hF : dkF [(t0 + 4, t0 + 4, 0, 4)] I0 I0 := dkF_rf _ _
  have hl := lv_entry ([.ref (z + t0), .int p0, .int p1, .int p2]) (n := 4) (Nat.le_of_ble_eq_true rfl)
  have hgo : entryFrame m args 4 = entryFrame m ([.ref (z + t0), .int p0, .int p1, .int p2] : List Value).toArray 4 := by rw [ha]
  rw [hgo, lg_entry_eq]
  generalize (lg_sl ([.ref (z + t0), .int p0, .int p1, .int p2]) ++ List.replicate (4 - (lg_sl ([.ref (z + t0), .int p0, .int p1, .int p2])).length) Slot.unset).toArray = ls at hl ⊢
  have hl : lv_has ls 4 [(0, .ref (z + t0)), (1, .int p0), (2, .int p1), (3, .int p2)] := hl
  refine lv_iload_n hx hb dX4_take_0 rfl (lv_at hl 1 rfl) ?_
  by_cases c1 : p0 = 4
  ·
    have qc1 : p0.toInt = 4 := by rw [c1]; rfl
    have d2 : dkN [(4, 4)] p0 := dkN_lit (4) qc1
    refine lv_tableIn (tgt := 76) hx hb dX4_take_1 (by rw [qc1]; decide) (by rw [qc1]; decide) (by rw [qc1]; rfl) (by decide) ?_
    refine lv_aload_n hx hb dX4_take_76 rfl (lv_at hl 0 rfl) ?_
    refine dk_get (k := t0) hx hb hts iX4_take_4 hown hK (dk_aT0 ht0 hW) rfl 8 (by decide) (hts (.fieldLink RX4 21 "DogKings$Town" "bones" "[I") (List.mem_of_getElem? (i := 5) rfl)) rfl dX4_take_77 ?_
    refine lv_iload_n hx hb dX4_take_80 rfl (lv_at hl 2 rfl) ?_
    refine lv_iload_n hx hb dX4_take_81 rfl (lv_at hl 3 rfl) ?_
    refine dk_ist (k := (t0 + 4)) hx hb hK hW (fun _ => dkC_T g z ht0 (c := 4) (by decide) _) (by have := dkT_lt ht0; omega) hS (dkN_in (n := 5) dp1 rfl) dX4_take_82 (fun I3 H3 L3 eI3 hW hS => ?_)
    have hO := dkO_setT hO ht0 (c := 4) (by decide) eI3 (dkN_sub dp2 rfl)
    have hF := dkF_set hF eI3 (dkIn_atv (i := 0) rfl (Nat.le_refl _) (Nat.le_refl _) dp1 rfl)
    refine lv_goto (tgt := 86) hx hb dX4_take_83 (by decide) ?_
    exact W.vret hx hb hr (fun t ht hW9 => ⟨⟨I3, rfl, ⟨hF, hO, trivial⟩, dkW_eq ht hW⟩, hS.F ht⟩) hS.2.2 dX4_take_86
  ·
    exact (dkN_nil (show dkN [] p0 from dkN_ne1 (4) dp0 (dkN_lit (x := 4) (4) rfl) (dk_ne c1) rfl)).elim
set_option maxHeartbeats 4000000 in
set_option maxRecDepth 100000 in
theorem c_X3_reignsWith_9 (l : Launch) (g : dkG) (z : Nat) (I0 : dkI) (p0 : Int32) (p1 : Int32) (p2 : Int32) (dp0 : dkN [(4, 4)] p0) (dp1 : dkN [(0, 4)] p1) (dp2 : dkN [(0, 9)] p2)  (hO : dkOk I0) : Met l yX3_reignsWith wsX3_reignsWith (dkR 5) (dkPc g z [.ref (z + 325), .int p0, .int p1, .int p2] I0) (dkQi g z (fun r I1 => dkF [(326, 326, 0, 4), (326, 326, 11, 11), (326, 326, 15, 17), (327, 327, 0, 4), (328, 328, 0, 4), (329, 329, 0, 4), (330, 330, 0, 4), (331, 331, 0, 4), (332, 332, 0, 4), (333, 333, 0, 5), (334, 334, 0, 5), (335, 335, 0, 5), (336, 336, 0, 8)] I0 I1 ∧ dkOk I1 ∧ ((dkN [(0, 1)] r ∧ True)))) 0 0 (dkA z) := by
  refine Met.ofW (cc := cX3_reignsWith) (maxL := 4) (ret := (some .boolean)) (by decide) rfl ?_
  intro p e s m args below meth c s₁ B hml hv
  obtain ⟨ha, hW, hK, hT⟩ := hv
  have hx := B.exec
  have hb := B.bytes
  have hr := B.returns
  have hts := atoms_spec (ws := wsX3_reignsWith) B.pre
  have hown : s.vm.findClass RX3 = some m.cls := findClass_of_methodNamed B.named
  have hlocks := B.notSynchronized
  have hS : va_S (dkA z) s.heap s.heap [] := va_S.rf
  have hF : dkF [(326, 326, 0, 4), (326, 326, 11, 11), (326, 326, 15, 17), (327, 327, 0, 4), (328, 328, 0, 4), (329, 329, 0, 4), (330, 330, 0, 4), (331, 331, 0, 4), (332, 332, 0, 4), (333, 333, 0, 5), (334, 334, 0, 5), (335, 335, 0, 5), (336, 336, 0, 8)] I0 I0 := dkF_rf _ _
  have hl := lv_entry ([.ref (z + 325), .int p0, .int p1, .int p2]) (n := 4) (Nat.le_of_ble_eq_true rfl)
  have hgo : entryFrame m args 4 = entryFrame m ([.ref (z + 325), .int p0, .int p1, .int p2] : List Value).toArray 4 := by rw [ha]
  rw [hgo, lg_entry_eq]
  generalize (lg_sl ([.ref (z + 325), .int p0, .int p1, .int p2]) ++ List.replicate (4 - (lg_sl ([.ref (z + 325), .int p0, .int p1, .int p2])).length) Slot.unset).toArray = ls at hl ⊢
  have hl : lv_has ls 4 [(0, .ref (z + 325)), (1, .int p0), (2, .int p1), (3, .int p2)] := hl
  refine lv_aload_n hx hb dX3_reignsWith_0 rfl (lv_at hl 0 rfl) ?_
  refine dk_get (k := 325) hx hb hts iX3_reignsWith_3 hown hK (dk_at325 hW) rfl 1 (by decide) (hts (.fieldLink RX3 12 "DogKings$Seer" "then" "LDogKings$Town;") (List.mem_of_getElem? (i := 1) rfl)) rfl dX3_reignsWith_1 ?_
  refine lv_aload_n hx hb dX3_reignsWith_4 rfl (lv_at hl 0 rfl) ?_
  refine dk_get (k := 325) hx hb hts iX3_reignsWith_3 hown hK (dk_at325 hW) rfl 0 (by decide) (hts (.fieldLink RX3 22 "DogKings$Seer" "now" "LDogKings$Town;") (List.mem_of_getElem? (i := 2) rfl)) rfl dX3_reignsWith_5 ?_
  refine dk_Vv (As := [.ref (z + 25)]) (rest := []) ⟨hx, hb, hml, hown, hts⟩ (c_X4_become_0 l g z I0 (326) (by unfold dkT; omega) (25) (by unfold dkT; omega) hO) (cwV 1 hts gX3_reignsWith_X4_become rfl rfl rfl (by decide +kernel) ⟨Nat.le_of_ble_eq_true rfl, Nat.le_of_ble_eq_true rfl⟩) (dk_at326 hW) rfl hK hT hW hS rfl hl.1 rfl (Nat.le_of_ble_eq_true rfl) dX3_reignsWith_8 ⟨Nat.zero_le _, Nat.zero_le _⟩ (fun I1 H1 L1 hp1 hW hS => ?_)
  obtain ⟨hF1, hO, hc1⟩ := hp1
  have hF := dkF_call hF hF1 rfl
  refine lv_aload_n hx hb dX3_reignsWith_11 rfl (lv_at hl 0 rfl) ?_
  refine dk_get (k := 325) hx hb hts iX3_reignsWith_3 hown hK (dk_at325 hW) rfl 1 (by decide) (hts (.fieldLink RX3 12 "DogKings$Seer" "then" "LDogKings$Town;") (List.mem_of_getElem? (i := 1) rfl)) rfl dX3_reignsWith_12 ?_
  refine lv_iload_n hx hb dX3_reignsWith_15 rfl (lv_at hl 1 rfl) ?_
  refine lv_iload_n hx hb dX3_reignsWith_16 rfl (lv_at hl 2 rfl) ?_
  refine lv_iload_n hx hb dX3_reignsWith_17 rfl (lv_at hl 3 rfl) ?_
  refine dk_Vv (As := [.int p0, .int p1, .int p2]) (rest := []) ⟨hx, hb, hml, hown, hts⟩ (c_X4_take_0 l g z I1 (326) (by unfold dkT; omega) p0 p1 p2 dp0 dp1 dp2 hO) (cwV 3 hts gX3_reignsWith_X4_take rfl rfl rfl (by decide +kernel) ⟨Nat.le_of_ble_eq_true rfl, Nat.le_of_ble_eq_true rfl⟩) (dk_at326 hW) rfl hK hT hW hS rfl hl.1 rfl (Nat.le_of_ble_eq_true rfl) dX3_reignsWith_18 ⟨Nat.zero_le _, Nat.zero_le _⟩ (fun I2 H2 L2 hp2 hW hS => ?_)
  obtain ⟨hF2, hO, hc2⟩ := hp2
  have hF := dkF_call hF hF2 rfl
  refine lv_aload_n hx hb dX3_reignsWith_21 rfl (lv_at hl 0 rfl) ?_
  refine dk_get (k := 325) hx hb hts iX3_reignsWith_3 hown hK (dk_at325 hW) rfl 1 (by decide) (hts (.fieldLink RX3 12 "DogKings$Seer" "then" "LDogKings$Town;") (List.mem_of_getElem? (i := 1) rfl)) rfl dX3_reignsWith_22 ?_
  refine dk_Vv (As := []) (rest := []) ⟨hx, hb, hml, hown, hts⟩ (c_X4_runToBell_0 l g z I2 (326) (by unfold dkT; omega) hO) (cwV 0 hts gX3_reignsWith_X4_runToBell rfl rfl rfl (by decide +kernel) ⟨Nat.le_of_ble_eq_true rfl, Nat.le_of_ble_eq_true rfl⟩) (dk_at326 hW) rfl hK hT hW hS rfl hl.1 rfl (Nat.le_of_ble_eq_true rfl) dX3_reignsWith_25 ⟨Nat.zero_le _, Nat.zero_le _⟩ (fun I3 H3 L3 hp3 hW hS => ?_)
  obtain ⟨hF3, hO, hc3⟩ := hp3
  have hF := dkF_call hF hF3 rfl
  refine lv_aload_n hx hb dX3_reignsWith_28 rfl (lv_at hl 0 rfl) ?_
  refine dk_get (k := 325) hx hb hts iX3_reignsWith_3 hown hK (dk_at325 hW) rfl 1 (by decide) (hts (.fieldLink RX3 12 "DogKings$Seer" "then" "LDogKings$Town;") (List.mem_of_getElem? (i := 1) rfl)) rfl dX3_reignsWith_29 ?_
  refine dk_Vi (As := []) (rest := []) ⟨hx, hb, hml, hown, hts⟩ (c_X4_kingAtBell_0 l g z I3 (326) (by unfold dkT; omega) hO) (cwV 0 hts gX3_reignsWith_X4_kingAtBell rfl rfl rfl (by decide +kernel) ⟨Nat.le_of_ble_eq_true rfl, Nat.le_of_ble_eq_true rfl⟩) (dk_at326 hW) rfl hK hT hW hS rfl hl.1 rfl (Nat.le_of_ble_eq_true rfl) dX3_reignsWith_32 ⟨Nat.zero_le _, Nat.zero_le _⟩ (fun v4 I4 H4 L4 hp4 hW hS => ?_)
  obtain ⟨hF4, hO, hc4⟩ := hp4
  have hF := dkF_call hF hF4 rfl
  obtain ⟨dv4, -⟩ := hc4
  refine lv_iload_n hx hb dX3_reignsWith_35 rfl (lv_at hl 2 rfl) ?_
  refine lv_icmp_ne (tgt := 43) hx hb dX3_reignsWith_36 (by decide) (fun c5 => ?_) (fun c5 => ?_)
  ·
    refine lv_iconst (v := 0) hx hb dX3_reignsWith_43 (by decide) ?_
    exact W.zret (v := 0) (ty := .boolean) hx hb hr rfl (fun t ht hW9 => ⟨⟨0, I4, rfl, ⟨hF, hO, ⟨dkN_sub (dkN_lit (x := 0) (0) rfl) rfl, trivial⟩⟩, dkW_eq ht hW⟩, hS.F ht⟩) hS.2.2 dX3_reignsWith_44
  ·
    have d6 : dkN [(0, 4)] v4 := dkN_eq1 dv4 dp1 (congrArg Int32.toInt c5) rfl
    refine lv_iconst (v := 1) hx hb dX3_reignsWith_39 (by decide) ?_
    refine lv_goto (tgt := 44) hx hb dX3_reignsWith_40 (by decide) ?_
    exact W.zret (v := 1) (ty := .boolean) hx hb hr rfl (fun t ht hW9 => ⟨⟨1, I4, rfl, ⟨hF, hO, ⟨dkN_sub (dkN_lit (x := 1) (1) rfl) rfl, trivial⟩⟩, dkW_eq ht hW⟩, hS.F ht⟩) hS.2.2 dX3_reignsWith_44
set_option maxHeartbeats 4000000 in
set_option maxRecDepth 100000 in
theorem c_X3_fewestBones_0 (l : Launch) (g : dkG) (z : Nat) (I0 : dkI) (p0 : Int32) (dp0 : dkN [(0, 4)] p0)  (hO : dkOk I0) : Met l yX3_fewestBones wsX3_fewestBones (dkR 6) (dkPc g z [.ref (z + 325), .int p0] I0) (dkQi g z (fun r I1 => dkF [(326, 326, 0, 4), (326, 326, 11, 11), (326, 326, 15, 17), (327, 327, 0, 4), (328, 328, 0, 4), (329, 329, 0, 4), (330, 330, 0, 4), (331, 331, 0, 4), (332, 332, 0, 4), (333, 333, 0, 5), (334, 334, 0, 5), (335, 335, 0, 5), (336, 336, 0, 8)] I0 I1 ∧ dkOk I1 ∧ ((dkN [(-1000000, -1000000), (0, 9)] r ∧ True)))) 0 0 (dkA z) := by
  refine Met.ofW (cc := cX3_fewestBones) (maxL := 3) (ret := (some .int)) (by decide) rfl ?_
  intro p e s m args below meth c s₁ B hml hv
  obtain ⟨ha, hW, hK, hT⟩ := hv
  have hx := B.exec
  have hb := B.bytes
  have hr := B.returns
  have hts := atoms_spec (ws := wsX3_fewestBones) B.pre
  have hown : s.vm.findClass RX3 = some m.cls := findClass_of_methodNamed B.named
  have hlocks := B.notSynchronized
  have hS : va_S (dkA z) s.heap s.heap [] := va_S.rf
  have hF : dkF [(326, 326, 0, 4), (326, 326, 11, 11), (326, 326, 15, 17), (327, 327, 0, 4), (328, 328, 0, 4), (329, 329, 0, 4), (330, 330, 0, 4), (331, 331, 0, 4), (332, 332, 0, 4), (333, 333, 0, 5), (334, 334, 0, 5), (335, 335, 0, 5), (336, 336, 0, 8)] I0 I0 := dkF_rf _ _
  have hl := lv_entry ([.ref (z + 325), .int p0]) (n := 3) (Nat.le_of_ble_eq_true rfl)
  have hgo : entryFrame m args 3 = entryFrame m ([.ref (z + 325), .int p0] : List Value).toArray 3 := by rw [ha]
  rw [hgo, lg_entry_eq]
  generalize (lg_sl ([.ref (z + 325), .int p0]) ++ List.replicate (3 - (lg_sl ([.ref (z + 325), .int p0])).length) Slot.unset).toArray = ls at hl ⊢
  have hl : lv_has ls 3 [(0, .ref (z + 325)), (1, .int p0)] := hl
  have C2 : ∀ (n : Nat), ∀ (I : dkI) (H : Heap) (locs : List Loc) (ls : Array Slot) (x2_2 : Int32), (10 - x2_2.toInt).toNat < n → dkW g z I H → va_S (dkA z) s.heap H locs → dkF [(326, 326, 0, 4), (326, 326, 11, 11), (326, 326, 15, 17), (327, 327, 0, 4), (328, 328, 0, 4), (329, 329, 0, 4), (330, 330, 0, 4), (331, 331, 0, 4), (332, 332, 0, 4), (333, 333, 0, 5), (334, 334, 0, 5), (335, 335, 0, 5), (336, 336, 0, 8)] I0 I → dkOk I → dkN [(0, 10)] x2_2 → lv_has ls 3 [(0, .ref (z + 325)), (1, .int p0), (2, .int x2_2)] → W p l e (headSpec wsX3_fewestBones (dkR 6)).room s m args below meth c H locs 0 0 (MQ below (dkQi g z (fun r I1 => dkF [(326, 326, 0, 4), (326, 326, 11, 11), (326, 326, 15, 17), (327, 327, 0, 4), (328, 328, 0, 4), (329, 329, 0, 4), (330, 330, 0, 4), (331, 331, 0, 4), (332, 332, 0, 4), (333, 333, 0, 5), (334, 334, 0, 5), (335, 335, 0, 5), (336, 336, 0, 8)] I0 I1 ∧ dkOk I1 ∧ ((dkN [(-1000000, -1000000), (0, 9)] r ∧ True)))) args s 0 0 (dkA z)) (F0 m 2 ls []) := by
    intro n
    induction n with
    | zero => intro I H locs ls x2_2 hn; exact absurd hn (Nat.not_lt_zero _)
    | succ n ih2 =>
      intro I2_ H locs ls x2_2 hn2 hW hS hF_2 hO k2_0 hl
      have hF := hF_2
      refine lv_iload_n hx hb dX3_fewestBones_2 rfl (lv_at hl 2 rfl) ?_
      refine lv_bipush (v := 9) hx hb dX3_fewestBones_3 (by decide) ?_
      refine lv_icmp_gt (tgt := 26) hx hb dX3_fewestBones_5 (by decide) (fun c1 => ?_) (fun c1 => ?_)
      ·
        have d2 : dkN [(10, 10)] x2_2 := dkN_le2 1 (dkN_lit (x := 9) (9) rfl) k2_0 (dkc_lt c1) rfl
        refine lv_ldc (v := (-1000000)) hx hb hown (hts (.constant RX3 43 (-1000000)) (List.mem_of_getElem? (i := 1) rfl)) dX3_fewestBones_26 ?_
        exact W.iret (v := (-1000000)) hx hb hr (fun t ht hW9 => ⟨⟨(-1000000), I2_, rfl, ⟨hF, hO, ⟨dkN_sub (dkN_lit (x := (-1000000)) (-1000000) rfl) rfl, trivial⟩⟩, dkW_eq ht hW⟩, hS.F ht⟩) hS.2.2 dX3_fewestBones_28
      ·
        have d3 : dkN [(0, 9)] x2_2 := dkN_le1 0 k2_0 (dkN_lit (x := 9) (9) rfl) (dkc_nlt c1) rfl
        refine lv_aload_n hx hb dX3_fewestBones_8 rfl (lv_at hl 0 rfl) ?_
        refine lv_iconst (v := 4) hx hb dX3_fewestBones_9 (by decide) ?_
        refine lv_iload_n hx hb dX3_fewestBones_10 rfl (lv_at hl 1 rfl) ?_
        refine lv_iload_n hx hb dX3_fewestBones_11 rfl (lv_at hl 2 rfl) ?_
        refine dk_Vi (As := [.int 4, .int p0, .int x2_2]) (rest := []) ⟨hx, hb, hml, hown, hts⟩ (c_X3_reignsWith_9 l g z I2_ 4 p0 x2_2 (dkN_lit (x := 4) (4) rfl) dp0 d3 hO) (cwV 3 hts gX3_fewestBones_X3_reignsWith rfl rfl rfl (by decide +kernel) ⟨Nat.le_of_ble_eq_true rfl, Nat.le_of_ble_eq_true rfl⟩) (dk_at325 hW) rfl hK hT hW hS rfl hl.1 rfl (Nat.le_of_ble_eq_true rfl) dX3_fewestBones_12 ⟨Nat.zero_le _, Nat.zero_le _⟩ (fun v4 I4 H4 L4 hp4 hW hS => ?_)
        obtain ⟨hF4, hO, hc4⟩ := hp4
        have hF := dkF_call hF hF4 rfl
        obtain ⟨dv4, -⟩ := hc4
        refine lv_if_eq (tgt := 20) hx hb dX3_fewestBones_15 (by decide) (fun c5 => ?_) (fun c5 => ?_)
        ·
          have d6 : dkN [(0, 0)] v4 := dkN_eq1 dv4 (dkN_lit (x := 0) (0) rfl) (congrArg Int32.toInt c5) rfl
          obtain ⟨v7, ev7⟩ : ∃ y : Int32, y = x2_2 + 1 := ⟨_, rfl⟩
          have dv7 : dkN [(1, 10)] v7 := by rw [ev7]; exact dkN_add d3 (dkN_lit (x := 1) (1) rfl) rfl
          refine lv_iinc (v := v7) (lv' := [(2, .int v7), (0, .ref (z + 325)), (1, .int p0)]) hx hb dX3_fewestBones_20 hl (k := 2) rfl (by rw [ev7]; rfl) (by decide) rfl (fun ls hl => ?_)
          refine lv_goto (tgt := 2) hx hb dX3_fewestBones_23 (by decide) ?_
          exact ih2 I4 _ _ ls v7 (dk_near hn2 (by rw [ev7]; exact dk_inc d3 rfl) (dkN_lt d3 rfl)) hW hS hF hO (dkN_sub dv7 rfl) (lv_sub hl [1, 2, 0] rfl)
        ·
          have d8 : dkN [(1, 1)] v4 := dkN_ne1 (0) dv4 (dkN_lit (x := 0) (0) rfl) (dk_ne c5) rfl
          refine lv_iload_n hx hb dX3_fewestBones_18 rfl (lv_at hl 2 rfl) ?_
          exact W.iret (v := x2_2) hx hb hr (fun t ht hW9 => ⟨⟨x2_2, I4, rfl, ⟨hF, hO, ⟨dkN_sub d3 rfl, trivial⟩⟩, dkW_eq ht hW⟩, hS.F ht⟩) hS.2.2 dX3_fewestBones_19
  refine lv_iconst (v := 0) hx hb dX3_fewestBones_0 (by decide) ?_
  refine lv_istore_n (lv' := [(2, .int 0), (0, .ref (z + 325)), (1, .int p0)]) hx hb dX3_fewestBones_1 rfl hl (by decide) rfl (fun ls hl => ?_)
  exact C2 _ I0 _ _ ls 0 (Nat.lt_succ_self _) hW hS hF hO (dkN_sub (dkN_lit (x := 0) (0) rfl) rfl) (lv_sub hl [1, 2, 0] rfl)
set_option maxHeartbeats 4000000 in
set_option maxRecDepth 100000 in
theorem c_X5_least_0 (l : Launch) (g : dkG) (z : Nat) (I0 : dkI) (p0 : Int32)  (hO : dkOk I0) : Met l yX5_least wsX5_least (dkR 7) (dkPc g z [.ref (z + 0), .int p0] I0) (dkQi g z (fun r I1 => dkF [(326, 326, 0, 4), (326, 326, 11, 11), (326, 326, 15, 17), (327, 327, 0, 4), (328, 328, 0, 4), (329, 329, 0, 4), (330, 330, 0, 4), (331, 331, 0, 4), (332, 332, 0, 4), (333, 333, 0, 5), (334, 334, 0, 5), (335, 335, 0, 5), (336, 336, 0, 8)] I0 I1 ∧ dkOk I1 ∧ ((dkN [(-1000001, -1000001)] r ∧ True) ∨ (dkN [(-1000000, -1000000), (0, 9)] r ∧ dkN [(0, 4)] p0 ∧ dkN [(1, 5)] (I1 25 4) ∧ True)))) 0 0 (dkA z) := by
  refine Met.ofW (cc := cX5_least) (maxL := 2) (ret := (some .int)) (by decide) rfl ?_
  intro p e s m args below meth c s₁ B hml hv
  obtain ⟨ha, hW, hK, hT⟩ := hv
  have hx := B.exec
  have hb := B.bytes
  have hr := B.returns
  have hts := atoms_spec (ws := wsX5_least) B.pre
  have hown : s.vm.findClass RX5 = some m.cls := findClass_of_methodNamed B.named
  have hlocks := B.notSynchronized
  have hS : va_S (dkA z) s.heap s.heap [] := va_S.rf
  have hF : dkF [(326, 326, 0, 4), (326, 326, 11, 11), (326, 326, 15, 17), (327, 327, 0, 4), (328, 328, 0, 4), (329, 329, 0, 4), (330, 330, 0, 4), (331, 331, 0, 4), (332, 332, 0, 4), (333, 333, 0, 5), (334, 334, 0, 5), (335, 335, 0, 5), (336, 336, 0, 8)] I0 I0 := dkF_rf _ _
  have hl := lv_entry ([.ref (z + 0), .int p0]) (n := 2) (Nat.le_of_ble_eq_true rfl)
  have hgo : entryFrame m args 2 = entryFrame m ([.ref (z + 0), .int p0] : List Value).toArray 2 := by rw [ha]
  rw [hgo, lg_entry_eq]
  generalize (lg_sl ([.ref (z + 0), .int p0]) ++ List.replicate (2 - (lg_sl ([.ref (z + 0), .int p0])).length) Slot.unset).toArray = ls at hl ⊢
  have hl : lv_has ls 2 [(0, .ref (z + 0)), (1, .int p0)] := hl
  refine lv_aload_n hx hb dX5_least_0 rfl (lv_at hl 0 rfl) ?_
  refine lv_iload_n hx hb dX5_least_1 rfl (lv_at hl 1 rfl) ?_
  refine dk_Vi (As := [.int p0]) (rest := []) ⟨hx, hb, hml, hown, hts⟩ (c_X5_isPerson_0 l g z I0 p0 hO) (cwV 1 hts gX5_least_X5_isPerson rfl rfl rfl (by decide +kernel) ⟨Nat.le_of_ble_eq_true rfl, Nat.le_of_ble_eq_true rfl⟩) (dk_at0 hW) rfl hK hT hW hS rfl hl.1 rfl (Nat.le_of_ble_eq_true rfl) dX5_least_2 ⟨Nat.zero_le _, Nat.zero_le _⟩ (fun v1 I1 H1 L1 hp1 hW hS => ?_)
  obtain ⟨hF1, hO, hc1⟩ := hp1
  have hF := dkF_call hF hF1 rfl
  rcases hc1 with ⟨dv1, -⟩ | hc1
  ·
    refine lv_if_eq (tgt := 19) hx hb dX5_least_5 (by decide) (fun c2 => ?_) (fun c2 => ?_)
    ·
      refine lv_ldc (v := (-1000001)) hx hb hown (hts (.constant RX5 70 (-1000001)) (List.mem_of_getElem? (i := 2) rfl)) dX5_least_19 ?_
      exact W.iret (v := (-1000001)) hx hb hr (fun t ht hW9 => ⟨⟨(-1000001), I1, rfl, ⟨hF, hO, Or.inl ⟨dkN_sub (dkN_lit (x := (-1000001)) (-1000001) rfl) rfl, trivial⟩⟩, dkW_eq ht hW⟩, hS.F ht⟩) hS.2.2 dX5_least_21
    ·
      exact (dkN_nil (show dkN [] v1 from dkN_ne1 (0) dv1 (dkN_lit (x := 0) (0) rfl) (dk_ne c2) rfl)).elim
  ·
    obtain ⟨dv1, a1_0, f1_25_4, -⟩ := hc1
    have d3 : dkN [(0, 4)] p0 := dkN_eq1 (dkN_top p0) a1_0 rfl rfl
    refine lv_if_eq (tgt := 19) hx hb dX5_least_5 (by decide) (fun c4 => ?_) (fun c4 => ?_)
    ·
      exact (dkN_nil (show dkN [] v1 from dkN_eq1 dv1 (dkN_lit (x := 0) (0) rfl) (congrArg Int32.toInt c4) rfl)).elim
    ·
      refine lv_aload_n hx hb dX5_least_8 rfl (lv_at hl 0 rfl) ?_
      refine dk_get (k := 0) hx hb hts iX5_least_5 hown hK (dk_at0 hW) rfl 8 (by decide) (hts (.fieldLink RX5 51 "DogKings" "seer" "LDogKings$Seer;") (List.mem_of_getElem? (i := 1) rfl)) rfl dX5_least_9 ?_
      refine lv_iload_n hx hb dX5_least_12 rfl (lv_at hl 1 rfl) ?_
      refine dk_Vi (As := [.int p0]) (rest := []) ⟨hx, hb, hml, hown, hts⟩ (c_X3_fewestBones_0 l g z I1 p0 d3 hO) (cwV 1 hts gX5_least_X3_fewestBones rfl rfl rfl (by decide +kernel) ⟨Nat.le_of_ble_eq_true rfl, Nat.le_of_ble_eq_true rfl⟩) (dk_at325 hW) rfl hK hT hW hS rfl hl.1 rfl (Nat.le_of_ble_eq_true rfl) dX5_least_13 ⟨Nat.zero_le _, Nat.zero_le _⟩ (fun v5 I5 H5 L5 hp5 hW hS => ?_)
      obtain ⟨hF5, hO, hc5⟩ := hp5
      have hF := dkF_call hF hF5 rfl
      obtain ⟨dv5, -⟩ := hc5
      refine lv_goto (tgt := 21) hx hb dX5_least_16 (by decide) ?_
      exact W.iret (v := v5) hx hb hr (fun t ht hW9 => ⟨⟨v5, I5, rfl, ⟨hF, hO, Or.inr (⟨dkN_sub dv5 rfl, dkN_sub d3 rfl, (show dkN [(1, 5)] (I5 25 4) from dkN_sub (by rw [hF5 25 4 rfl]; exact f1_25_4) rfl), trivial⟩)⟩, dkW_eq ht hW⟩, hS.F ht⟩) hS.2.2 dX5_least_21
