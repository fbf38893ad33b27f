set_option maxHeartbeats 4000000 in
set_option maxRecDepth 100000 in
theorem c_X5_copy_0 (l : Launch) (g : dkG) (z : Nat) (I0 : dkI) (p0 : Int32) (p1 : Int32) (p2 : Int32) (p3 : Int32) (p4 : Int32)  (hO : dkOk I0) : Met l yX5_copy wsX5_copy (dkR 2) (dkPc g z [.ref (z + 0), .int p0, .int p1, .int p2, .int p3, .int p4] I0) (dkQi g z (fun r I1 => dkF [(2, 9, 0, 2147483647), (0, 0, 3, 3)] I0 I1 ∧ dkOk I1 ∧ ((dkN [(-1000015, -1000015), (-1000012, -1000011), (-1000001, -1000001), (0, 2147483647)] r ∧ True)))) 0 0 (dkA z) := by
  refine Met.ofW (cc := cX5_copy) (maxL := 6) (ret := (some .int)) (by decide) rfl ?_
  intro p e s m args below meth c s₁ B hml hv
  obtain ⟨ha, hW, hK, hT⟩ := hv
  have hx := B.exec
  have hb := B.bytes
  have hr := B.returns
  have hts := atoms_spec (ws := wsX5_copy) B.pre
  have hown : s.vm.findClass RX5 = some m.cls := findClass_of_methodNamed B.named
  have hlocks := B.notSynchronized
  have hS : va_S (dkA z) s.heap s.heap [] := va_S.rf
  have hF : dkF [(2, 9, 0, 2147483647), (0, 0, 3, 3)] I0 I0 := dkF_rf _ _
  have hl := lv_entry ([.ref (z + 0), .int p0, .int p1, .int p2, .int p3, .int p4]) (n := 6) (Nat.le_of_ble_eq_true rfl)
  have hgo : entryFrame m args 6 = entryFrame m ([.ref (z + 0), .int p0, .int p1, .int p2, .int p3, .int p4] : List Value).toArray 6 := by rw [ha]
  rw [hgo, lg_entry_eq]
  generalize (lg_sl ([.ref (z + 0), .int p0, .int p1, .int p2, .int p3, .int p4]) ++ List.replicate (6 - (lg_sl ([.ref (z + 0), .int p0, .int p1, .int p2, .int p3, .int p4])).length) Slot.unset).toArray = ls at hl ⊢
  have hl : lv_has ls 6 [(0, .ref (z + 0)), (1, .int p0), (2, .int p1), (3, .int p2), (4, .int p3), (5, .int p4)] := hl
  have C33 : ∀ (I : dkI) (H : Heap) (locs : List Loc) (ls : Array Slot), dkW g z I H → va_S (dkA z) s.heap H locs → dkF [(2, 9, 0, 2147483647), (0, 0, 3, 3)] I0 I → dkOk I → dkN [(0, 7)] p0 → dkN [(0, 7)] p2 → lv_has ls 6 [(0, .ref (z + 0)), (1, .int p0), (2, .int p1), (3, .int p2), (4, .int p3), (5, .int p4)] → W p l e (headSpec wsX5_copy (dkR 2)).room s m args below meth c H locs 0 0 (MQ below (dkQi g z (fun r I1 => dkF [(2, 9, 0, 2147483647), (0, 0, 3, 3)] I0 I1 ∧ dkOk I1 ∧ ((dkN [(-1000015, -1000015), (-1000012, -1000011), (-1000001, -1000001), (0, 2147483647)] r ∧ True)))) args s 0 0 (dkA z)) (F0 m 33 ls []) := by
    intro I33_ H locs ls hW hS hF_33 hO r33_0 r33_1 hl
    have hF := hF_33
    refine lv_aload_n hx hb dX5_copy_33 rfl (lv_at hl 0 rfl) ?_
    refine lv_iconst (v := 1) hx hb dX5_copy_34 (by decide) ?_
    refine dk_Vi (As := [.int 1]) (rest := []) ⟨hx, hb, hml, hown, hts⟩ (c_X5_found_1 l g z I33_ 1 (dkN_lit (x := 1) (1) rfl) hO) (cwV 1 hts gX5_copy_X5_found rfl rfl rfl (by decide +kernel) ⟨Nat.le_of_ble_eq_true rfl, Nat.le_of_ble_eq_true rfl⟩) (dk_at0 hW) rfl hK hT hW hS rfl hl.1 rfl (Nat.le_of_ble_eq_true rfl) dX5_copy_35 ⟨Nat.zero_le _, Nat.zero_le _⟩ (fun v1 I1 H1 L1 hp1 hW hS => ?_)
    obtain ⟨hF1, hO, hc1⟩ := hp1
    have hF := dkF_call hF hF1 rfl
    obtain ⟨dv1, f1_0_3, -⟩ := hc1
    exact W.iret (v := v1) hx hb hr (fun t ht hW9 => ⟨⟨v1, I1, rfl, ⟨hF, hO, ⟨dkN_sub dv1 rfl, trivial⟩⟩, dkW_eq ht hW⟩, hS.F ht⟩) hS.2.2 dX5_copy_38
  have C83 : ∀ (I : dkI) (H : Heap) (locs : List Loc) (ls : Array Slot), dkW g z I H → va_S (dkA z) s.heap H locs → dkF [(2, 9, 0, 2147483647), (0, 0, 3, 3)] I0 I → dkOk I → dkN [(0, 7)] p0 → dkN [(0, 7)] p2 → lv_has ls 6 [(0, .ref (z + 0)), (1, .int p0), (2, .int p1), (3, .int p2), (4, .int p3), (5, .int p4)] → W p l e (headSpec wsX5_copy (dkR 2)).room s m args below meth c H locs 0 0 (MQ below (dkQi g z (fun r I1 => dkF [(2, 9, 0, 2147483647), (0, 0, 3, 3)] I0 I1 ∧ dkOk I1 ∧ ((dkN [(-1000015, -1000015), (-1000012, -1000011), (-1000001, -1000001), (0, 2147483647)] r ∧ True)))) args s 0 0 (dkA z)) (F0 m 83 ls []) := by
    intro I83_ H locs ls hW hS hF_83 hO r83_0 r83_1 hl
    have hF := hF_83
    refine lv_aload_n hx hb dX5_copy_83 rfl (lv_at hl 0 rfl) ?_
    refine lv_iconst (v := 2) hx hb dX5_copy_84 (by decide) ?_
    refine dk_Vi (As := [.int 2]) (rest := []) ⟨hx, hb, hml, hown, hts⟩ (c_X5_found_2 l g z I83_ 2 (dkN_lit (x := 2) (2) rfl) hO) (cwV 1 hts gX5_copy_X5_found rfl rfl rfl (by decide +kernel) ⟨Nat.le_of_ble_eq_true rfl, Nat.le_of_ble_eq_true rfl⟩) (dk_at0 hW) rfl hK hT hW hS rfl hl.1 rfl (Nat.le_of_ble_eq_true rfl) dX5_copy_85 ⟨Nat.zero_le _, Nat.zero_le _⟩ (fun v2 I2 H2 L2 hp2 hW hS => ?_)
    obtain ⟨hF2, hO, hc2⟩ := hp2
    have hF := dkF_call hF hF2 rfl
    obtain ⟨dv2, f2_0_3, -⟩ := hc2
    exact W.iret (v := v2) hx hb hr (fun t ht hW9 => ⟨⟨v2, I2, rfl, ⟨hF, hO, ⟨dkN_sub dv2 rfl, trivial⟩⟩, dkW_eq ht hW⟩, hS.F ht⟩) hS.2.2 dX5_copy_88
  refine lv_iload_n hx hb dX5_copy_0 rfl (lv_at hl 1 rfl) ?_
  refine dk_Si (As := [.int p0]) (rest := []) ⟨hx, hb, hml, hown, hts⟩ (c_X5_isRow_0 l g z I0 p0 hO) (va_cwS 1 hts gX5_copy_X5_isRow rfl rfl rfl (by decide +kernel) ⟨Nat.le_of_ble_eq_true rfl, Nat.le_of_ble_eq_true rfl⟩) hK hT hW hS rfl hl.1 rfl (Nat.le_of_ble_eq_true rfl) dX5_copy_1 ⟨Nat.zero_le _, Nat.zero_le _⟩ (fun v3 I3 H3 L3 hp3 hW hS => ?_)
  obtain ⟨hF3, hO, hc3⟩ := hp3
  have hF := dkF_call hF hF3 rfl
  rcases hc3 with ⟨dv3, a3_0, -⟩ | hc3
  ·
    have d4 : dkN [(-2147483648, -1), (8, 2147483647)] p0 := dkN_eq1 (dkN_top p0) a3_0 rfl rfl
    refine lv_if_eq (tgt := 14) hx hb dX5_copy_4 (by decide) (fun c5 => ?_) (fun c5 => ?_)
    ·
      refine lv_ldc (v := (-1000001)) hx hb hown (hts (.constant RX5 70 (-1000001)) (List.mem_of_getElem? (i := 1) rfl)) dX5_copy_14 ?_
      exact W.iret (v := (-1000001)) hx hb hr (fun t ht hW9 => ⟨⟨(-1000001), I3, rfl, ⟨hF, hO, ⟨dkN_sub (dkN_lit (x := (-1000001)) (-1000001) rfl) rfl, trivial⟩⟩, dkW_eq ht hW⟩, hS.F ht⟩) hS.2.2 dX5_copy_16
    ·
      exact (dkN_nil (show dkN [] v3 from dkN_ne1 (0) dv3 (dkN_lit (x := 0) (0) rfl) (dk_ne c5) rfl)).elim
  ·
    obtain ⟨dv3, a3_0, -⟩ := hc3
    have d6 : dkN [(0, 7)] p0 := dkN_eq1 (dkN_top p0) a3_0 rfl rfl
    refine lv_if_eq (tgt := 14) hx hb dX5_copy_4 (by decide) (fun c7 => ?_) (fun c7 => ?_)
    ·
      exact (dkN_nil (show dkN [] v3 from dkN_eq1 dv3 (dkN_lit (x := 0) (0) rfl) (congrArg Int32.toInt c7) rfl)).elim
    ·
      refine lv_iload_n hx hb dX5_copy_7 rfl (lv_at hl 3 rfl) ?_
      refine dk_Si (As := [.int p2]) (rest := []) ⟨hx, hb, hml, hown, hts⟩ (c_X5_isRow_0 l g z I3 p2 hO) (va_cwS 1 hts gX5_copy_X5_isRow rfl rfl rfl (by decide +kernel) ⟨Nat.le_of_ble_eq_true rfl, Nat.le_of_ble_eq_true rfl⟩) hK hT hW hS rfl hl.1 rfl (Nat.le_of_ble_eq_true rfl) dX5_copy_8 ⟨Nat.zero_le _, Nat.zero_le _⟩ (fun v8 I8 H8 L8 hp8 hW hS => ?_)
      obtain ⟨hF8, hO, hc8⟩ := hp8
      have hF := dkF_call hF hF8 rfl
      rcases hc8 with ⟨dv8, a8_0, -⟩ | hc8
      ·
        have d9 : dkN [(-2147483648, -1), (8, 2147483647)] p2 := dkN_eq1 (dkN_top p2) a8_0 rfl rfl
        refine lv_if_ne (tgt := 17) hx hb dX5_copy_11 (by decide) (fun c10 => ?_) (fun c10 => ?_)
        ·
          exact (dkN_nil (show dkN [] v8 from dkN_ne1 (0) dv8 (dkN_lit (x := 0) (0) rfl) (dk_ne c10) rfl)).elim
        ·
          refine lv_ldc (v := (-1000001)) hx hb hown (hts (.constant RX5 70 (-1000001)) (List.mem_of_getElem? (i := 1) rfl)) dX5_copy_14 ?_
          exact W.iret (v := (-1000001)) hx hb hr (fun t ht hW9 => ⟨⟨(-1000001), I8, rfl, ⟨hF, hO, ⟨dkN_sub (dkN_lit (x := (-1000001)) (-1000001) rfl) rfl, trivial⟩⟩, dkW_eq ht hW⟩, hS.F ht⟩) hS.2.2 dX5_copy_16
      ·
        obtain ⟨dv8, a8_0, -⟩ := hc8
        have d11 : dkN [(0, 7)] p2 := dkN_eq1 (dkN_top p2) a8_0 rfl rfl
        refine lv_if_ne (tgt := 17) hx hb dX5_copy_11 (by decide) (fun c12 => ?_) (fun c12 => ?_)
        ·
          refine lv_aload_n hx hb dX5_copy_17 rfl (lv_at hl 0 rfl) ?_
          refine lv_iload_n hx hb dX5_copy_18 rfl (lv_at hl 1 rfl) ?_
          refine dk_Vi (As := [.int p0]) (rest := []) ⟨hx, hb, hml, hown, hts⟩ (c_X5_isMissing_0 l g z I8 p0 d6 hO) (cwV 1 hts gX5_copy_X5_isMissing rfl rfl rfl (by decide +kernel) ⟨Nat.le_of_ble_eq_true rfl, Nat.le_of_ble_eq_true rfl⟩) (dk_at0 hW) rfl hK hT hW hS rfl hl.1 rfl (Nat.le_of_ble_eq_true rfl) dX5_copy_19 ⟨Nat.zero_le _, Nat.zero_le _⟩ (fun v13 I13 H13 L13 hp13 hW hS => ?_)
          obtain ⟨hF13, hO, hc13⟩ := hp13
          have hF := dkF_call hF hF13 rfl
          obtain ⟨dv13, -⟩ := hc13
          refine lv_if_ne (tgt := 33) hx hb dX5_copy_22 (by decide) (fun c14 => ?_) (fun c14 => ?_)
          ·
            have d15 : dkN [(1, 1)] v13 := dkN_ne1 (0) dv13 (dkN_lit (x := 0) (0) rfl) (dk_ne c14) rfl
            exact C33 I13 _ _ ls  hW hS hF hO (dkN_sub d6 rfl) (dkN_sub d11 rfl) (lv_sub hl [0, 1, 2, 3, 4, 5] rfl)
          ·
            have d16 : dkN [(0, 0)] v13 := dkN_eq1 dv13 (dkN_lit (x := 0) (0) rfl) (congrArg Int32.toInt c14) rfl
            refine lv_aload_n hx hb dX5_copy_25 rfl (lv_at hl 0 rfl) ?_
            refine lv_iload_n hx hb dX5_copy_26 rfl (lv_at hl 3 rfl) ?_
            refine dk_Vi (As := [.int p2]) (rest := []) ⟨hx, hb, hml, hown, hts⟩ (c_X5_isMissing_0 l g z I13 p2 d11 hO) (cwV 1 hts gX5_copy_X5_isMissing rfl rfl rfl (by decide +kernel) ⟨Nat.le_of_ble_eq_true rfl, Nat.le_of_ble_eq_true rfl⟩) (dk_at0 hW) rfl hK hT hW hS rfl hl.1 rfl (Nat.le_of_ble_eq_true rfl) dX5_copy_27 ⟨Nat.zero_le _, Nat.zero_le _⟩ (fun v17 I17 H17 L17 hp17 hW hS => ?_)
            obtain ⟨hF17, hO, hc17⟩ := hp17
            have hF := dkF_call hF hF17 rfl
            obtain ⟨dv17, -⟩ := hc17
            refine lv_if_eq (tgt := 39) hx hb dX5_copy_30 (by decide) (fun c18 => ?_) (fun c18 => ?_)
            ·
              have d19 : dkN [(0, 0)] v17 := dkN_eq1 dv17 (dkN_lit (x := 0) (0) rfl) (congrArg Int32.toInt c18) rfl
              refine lv_aload_n hx hb dX5_copy_39 rfl (lv_at hl 0 rfl) ?_
              refine dk_get (k := 0) hx hb hts iX5_copy_5 hown hK (dk_at0 hW) rfl 1 (by decide) (hts (.fieldLink RX5 14 "DogKings" "lanes" "[I") (List.mem_of_getElem? (i := 2) rfl)) rfl dX5_copy_40 ?_
              refine lv_iload_n hx hb dX5_copy_43 rfl (lv_at hl 1 rfl) ?_
              refine dk_ild (k := 10) hx hb hK (dk_at10 hW) (dkN_in (n := 8) d6 rfl) dX5_copy_44 ?_
              refine lv_topi (fun v20 ev20 => ?_)
              have dv20 : dkN [(0, 2)] v20 := by rw [ev20]; exact (hO 10 _)
              refine lv_aload_n hx hb dX5_copy_45 rfl (lv_at hl 0 rfl) ?_
              refine dk_get (k := 0) hx hb hts iX5_copy_5 hown hK (dk_at0 hW) rfl 1 (by decide) (hts (.fieldLink RX5 14 "DogKings" "lanes" "[I") (List.mem_of_getElem? (i := 2) rfl)) rfl dX5_copy_46 ?_
              refine lv_iload_n hx hb dX5_copy_49 rfl (lv_at hl 3 rfl) ?_
              refine dk_ild (k := 10) hx hb hK (dk_at10 hW) (dkN_in (n := 8) d11 rfl) dX5_copy_50 ?_
              refine lv_topi (fun v21 ev21 => ?_)
              have dv21 : dkN [(0, 2)] v21 := by rw [ev21]; exact (hO 10 _)
              refine lv_icmp_eq (tgt := 60) hx hb dX5_copy_51 (by decide) (fun c22 => ?_) (fun c22 => ?_)
              ·
                refine lv_aload_n hx hb dX5_copy_60 rfl (lv_at hl 0 rfl) ?_
                refine lv_iload_n hx hb dX5_copy_61 rfl (lv_at hl 1 rfl) ?_
                refine lv_iload_n hx hb dX5_copy_62 rfl (lv_at hl 2 rfl) ?_
                refine lv_iload hx hb dX5_copy_63 (lv_at hl 5 rfl) ?_
                refine dk_Vi (As := [.int p0, .int p1, .int p4]) (rest := []) ⟨hx, hb, hml, hown, hts⟩ (c_X5_hasItems_0 l g z I17 p0 p1 p4 d6 hO) (cwV 3 hts gX5_copy_X5_hasItems rfl rfl rfl (by decide +kernel) ⟨Nat.le_of_ble_eq_true rfl, Nat.le_of_ble_eq_true rfl⟩) (dk_at0 hW) rfl hK hT hW hS rfl hl.1 rfl (Nat.le_of_ble_eq_true rfl) dX5_copy_65 ⟨Nat.zero_le _, Nat.zero_le _⟩ (fun v23 I23 H23 L23 hp23 hW hS => ?_)
                obtain ⟨hF23, hO, hc23⟩ := hp23
                have hF := dkF_call hF hF23 rfl
                rcases hc23 with ⟨dv23, -⟩ | hc23
                ·
                  refine lv_if_eq (tgt := 83) hx hb dX5_copy_68 (by decide) (fun c24 => ?_) (fun c24 => ?_)
                  ·
                    exact C83 I23 _ _ ls  hW hS hF hO (dkN_sub d6 rfl) (dkN_sub d11 rfl) (lv_sub hl [0, 1, 2, 3, 4, 5] rfl)
                  ·
                    exact (dkN_nil (show dkN [] v23 from dkN_ne1 (0) dv23 (dkN_lit (x := 0) (0) rfl) (dk_ne c24) rfl)).elim
                ·
                  obtain ⟨dv23, a23_1, a23_2, q23_0, -⟩ := hc23
                  have d25 : dkN [(0, 40)] p1 := dkN_eq1 (dkN_top p1) a23_1 rfl rfl
                  have d26 : dkN [(0, 2147483647)] p4 := dkN_eq1 (dkN_top p4) a23_2 rfl rfl
                  refine lv_if_eq (tgt := 83) hx hb dX5_copy_68 (by decide) (fun c27 => ?_) (fun c27 => ?_)
                  ·
                    exact (dkN_nil (show dkN [] v23 from dkN_eq1 dv23 (dkN_lit (x := 0) (0) rfl) (congrArg Int32.toInt c27) rfl)).elim
                  ·
                    refine lv_aload_n hx hb dX5_copy_71 rfl (lv_at hl 0 rfl) ?_
                    refine lv_iload_n hx hb dX5_copy_72 rfl (lv_at hl 3 rfl) ?_
                    refine lv_iload hx hb dX5_copy_73 (lv_at hl 4 rfl) ?_
                    refine lv_iload hx hb dX5_copy_75 (lv_at hl 5 rfl) ?_
                    refine dk_Vi (As := [.int p2, .int p3, .int p4]) (rest := []) ⟨hx, hb, hml, hown, hts⟩ (c_X5_hasItems_1 l g z I23 p2 p3 p4 d11 d26 hO) (cwV 3 hts gX5_copy_X5_hasItems rfl rfl rfl (by decide +kernel) ⟨Nat.le_of_ble_eq_true rfl, Nat.le_of_ble_eq_true rfl⟩) (dk_at0 hW) rfl hK hT hW hS rfl hl.1 rfl (Nat.le_of_ble_eq_true rfl) dX5_copy_77 ⟨Nat.zero_le _, Nat.zero_le _⟩ (fun v28 I28 H28 L28 hp28 hW hS => ?_)
                    obtain ⟨hF28, hO, hc28⟩ := hp28
                    have hF := dkF_call hF hF28 rfl
                    rcases hc28 with ⟨dv28, -⟩ | hc28
                    ·
                      refine lv_if_ne (tgt := 89) hx hb dX5_copy_80 (by decide) (fun c29 => ?_) (fun c29 => ?_)
                      ·
                        exact (dkN_nil (show dkN [] v28 from dkN_ne1 (0) dv28 (dkN_lit (x := 0) (0) rfl) (dk_ne c29) rfl)).elim
                      ·
                        exact C83 I28 _ _ ls  hW hS hF hO (dkN_sub d6 rfl) (dkN_sub d11 rfl) (lv_sub hl [0, 1, 2, 3, 4, 5] rfl)
                    ·
                      obtain ⟨dv28, a28_1, q28_0, -⟩ := hc28
                      have d30 : dkN [(0, 40)] p3 := dkN_eq1 (dkN_top p3) a28_1 rfl rfl
                      refine lv_if_ne (tgt := 89) hx hb dX5_copy_80 (by decide) (fun c31 => ?_) (fun c31 => ?_)
                      ·
                        refine lv_aload_n hx hb dX5_copy_89 rfl (lv_at hl 0 rfl) ?_
                        refine dk_get (k := 0) hx hb hts iX5_copy_5 hown hK (dk_at0 hW) rfl 0 (by decide) (hts (.fieldLink RX5 11 "DogKings" "items" "[[I") (List.mem_of_getElem? (i := 3) rfl)) rfl dX5_copy_90 ?_
                        refine lv_iload_n hx hb dX5_copy_93 rfl (lv_at hl 1 rfl) ?_
                        obtain ⟨rf32, hrf32, erf32⟩ := dk_rowAt (z := z) (dkN_in (n := 8) d6 rfl)
                        refine dk_rld (r := z + rf32) hx hb hK (dk_at1 hW) (dkN_in (n := 8) d6 rfl) erf32 dX5_copy_94 ?_
                        refine lv_iload_n hx hb dX5_copy_95 rfl (lv_at hl 2 rfl) ?_
                        refine lv_aload_n hx hb dX5_copy_96 rfl (lv_at hl 0 rfl) ?_
                        refine dk_get (k := 0) hx hb hts iX5_copy_5 hown hK (dk_at0 hW) rfl 0 (by decide) (hts (.fieldLink RX5 11 "DogKings" "items" "[[I") (List.mem_of_getElem? (i := 3) rfl)) rfl dX5_copy_97 ?_
                        refine lv_iload_n hx hb dX5_copy_100 rfl (lv_at hl 3 rfl) ?_
                        obtain ⟨rf33, hrf33, erf33⟩ := dk_rowAt (z := z) (dkN_in (n := 8) d11 rfl)
                        refine dk_rld (r := z + rf33) hx hb hK (dk_at1 hW) (dkN_in (n := 8) d11 rfl) erf33 dX5_copy_101 ?_
                        refine lv_iload hx hb dX5_copy_102 (lv_at hl 4 rfl) ?_
                        refine lv_iload hx hb dX5_copy_104 (lv_at hl 5 rfl) ?_
                        refine dk_acopy hx hb (by rw [hml]; exact hl.1.symm) hown (hts (.methodLink RX5 89 arraycopyName) (List.mem_of_getElem? (i := 4) rfl)) (hts (.native arraycopyName) (List.mem_of_getElem? (i := 5) rfl)) (hts (.static arraycopyName) (List.mem_of_getElem? (i := 6) rfl)) (hts (.initialized "java/lang/System") (List.mem_of_getElem? (i := 7) rfl)) hK hW hS hrf32 hrf33 (dkN_ge d25 rfl) (dkN_ge d30 rfl) (dkN_ge d26 rfl) q23_0 q28_0 (Nat.le_of_ble_eq_true rfl) (Nat.le_of_ble_eq_true rfl) dX5_copy_106 (fun I34 H34 L34 hF34 hW hS => ?_)
                        have hO := dkO_rows hO hF34
                        have hF := dkF_call hF hF34 rfl
                        refine lv_aload_n hx hb dX5_copy_109 rfl (lv_at hl 0 rfl) ?_
                        refine lv_iload hx hb dX5_copy_110 (lv_at hl 5 rfl) ?_
                        refine dk_Vi (As := [.int p4]) (rest := []) ⟨hx, hb, hml, hown, hts⟩ (c_X5_nothingFound_0 l g z I34 p4 hO) (cwV 1 hts gX5_copy_X5_nothingFound rfl rfl rfl (by decide +kernel) ⟨Nat.le_of_ble_eq_true rfl, Nat.le_of_ble_eq_true rfl⟩) (dk_at0 hW) rfl hK hT hW hS rfl hl.1 rfl (Nat.le_of_ble_eq_true rfl) dX5_copy_112 ⟨Nat.zero_le _, Nat.zero_le _⟩ (fun v35 I35 H35 L35 hp35 hW hS => ?_)
                        obtain ⟨hF35, hO, ev35, hc35⟩ := hp35
                        have hF := dkF_call hF hF35 rfl
                        obtain ⟨_, f35_0_3, -⟩ := hc35
                        rw [ev35]
                        exact W.iret (v := p4) hx hb hr (fun t ht hW9 => ⟨⟨p4, I35, rfl, ⟨hF, hO, ⟨dkN_sub d26 rfl, trivial⟩⟩, dkW_eq ht hW⟩, hS.F ht⟩) hS.2.2 dX5_copy_115
                      ·
                        exact (dkN_nil (show dkN [] v28 from dkN_eq1 dv28 (dkN_lit (x := 0) (0) rfl) (congrArg Int32.toInt c31) rfl)).elim
              ·
                refine lv_aload_n hx hb dX5_copy_54 rfl (lv_at hl 0 rfl) ?_
                refine lv_iconst (v := 5) hx hb dX5_copy_55 (by decide) ?_
                refine dk_Vi (As := [.int 5]) (rest := []) ⟨hx, hb, hml, hown, hts⟩ (c_X5_found_3 l g z I17 5 (dkN_lit (x := 5) (5) rfl) hO) (cwV 1 hts gX5_copy_X5_found rfl rfl rfl (by decide +kernel) ⟨Nat.le_of_ble_eq_true rfl, Nat.le_of_ble_eq_true rfl⟩) (dk_at0 hW) rfl hK hT hW hS rfl hl.1 rfl (Nat.le_of_ble_eq_true rfl) dX5_copy_56 ⟨Nat.zero_le _, Nat.zero_le _⟩ (fun v36 I36 H36 L36 hp36 hW hS => ?_)
                obtain ⟨hF36, hO, hc36⟩ := hp36
                have hF := dkF_call hF hF36 rfl
                obtain ⟨dv36, f36_0_3, -⟩ := hc36
                exact W.iret (v := v36) hx hb hr (fun t ht hW9 => ⟨⟨v36, I36, rfl, ⟨hF, hO, ⟨dkN_sub dv36 rfl, trivial⟩⟩, dkW_eq ht hW⟩, hS.F ht⟩) hS.2.2 dX5_copy_59
            ·
              have d37 : dkN [(1, 1)] v17 := dkN_ne1 (0) dv17 (dkN_lit (x := 0) (0) rfl) (dk_ne c18) rfl
              exact C33 I17 _ _ ls  hW hS hF hO (dkN_sub d6 rfl) (dkN_sub d11 rfl) (lv_sub hl [0, 1, 2, 3, 4, 5] rfl)
        ·
          exact (dkN_nil (show dkN [] v8 from dkN_eq1 dv8 (dkN_lit (x := 0) (0) rfl) (congrArg Int32.toInt c12) rfl)).elim
set_option maxHeartbeats 4000000 in
set_option maxRecDepth 100000 in
theorem c_X6_isPart_0 (l : Launch) (g : dkG) (z : Nat) (I0 : dkI) (p0 : Int32) (p1 : Int32) (p2 : Int32) (dp0 : dkN [(0, 7)] p0)  (hO : dkOk I0) : Met l yX6_isPart wsX6_isPart (dkR 0) (dkPc g z [.ref (z + 340), .int p0, .int p1, .int p2] I0) (dkQi g z (fun r I1 => dkF [] I0 I1 ∧ dkOk I1 ∧ ((dkN [(0, 0)] r ∧ True) ∨ (dkN [(1, 1)] r ∧ dkN [(0, 40)] p1 ∧ dkN [(0, 40)] p2 ∧ p1.toInt + p2.toInt ≤ 40 ∧ True)))) 0 0 (dkA z) := by
  refine Met.ofW (cc := cX6_isPart) (maxL := 4) (ret := (some .boolean)) (by decide) rfl ?_
  intro p e s m args below meth c s₁ B hml hv
  obtain ⟨ha, hW, hK, hT⟩ := hv
  have hx := B.exec
  have hb := B.bytes
  have hr := B.returns
  have hts := atoms_spec (ws := wsX6_isPart) B.pre
  have hown : s.vm.findClass RX6 = some m.cls := findClass_of_methodNamed B.named
  have hlocks := B.notSynchronized
  have hS : va_S (dkA z) s.heap s.heap [] := va_S.rf
  have hF : dkF [] I0 I0 := dkF_rf _ _
  have hl := lv_entry ([.ref (z + 340), .int p0, .int p1, .int p2]) (n := 4) (Nat.le_of_ble_eq_true rfl)
  have hgo : entryFrame m args 4 = entryFrame m ([.ref (z + 340), .int p0, .int p1, .int p2] : List Value).toArray 4 := by rw [ha]
  rw [hgo, lg_entry_eq]
  generalize (lg_sl ([.ref (z + 340), .int p0, .int p1, .int p2]) ++ List.replicate (4 - (lg_sl ([.ref (z + 340), .int p0, .int p1, .int p2])).length) Slot.unset).toArray = ls at hl ⊢
  have hl : lv_has ls 4 [(0, .ref (z + 340)), (1, .int p0), (2, .int p1), (3, .int p2)] := hl
  refine lv_iload_n hx hb dX6_isPart_0 rfl (lv_at hl 2 rfl) ?_
  refine lv_if_lt (tgt := 34) hx hb dX6_isPart_1 (by decide) (fun c1 => ?_) (fun c1 => ?_)
  ·
    have d2 : dkN [(-2147483648, -1)] p1 := dkN_le1 1 (dkN_top p1) (dkN_lit (x := 0) (0) rfl) (dkc_lt c1) rfl
    refine lv_iconst (v := 0) hx hb dX6_isPart_34 (by decide) ?_
    exact W.zret (v := 0) (ty := .boolean) hx hb hr rfl (fun t ht hW9 => ⟨⟨0, I0, rfl, ⟨hF, hO, Or.inl ⟨dkN_sub (dkN_lit (x := 0) (0) rfl) rfl, trivial⟩⟩, dkW_eq ht hW⟩, hS.F ht⟩) hS.2.2 dX6_isPart_35
  ·
    have d3 : dkN [(0, 2147483647)] p1 := dkN_le2 0 (dkN_lit (x := 0) (0) rfl) (dkN_top p1) (dkc_nlt c1) rfl
    refine lv_iload_n hx hb dX6_isPart_4 rfl (lv_at hl 3 rfl) ?_
    refine lv_if_lt (tgt := 34) hx hb dX6_isPart_5 (by decide) (fun c4 => ?_) (fun c4 => ?_)
    ·
      have d5 : dkN [(-2147483648, -1)] p2 := dkN_le1 1 (dkN_top p2) (dkN_lit (x := 0) (0) rfl) (dkc_lt c4) rfl
      refine lv_iconst (v := 0) hx hb dX6_isPart_34 (by decide) ?_
      exact W.zret (v := 0) (ty := .boolean) hx hb hr rfl (fun t ht hW9 => ⟨⟨0, I0, rfl, ⟨hF, hO, Or.inl ⟨dkN_sub (dkN_lit (x := 0) (0) rfl) rfl, trivial⟩⟩, dkW_eq ht hW⟩, hS.F ht⟩) hS.2.2 dX6_isPart_35
    ·
      have d6 : dkN [(0, 2147483647)] p2 := dkN_le2 0 (dkN_lit (x := 0) (0) rfl) (dkN_top p2) (dkc_nlt c4) rfl
      refine lv_iload_n hx hb dX6_isPart_8 rfl (lv_at hl 2 rfl) ?_
      refine lv_aload_n hx hb dX6_isPart_9 rfl (lv_at hl 0 rfl) ?_
      refine dk_get (k := 340) hx hb hts iX6_isPart_6 hown hK (dk_at340 hW) rfl 1 (by decide) (hts (.fieldLink RX6 13 "DogKingsModel" "many" "[I") (List.mem_of_getElem? (i := 1) rfl)) rfl dX6_isPart_10 ?_
      refine lv_iload_n hx hb dX6_isPart_13 rfl (lv_at hl 1 rfl) ?_
      refine dk_ild (k := 342) hx hb hK (dk_at342 hW) (dkN_in (n := 8) dp0 rfl) dX6_isPart_14 ?_
      refine lv_topi (fun v7 ev7 => ?_)
      have dv7 : dkN [(0, 40)] v7 := by rw [ev7]; exact (hO 342 _)
      refine lv_icmp_gt (tgt := 34) hx hb dX6_isPart_15 (by decide) (fun c8 => ?_) (fun c8 => ?_)
      ·
        have d9 : dkN [(1, 2147483647)] p1 := dkN_le2 1 dv7 d3 (dkc_lt c8) rfl
        refine lv_iconst (v := 0) hx hb dX6_isPart_34 (by decide) ?_
        exact W.zret (v := 0) (ty := .boolean) hx hb hr rfl (fun t ht hW9 => ⟨⟨0, I0, rfl, ⟨hF, hO, Or.inl ⟨dkN_sub (dkN_lit (x := 0) (0) rfl) rfl, trivial⟩⟩, dkW_eq ht hW⟩, hS.F ht⟩) hS.2.2 dX6_isPart_35
      ·
        have d10 : dkN [(0, 40)] p1 := dkN_le1 0 d3 dv7 (dkc_nlt c8) rfl
        refine lv_iload_n hx hb dX6_isPart_18 rfl (lv_at hl 3 rfl) ?_
        refine lv_aload_n hx hb dX6_isPart_19 rfl (lv_at hl 0 rfl) ?_
        refine dk_get (k := 340) hx hb hts iX6_isPart_6 hown hK (dk_at340 hW) rfl 1 (by decide) (hts (.fieldLink RX6 13 "DogKingsModel" "many" "[I") (List.mem_of_getElem? (i := 1) rfl)) rfl dX6_isPart_20 ?_
        refine lv_iload_n hx hb dX6_isPart_23 rfl (lv_at hl 1 rfl) ?_
        refine dk_ild (k := 342) hx hb hK (dk_at342 hW) (dkN_in (n := 8) dp0 rfl) dX6_isPart_24 ?_
        refine lv_topi (fun v11 ev11 => ?_)
        have dv11 : dkN [(0, 40)] v11 := by rw [ev11]; exact (hO 342 _)
        refine lv_iload_n hx hb dX6_isPart_25 rfl (lv_at hl 2 rfl) ?_
        refine lv_isub hx hb dX6_isPart_26 ?_
        refine lv_topi (fun v12 ev12 => ?_)
        have dv12 : dkN [(-40, 40)] v12 := by rw [ev12]; exact dkN_subt dv11 d10 rfl
        refine lv_icmp_gt (tgt := 34) hx hb dX6_isPart_27 (by decide) (fun c13 => ?_) (fun c13 => ?_)
        ·
          refine lv_iconst (v := 0) hx hb dX6_isPart_34 (by decide) ?_
          exact W.zret (v := 0) (ty := .boolean) hx hb hr rfl (fun t ht hW9 => ⟨⟨0, I0, rfl, ⟨hF, hO, Or.inl ⟨dkN_sub (dkN_lit (x := 0) (0) rfl) rfl, trivial⟩⟩, dkW_eq ht hW⟩, hS.F ht⟩) hS.2.2 dX6_isPart_35
        ·
          have d14 : dkN [(0, 40)] v12 := dkN_le2 0 d6 dv12 (dkc_nlt c13) rfl
          have d15 : dkN [(0, 40)] p2 := dkN_le1 0 d6 dv12 (dkc_nlt c13) rfl
          refine lv_iconst (v := 1) hx hb dX6_isPart_30 (by decide) ?_
          refine lv_goto (tgt := 35) hx hb dX6_isPart_31 (by decide) ?_
          exact W.zret (v := 1) (ty := .boolean) hx hb hr rfl (fun t ht hW9 => ⟨⟨1, I0, rfl, ⟨hF, hO, Or.inr (⟨dkN_sub (dkN_lit (x := 1) (1) rfl) rfl, dkN_sub d10 rfl, dkN_sub d15 rfl, (dk_relsub ev12 dv11 d10 (dkc_nlt c13) rfl), trivial⟩)⟩, dkW_eq ht hW⟩, hS.F ht⟩) hS.2.2 dX6_isPart_35
set_option maxHeartbeats 4000000 in
set_option maxRecDepth 100000 in
theorem c_X6_isPart_1 (l : Launch) (g : dkG) (z : Nat) (I0 : dkI) (p0 : Int32) (p1 : Int32) (p2 : Int32) (dp0 : dkN [(0, 7)] p0) (dp2 : dkN [(0, 40)] p2)  (hO : dkOk I0) : Met l yX6_isPart wsX6_isPart (dkR 0) (dkPc g z [.ref (z + 340), .int p0, .int p1, .int p2] I0) (dkQi g z (fun r I1 => dkF [] I0 I1 ∧ dkOk I1 ∧ ((dkN [(0, 0)] r ∧ True) ∨ (dkN [(1, 1)] r ∧ dkN [(0, 40)] p1 ∧ p1.toInt + p2.toInt ≤ 40 ∧ True)))) 0 0 (dkA z) := by
  refine Met.ofW (cc := cX6_isPart) (maxL := 4) (ret := (some .boolean)) (by decide) rfl ?_
  intro p e s m args below meth c s₁ B hml hv
  obtain ⟨ha, hW, hK, hT⟩ := hv
  have hx := B.exec
  have hb := B.bytes
  have hr := B.returns
  have hts := atoms_spec (ws := wsX6_isPart) B.pre
  have hown : s.vm.findClass RX6 = some m.cls := findClass_of_methodNamed B.named
  have hlocks := B.notSynchronized
  have hS : va_S (dkA z) s.heap s.heap [] := va_S.rf
  have hF : dkF [] I0 I0 := dkF_rf _ _
  have hl := lv_entry ([.ref (z + 340), .int p0, .int p1, .int p2]) (n := 4) (Nat.le_of_ble_eq_true rfl)
  have hgo : entryFrame m args 4 = entryFrame m ([.ref (z + 340), .int p0, .int p1, .int p2] : List Value).toArray 4 := by rw [ha]
  rw [hgo, lg_entry_eq]
  generalize (lg_sl ([.ref (z + 340), .int p0, .int p1, .int p2]) ++ List.replicate (4 - (lg_sl ([.ref (z + 340), .int p0, .int p1, .int p2])).length) Slot.unset).toArray = ls at hl ⊢
  have hl : lv_has ls 4 [(0, .ref (z + 340)), (1, .int p0), (2, .int p1), (3, .int p2)] := hl
  refine lv_iload_n hx hb dX6_isPart_0 rfl (lv_at hl 2 rfl) ?_
  refine lv_if_lt (tgt := 34) hx hb dX6_isPart_1 (by decide) (fun c1 => ?_) (fun c1 => ?_)
  ·
    have d2 : dkN [(-2147483648, -1)] p1 := dkN_le1 1 (dkN_top p1) (dkN_lit (x := 0) (0) rfl) (dkc_lt c1) rfl
    refine lv_iconst (v := 0) hx hb dX6_isPart_34 (by decide) ?_
    exact W.zret (v := 0) (ty := .boolean) hx hb hr rfl (fun t ht hW9 => ⟨⟨0, I0, rfl, ⟨hF, hO, Or.inl ⟨dkN_sub (dkN_lit (x := 0) (0) rfl) rfl, trivial⟩⟩, dkW_eq ht hW⟩, hS.F ht⟩) hS.2.2 dX6_isPart_35
  ·
    have d3 : dkN [(0, 2147483647)] p1 := dkN_le2 0 (dkN_lit (x := 0) (0) rfl) (dkN_top p1) (dkc_nlt c1) rfl
    refine lv_iload_n hx hb dX6_isPart_4 rfl (lv_at hl 3 rfl) ?_
    refine lv_if_lt (tgt := 34) hx hb dX6_isPart_5 (by decide) (fun c4 => ?_) (fun c4 => ?_)
    ·
      exact (dkN_nil (show dkN [] p2 from dkN_le1 1 dp2 (dkN_lit (x := 0) (0) rfl) (dkc_lt c4) rfl)).elim
    ·
      refine lv_iload_n hx hb dX6_isPart_8 rfl (lv_at hl 2 rfl) ?_
      refine lv_aload_n hx hb dX6_isPart_9 rfl (lv_at hl 0 rfl) ?_
      refine dk_get (k := 340) hx hb hts iX6_isPart_6 hown hK (dk_at340 hW) rfl 1 (by decide) (hts (.fieldLink RX6 13 "DogKingsModel" "many" "[I") (List.mem_of_getElem? (i := 1) rfl)) rfl dX6_isPart_10 ?_
      refine lv_iload_n hx hb dX6_isPart_13 rfl (lv_at hl 1 rfl) ?_
      refine dk_ild (k := 342) hx hb hK (dk_at342 hW) (dkN_in (n := 8) dp0 rfl) dX6_isPart_14 ?_
      refine lv_topi (fun v5 ev5 => ?_)
      have dv5 : dkN [(0, 40)] v5 := by rw [ev5]; exact (hO 342 _)
      refine lv_icmp_gt (tgt := 34) hx hb dX6_isPart_15 (by decide) (fun c6 => ?_) (fun c6 => ?_)
      ·
        have d7 : dkN [(1, 2147483647)] p1 := dkN_le2 1 dv5 d3 (dkc_lt c6) rfl
        refine lv_iconst (v := 0) hx hb dX6_isPart_34 (by decide) ?_
        exact W.zret (v := 0) (ty := .boolean) hx hb hr rfl (fun t ht hW9 => ⟨⟨0, I0, rfl, ⟨hF, hO, Or.inl ⟨dkN_sub (dkN_lit (x := 0) (0) rfl) rfl, trivial⟩⟩, dkW_eq ht hW⟩, hS.F ht⟩) hS.2.2 dX6_isPart_35
      ·
        have d8 : dkN [(0, 40)] p1 := dkN_le1 0 d3 dv5 (dkc_nlt c6) rfl
        refine lv_iload_n hx hb dX6_isPart_18 rfl (lv_at hl 3 rfl) ?_
        refine lv_aload_n hx hb dX6_isPart_19 rfl (lv_at hl 0 rfl) ?_
        refine dk_get (k := 340) hx hb hts iX6_isPart_6 hown hK (dk_at340 hW) rfl 1 (by decide) (hts (.fieldLink RX6 13 "DogKingsModel" "many" "[I") (List.mem_of_getElem? (i := 1) rfl)) rfl dX6_isPart_20 ?_
        refine lv_iload_n hx hb dX6_isPart_23 rfl (lv_at hl 1 rfl) ?_
        refine dk_ild (k := 342) hx hb hK (dk_at342 hW) (dkN_in (n := 8) dp0 rfl) dX6_isPart_24 ?_
        refine lv_topi (fun v9 ev9 => ?_)
        have dv9 : dkN [(0, 40)] v9 := by rw [ev9]; exact (hO 342 _)
        refine lv_iload_n hx hb dX6_isPart_25 rfl (lv_at hl 2 rfl) ?_
        refine lv_isub hx hb dX6_isPart_26 ?_
        refine lv_topi (fun v10 ev10 => ?_)
        have dv10 : dkN [(-40, 40)] v10 := by rw [ev10]; exact dkN_subt dv9 d8 rfl
        refine lv_icmp_gt (tgt := 34) hx hb dX6_isPart_27 (by decide) (fun c11 => ?_) (fun c11 => ?_)
        ·
          have d12 : dkN [(-40, 39)] v10 := dkN_le1 1 dv10 dp2 (dkc_lt c11) rfl
          refine lv_iconst (v := 0) hx hb dX6_isPart_34 (by decide) ?_
          exact W.zret (v := 0) (ty := .boolean) hx hb hr rfl (fun t ht hW9 => ⟨⟨0, I0, rfl, ⟨hF, hO, Or.inl ⟨dkN_sub (dkN_lit (x := 0) (0) rfl) rfl, trivial⟩⟩, dkW_eq ht hW⟩, hS.F ht⟩) hS.2.2 dX6_isPart_35
        ·
          have d13 : dkN [(0, 40)] v10 := dkN_le2 0 dp2 dv10 (dkc_nlt c11) rfl
          refine lv_iconst (v := 1) hx hb dX6_isPart_30 (by decide) ?_
          refine lv_goto (tgt := 35) hx hb dX6_isPart_31 (by decide) ?_
          exact W.zret (v := 1) (ty := .boolean) hx hb hr rfl (fun t ht hW9 => ⟨⟨1, I0, rfl, ⟨hF, hO, Or.inr (⟨dkN_sub (dkN_lit (x := 1) (1) rfl) rfl, dkN_sub d8 rfl, (dk_relsub ev10 dv9 d8 (dkc_nlt c11) rfl), trivial⟩)⟩, dkW_eq ht hW⟩, hS.F ht⟩) hS.2.2 dX6_isPart_35
set_option maxHeartbeats 4000000 in
set_option maxRecDepth 100000 in
theorem c_X6_found_3 (l : Launch) (g : dkG) (z : Nat) (I0 : dkI) (p0 : Int32) (dp0 : dkN [(5, 5)] p0)  (hO : dkOk I0) : Met l yX6_found wsX6_found (dkR 0) (dkPc g z [.ref (z + 340), .int p0] I0) (dkQi g z (fun r I1 => dkF [(340, 340, 4, 4)] I0 I1 ∧ dkOk I1 ∧ ((dkN [(-1000015, -1000015)] r ∧ dkN [(5, 5)] (I1 340 4) ∧ True)))) 0 0 (dkA z) := by
  refine Met.ofW (cc := cX6_found) (maxL := 2) (ret := (some .int)) (by decide) rfl ?_
  intro p e s m args below meth c s₁ B hml hv
  obtain ⟨ha, hW, hK, hT⟩ := hv
  have hx := B.exec
  have hb := B.bytes
  have hr := B.returns
  have hts := atoms_spec (ws := wsX6_found) B.pre
  have hown : s.vm.findClass RX6 = some m.cls := findClass_of_methodNamed B.named
  have hlocks := B.notSynchronized
  have hS : va_S (dkA z) s.heap s.heap [] := va_S.rf
  have hF : dkF [(340, 340, 4, 4)] I0 I0 := dkF_rf _ _
  have hl := lv_entry ([.ref (z + 340), .int p0]) (n := 2) (Nat.le_of_ble_eq_true rfl)
  have hgo : entryFrame m args 2 = entryFrame m ([.ref (z + 340), .int p0] : List Value).toArray 2 := by rw [ha]
  rw [hgo, lg_entry_eq]
  generalize (lg_sl ([.ref (z + 340), .int p0]) ++ List.replicate (2 - (lg_sl ([.ref (z + 340), .int p0])).length) Slot.unset).toArray = ls at hl ⊢
  have hl : lv_has ls 2 [(0, .ref (z + 340)), (1, .int p0)] := hl
  refine lv_aload_n hx hb dX6_found_0 rfl (lv_at hl 0 rfl) ?_
  refine lv_iload_n hx hb dX6_found_1 rfl (lv_at hl 1 rfl) ?_
  refine dk_put (k := 340) hx hb hts iX6_found_6 tyX6 tyX6_ok nmX6 hown hK hW (dk_at340 hW) hS rfl 4 (by decide) (hts (.fieldLink RX6 51 "DogKingsModel" "status" "I") (List.mem_of_getElem? (i := 1) rfl)) rfl rfl (Nat.le_of_ble_eq_true rfl) rfl dX6_found_2 (fun I1 H1 L1 eI1 hW hS => ?_)
  have eI1 : I1 = dkU I0 340 4 p0 := eI1
  have hO := dkO_set hO eI1 (dkN_sub dp0 rfl)
  have hF := dkF_set hF eI1 rfl
  refine lv_ldc (v := (-1000010)) hx hb hown (hts (.constant RX6 55 (-1000010)) (List.mem_of_getElem? (i := 2) rfl)) dX6_found_5 ?_
  refine lv_iload_n hx hb dX6_found_7 rfl (lv_at hl 1 rfl) ?_
  refine lv_isub hx hb dX6_found_8 ?_
  refine lv_topi (fun v2 ev2 => ?_)
  have dv2 : dkN [(-1000015, -1000015)] v2 := by rw [ev2]; exact dkN_subt (dkN_lit (x := (-1000010)) (-1000010) rfl) dp0 rfl
  exact W.iret (v := v2) hx hb hr (fun t ht hW9 => ⟨⟨v2, I1, rfl, ⟨hF, hO, ⟨dkN_sub dv2 rfl, (show dkN [(5, 5)] (I1 340 4) from dkN_sub (by rw [eI1, dkU_ss]; exact dp0) rfl), trivial⟩⟩, dkW_eq ht hW⟩, hS.F ht⟩) hS.2.2 dX6_found_9
set_option maxHeartbeats 4000000 in
set_option maxRecDepth 100000 in
theorem c_X6_copy_0 (l : Launch) (g : dkG) (z : Nat) (I0 : dkI) (p0 : Int32) (p1 : Int32) (p2 : Int32) (p3 : Int32) (p4 : Int32)  (hO : dkOk I0) : Met l yX6_copy wsX6_copy (dkR 2) (dkPc g z [.ref (z + 340), .int p0, .int p1, .int p2, .int p3, .int p4] I0) (dkQi g z (fun r I1 => dkF [(340, 340, 4, 4), (343, 343, 0, 359), (344, 344, 0, 39)] I0 I1 ∧ dkOk I1 ∧ ((dkN [(-1000015, -1000015), (-1000012, -1000011), (-1000001, -1000001), (0, 40)] r ∧ True)))) 0 0 (dkA z) := by
  refine Met.ofW (cc := cX6_copy) (maxL := 7) (ret := (some .int)) (by decide) rfl ?_
  intro p e s m args below meth c s₁ B hml hv
  obtain ⟨ha, hW, hK, hT⟩ := hv
  have hx := B.exec
  have hb := B.bytes
  have hr := B.returns
  have hts := atoms_spec (ws := wsX6_copy) B.pre
  have hown : s.vm.findClass RX6 = some m.cls := findClass_of_methodNamed B.named
  have hlocks := B.notSynchronized
  have hS : va_S (dkA z) s.heap s.heap [] := va_S.rf
  have hF : dkF [(340, 340, 4, 4), (343, 343, 0, 359), (344, 344, 0, 39)] I0 I0 := dkF_rf _ _
  have hl := lv_entry ([.ref (z + 340), .int p0, .int p1, .int p2, .int p3, .int p4]) (n := 7) (Nat.le_of_ble_eq_true rfl)
  have hgo : entryFrame m args 7 = entryFrame m ([.ref (z + 340), .int p0, .int p1, .int p2, .int p3, .int p4] : List Value).toArray 7 := by rw [ha]
  rw [hgo, lg_entry_eq]
  generalize (lg_sl ([.ref (z + 340), .int p0, .int p1, .int p2, .int p3, .int p4]) ++ List.replicate (7 - (lg_sl ([.ref (z + 340), .int p0, .int p1, .int p2, .int p3, .int p4])).length) Slot.unset).toArray = ls at hl ⊢
  have hl : lv_has ls 7 [(0, .ref (z + 340)), (1, .int p0), (2, .int p1), (3, .int p2), (4, .int p3), (5, .int p4)] := hl
  have C33 : ∀ (I : dkI) (H : Heap) (locs : List Loc) (ls : Array Slot), dkW g z I H → va_S (dkA z) s.heap H locs → dkF [(340, 340, 4, 4), (343, 343, 0, 359), (344, 344, 0, 39)] I0 I → dkOk I → dkN [(0, 7)] p0 → dkN [(0, 7)] p2 → lv_has ls 7 [(0, .ref (z + 340)), (1, .int p0), (2, .int p1), (3, .int p2), (4, .int p3), (5, .int p4)] → W p l e (headSpec wsX6_copy (dkR 2)).room s m args below meth c H locs 0 0 (MQ below (dkQi g z (fun r I1 => dkF [(340, 340, 4, 4), (343, 343, 0, 359), (344, 344, 0, 39)] I0 I1 ∧ dkOk I1 ∧ ((dkN [(-1000015, -1000015), (-1000012, -1000011), (-1000001, -1000001), (0, 40)] r ∧ True)))) args s 0 0 (dkA z)) (F0 m 33 ls []) := by
    intro I33_ H locs ls hW hS hF_33 hO r33_0 r33_1 hl
    have hF := hF_33
    refine lv_aload_n hx hb dX6_copy_33 rfl (lv_at hl 0 rfl) ?_
    refine lv_iconst (v := 1) hx hb dX6_copy_34 (by decide) ?_
    refine dk_Vi (As := [.int 1]) (rest := []) ⟨hx, hb, hml, hown, hts⟩ (c_X6_found_2 l g z I33_ 1 (dkN_lit (x := 1) (1) rfl) hO) (cwV 1 hts gX6_copy_X6_found rfl rfl rfl (by decide +kernel) ⟨Nat.le_of_ble_eq_true rfl, Nat.le_of_ble_eq_true rfl⟩) (dk_at340 hW) rfl hK hT hW hS rfl hl.1 rfl (Nat.le_of_ble_eq_true rfl) dX6_copy_35 ⟨Nat.zero_le _, Nat.zero_le _⟩ (fun v1 I1 H1 L1 hp1 hW hS => ?_)
    obtain ⟨hF1, hO, hc1⟩ := hp1
    have hF := dkF_call hF hF1 rfl
    obtain ⟨dv1, f1_340_4, -⟩ := hc1
    exact W.iret (v := v1) hx hb hr (fun t ht hW9 => ⟨⟨v1, I1, rfl, ⟨hF, hO, ⟨dkN_sub dv1 rfl, trivial⟩⟩, dkW_eq ht hW⟩, hS.F ht⟩) hS.2.2 dX6_copy_38
  have C83 : ∀ (I : dkI) (H : Heap) (locs : List Loc) (ls : Array Slot), dkW g z I H → va_S (dkA z) s.heap H locs → dkF [(340, 340, 4, 4), (343, 343, 0, 359), (344, 344, 0, 39)] I0 I → dkOk I → dkN [(0, 7)] p0 → dkN [(0, 7)] p2 → lv_has ls 7 [(0, .ref (z + 340)), (1, .int p0), (2, .int p1), (3, .int p2), (4, .int p3), (5, .int p4)] → W p l e (headSpec wsX6_copy (dkR 2)).room s m args below meth c H locs 0 0 (MQ below (dkQi g z (fun r I1 => dkF [(340, 340, 4, 4), (343, 343, 0, 359), (344, 344, 0, 39)] I0 I1 ∧ dkOk I1 ∧ ((dkN [(-1000015, -1000015), (-1000012, -1000011), (-1000001, -1000001), (0, 40)] r ∧ True)))) args s 0 0 (dkA z)) (F0 m 83 ls []) := by
    intro I83_ H locs ls hW hS hF_83 hO r83_0 r83_1 hl
    have hF := hF_83
    refine lv_aload_n hx hb dX6_copy_83 rfl (lv_at hl 0 rfl) ?_
    refine lv_iconst (v := 2) hx hb dX6_copy_84 (by decide) ?_
    refine dk_Vi (As := [.int 2]) (rest := []) ⟨hx, hb, hml, hown, hts⟩ (c_X6_found_1 l g z I83_ 2 (dkN_lit (x := 2) (2) rfl) hO) (cwV 1 hts gX6_copy_X6_found rfl rfl rfl (by decide +kernel) ⟨Nat.le_of_ble_eq_true rfl, Nat.le_of_ble_eq_true rfl⟩) (dk_at340 hW) rfl hK hT hW hS rfl hl.1 rfl (Nat.le_of_ble_eq_true rfl) dX6_copy_85 ⟨Nat.zero_le _, Nat.zero_le _⟩ (fun v2 I2 H2 L2 hp2 hW hS => ?_)
    obtain ⟨hF2, hO, hc2⟩ := hp2
    have hF := dkF_call hF hF2 rfl
    obtain ⟨dv2, f2_340_4, -⟩ := hc2
    exact W.iret (v := v2) hx hb hr (fun t ht hW9 => ⟨⟨v2, I2, rfl, ⟨hF, hO, ⟨dkN_sub dv2 rfl, trivial⟩⟩, dkW_eq ht hW⟩, hS.F ht⟩) hS.2.2 dX6_copy_88
  have C129 : ∀ (n : Nat), ∀ (I : dkI) (H : Heap) (locs : List Loc) (ls : Array Slot) (x129_6 : Int32), (40 - x129_6.toInt).toNat < n → dkW g z I H → va_S (dkA z) s.heap H locs → dkF [(340, 340, 4, 4), (343, 343, 0, 359), (344, 344, 0, 39)] I0 I → dkOk I → dkN [(0, 40)] x129_6 → dkN [(0, 7)] p0 → dkN [(0, 40)] p1 → dkN [(0, 7)] p2 → dkN [(0, 40)] p3 → dkN [(0, 40)] p4 → p1.toInt + p4.toInt ≤ 40 → p3.toInt + p4.toInt ≤ 40 → lv_has ls 7 [(0, .ref (z + 340)), (1, .int p0), (2, .int p1), (3, .int p2), (4, .int p3), (5, .int p4), (6, .int x129_6)] → W p l e (headSpec wsX6_copy (dkR 2)).room s m args below meth c H locs 0 0 (MQ below (dkQi g z (fun r I1 => dkF [(340, 340, 4, 4), (343, 343, 0, 359), (344, 344, 0, 39)] I0 I1 ∧ dkOk I1 ∧ ((dkN [(-1000015, -1000015), (-1000012, -1000011), (-1000001, -1000001), (0, 40)] r ∧ True)))) args s 0 0 (dkA z)) (F0 m 129 ls []) := by
    intro n
    induction n with
    | zero => intro I H locs ls x129_6 hn; exact absurd hn (Nat.not_lt_zero _)
    | succ n ih129 =>
      intro I129_ H locs ls x129_6 hn129 hW hS hF_129 hO k129_0 r129_0 r129_1 r129_2 r129_3 r129_4 q129_0 q129_1 hl
      have hF := hF_129
      refine lv_iload hx hb dX6_copy_129 (lv_at hl 6 rfl) ?_
      refine lv_iload hx hb dX6_copy_131 (lv_at hl 5 rfl) ?_
      refine lv_icmp_ge (tgt := 164) hx hb dX6_copy_133 (by decide) (fun c3 => ?_) (fun c3 => ?_)
      ·
        refine lv_aload_n hx hb dX6_copy_164 rfl (lv_at hl 0 rfl) ?_
        refine lv_iload hx hb dX6_copy_165 (lv_at hl 5 rfl) ?_
        refine dk_Vi (As := [.int p4]) (rest := []) ⟨hx, hb, hml, hown, hts⟩ (c_X6_well_0 l g z I129_ p4 hO) (cwV 1 hts gX6_copy_X6_well rfl rfl rfl (by decide +kernel) ⟨Nat.le_of_ble_eq_true rfl, Nat.le_of_ble_eq_true rfl⟩) (dk_at340 hW) rfl hK hT hW hS rfl hl.1 rfl (Nat.le_of_ble_eq_true rfl) dX6_copy_167 ⟨Nat.zero_le _, Nat.zero_le _⟩ (fun v4 I4 H4 L4 hp4 hW hS => ?_)
        obtain ⟨hF4, hO, ev4, hc4⟩ := hp4
        have hF := dkF_call hF hF4 rfl
        obtain ⟨_, f4_340_4, -⟩ := hc4
        rw [ev4]
        exact W.iret (v := p4) hx hb hr (fun t ht hW9 => ⟨⟨p4, I4, rfl, ⟨hF, hO, ⟨dkN_sub r129_4 rfl, trivial⟩⟩, dkW_eq ht hW⟩, hS.F ht⟩) hS.2.2 dX6_copy_170
      ·
        have d5 : dkN [(1, 40)] p4 := dkN_le2 1 k129_0 r129_4 (dkc_nle c3) rfl
        have d6 : dkN [(0, 39)] x129_6 := dkN_le1 1 k129_0 r129_4 (dkc_nle c3) rfl
        refine lv_aload_n hx hb dX6_copy_136 rfl (lv_at hl 0 rfl) ?_
        refine dk_get (k := 340) hx hb hts iX6_copy_6 hown hK (dk_at340 hW) rfl 2 (by decide) (hts (.fieldLink RX6 16 "DogKingsModel" "items" "[I") (List.mem_of_getElem? (i := 4) rfl)) rfl dX6_copy_137 ?_
        refine lv_bipush (v := 40) hx hb dX6_copy_140 (by decide) ?_
        refine lv_iload_n hx hb dX6_copy_142 rfl (lv_at hl 3 rfl) ?_
        refine lv_imul hx hb dX6_copy_143 ?_
        refine lv_topi (fun v7 ev7 => ?_)
        have dv7 : dkN [(0, 280)] v7 := by rw [ev7]; exact dkN_mulL 40 (by decide) (dkN_lit (x := 40) (40) rfl) r129_2 rfl
        refine lv_iload hx hb dX6_copy_144 (lv_at hl 4 rfl) ?_
        refine lv_iadd hx hb dX6_copy_146 ?_
        refine lv_topi (fun v8 ev8 => ?_)
        have dv8 : dkN [(0, 320)] v8 := by rw [ev8]; exact dkN_add dv7 r129_3 rfl
        refine lv_iload hx hb dX6_copy_147 (lv_at hl 6 rfl) ?_
        refine lv_iadd hx hb dX6_copy_149 ?_
        refine lv_topi (fun v9 ev9 => ?_)
        have dv9 : dkN [(0, 359)] v9 := by rw [ev9]; exact dkN_add dv8 d6 rfl
        refine lv_aload_n hx hb dX6_copy_150 rfl (lv_at hl 0 rfl) ?_
        refine dk_get (k := 340) hx hb hts iX6_copy_6 hown hK (dk_at340 hW) rfl 3 (by decide) (hts (.fieldLink RX6 19 "DogKingsModel" "spare" "[I") (List.mem_of_getElem? (i := 3) rfl)) rfl dX6_copy_151 ?_
        refine lv_iload hx hb dX6_copy_154 (lv_at hl 6 rfl) ?_
        refine dk_ild (k := 344) hx hb hK (dk_at344 hW) (dkN_in (n := 40) d6 rfl) dX6_copy_156 ?_
        refine lv_topi (fun v10 ev10 => ?_)
        refine dk_ist (k := 343) hx hb hK hW (fun _ => rfl) (by decide) hS (dk_in320 ev7 ev8 ev9 r129_2 r129_3 d6 (dkc_nle c3) q129_1 rfl) dX6_copy_157 (fun I11 H11 L11 eI11 hW hS => ?_)
        have hO := dkO_set hO eI11 (dkN_sub (dkN_top v10) rfl)
        have hF := dkF_set hF eI11 (dkIn_v dv9 rfl)
        obtain ⟨v12, ev12⟩ : ∃ y : Int32, y = x129_6 + 1 := ⟨_, rfl⟩
        have dv12 : dkN [(1, 40)] v12 := by rw [ev12]; exact dkN_add d6 (dkN_lit (x := 1) (1) rfl) rfl
        refine lv_iinc (v := v12) (lv' := [(6, .int v12), (0, .ref (z + 340)), (1, .int p0), (2, .int p1), (3, .int p2), (4, .int p3), (5, .int p4)]) hx hb dX6_copy_158 hl (k := 6) rfl (by rw [ev12]; rfl) (by decide) rfl (fun ls hl => ?_)
        refine lv_goto (tgt := 129) hx hb dX6_copy_161 (by decide) ?_
        exact ih129 I11 _ _ ls v12 (dk_near hn129 (by rw [ev12]; exact dk_inc d6 rfl) (dkN_lt d6 rfl)) hW hS hF hO (dkN_sub dv12 rfl) (dkN_sub r129_0 rfl) (dkN_sub r129_1 rfl) (dkN_sub r129_2 rfl) (dkN_sub r129_3 rfl) (dkN_sub d5 rfl) q129_0 q129_1 (lv_sub hl [1, 2, 3, 4, 5, 6, 0] rfl)
  have C92 : ∀ (n : Nat), ∀ (I : dkI) (H : Heap) (locs : List Loc) (ls : Array Slot) (x92_6 : Int32), (40 - x92_6.toInt).toNat < n → dkW g z I H → va_S (dkA z) s.heap H locs → dkF [(340, 340, 4, 4), (343, 343, 0, 359), (344, 344, 0, 39)] I0 I → dkOk I → dkN [(0, 40)] x92_6 → dkN [(0, 7)] p0 → dkN [(0, 40)] p1 → dkN [(0, 7)] p2 → dkN [(0, 40)] p3 → dkN [(0, 40)] p4 → p1.toInt + p4.toInt ≤ 40 → p3.toInt + p4.toInt ≤ 40 → lv_has ls 7 [(0, .ref (z + 340)), (1, .int p0), (2, .int p1), (3, .int p2), (4, .int p3), (5, .int p4), (6, .int x92_6)] → W p l e (headSpec wsX6_copy (dkR 2)).room s m args below meth c H locs 0 0 (MQ below (dkQi g z (fun r I1 => dkF [(340, 340, 4, 4), (343, 343, 0, 359), (344, 344, 0, 39)] I0 I1 ∧ dkOk I1 ∧ ((dkN [(-1000015, -1000015), (-1000012, -1000011), (-1000001, -1000001), (0, 40)] r ∧ True)))) args s 0 0 (dkA z)) (F0 m 92 ls []) := by
    intro n
    induction n with
    | zero => intro I H locs ls x92_6 hn; exact absurd hn (Nat.not_lt_zero _)
    | succ n ih92 =>
      intro I92_ H locs ls x92_6 hn92 hW hS hF_92 hO k92_0 r92_0 r92_1 r92_2 r92_3 r92_4 q92_0 q92_1 hl
      have hF := hF_92
      refine lv_iload hx hb dX6_copy_92 (lv_at hl 6 rfl) ?_
      refine lv_iload hx hb dX6_copy_94 (lv_at hl 5 rfl) ?_
      refine lv_icmp_ge (tgt := 126) hx hb dX6_copy_96 (by decide) (fun c13 => ?_) (fun c13 => ?_)
      ·
        refine lv_iconst (v := 0) hx hb dX6_copy_126 (by decide) ?_
        refine lv_istore (lv' := [(6, .int 0), (0, .ref (z + 340)), (1, .int p0), (2, .int p1), (3, .int p2), (4, .int p3), (5, .int p4)]) hx hb dX6_copy_127 hl (by decide) rfl (fun ls hl => ?_)
        exact C129 _ I92_ _ _ ls 0 (Nat.lt_succ_self _) hW hS hF hO (dkN_sub (dkN_lit (x := 0) (0) rfl) rfl) (dkN_sub r92_0 rfl) (dkN_sub r92_1 rfl) (dkN_sub r92_2 rfl) (dkN_sub r92_3 rfl) (dkN_sub r92_4 rfl) q92_0 q92_1 (lv_sub hl [1, 2, 3, 4, 5, 6, 0] rfl)
      ·
        have d14 : dkN [(1, 40)] p4 := dkN_le2 1 k92_0 r92_4 (dkc_nle c13) rfl
        have d15 : dkN [(0, 39)] x92_6 := dkN_le1 1 k92_0 r92_4 (dkc_nle c13) rfl
        refine lv_aload_n hx hb dX6_copy_99 rfl (lv_at hl 0 rfl) ?_
        refine dk_get (k := 340) hx hb hts iX6_copy_6 hown hK (dk_at340 hW) rfl 3 (by decide) (hts (.fieldLink RX6 19 "DogKingsModel" "spare" "[I") (List.mem_of_getElem? (i := 3) rfl)) rfl dX6_copy_100 ?_
        refine lv_iload hx hb dX6_copy_103 (lv_at hl 6 rfl) ?_
        refine lv_aload_n hx hb dX6_copy_105 rfl (lv_at hl 0 rfl) ?_
        refine dk_get (k := 340) hx hb hts iX6_copy_6 hown hK (dk_at340 hW) rfl 2 (by decide) (hts (.fieldLink RX6 16 "DogKingsModel" "items" "[I") (List.mem_of_getElem? (i := 4) rfl)) rfl dX6_copy_106 ?_
        refine lv_bipush (v := 40) hx hb dX6_copy_109 (by decide) ?_
        refine lv_iload_n hx hb dX6_copy_111 rfl (lv_at hl 1 rfl) ?_
        refine lv_imul hx hb dX6_copy_112 ?_
        refine lv_topi (fun v16 ev16 => ?_)
        have dv16 : dkN [(0, 280)] v16 := by rw [ev16]; exact dkN_mulL 40 (by decide) (dkN_lit (x := 40) (40) rfl) r92_0 rfl
        refine lv_iload_n hx hb dX6_copy_113 rfl (lv_at hl 2 rfl) ?_
        refine lv_iadd hx hb dX6_copy_114 ?_
        refine lv_topi (fun v17 ev17 => ?_)
        have dv17 : dkN [(0, 320)] v17 := by rw [ev17]; exact dkN_add dv16 r92_1 rfl
        refine lv_iload hx hb dX6_copy_115 (lv_at hl 6 rfl) ?_
        refine lv_iadd hx hb dX6_copy_117 ?_
        refine lv_topi (fun v18 ev18 => ?_)
        have dv18 : dkN [(0, 359)] v18 := by rw [ev18]; exact dkN_add dv17 d15 rfl
        refine dk_ild (k := 343) hx hb hK (dk_at343 hW) (dk_in320 ev16 ev17 ev18 r92_0 r92_1 d15 (dkc_nle c13) q92_0 rfl) dX6_copy_118 ?_
        refine lv_topi (fun v19 ev19 => ?_)
        refine dk_ist (k := 344) hx hb hK hW (fun _ => rfl) (by decide) hS (dkN_in (n := 40) d15 rfl) dX6_copy_119 (fun I20 H20 L20 eI20 hW hS => ?_)
        have hO := dkO_set hO eI20 (dkN_sub (dkN_top v19) rfl)
        have hF := dkF_set hF eI20 (dkIn_v d15 rfl)
        obtain ⟨v21, ev21⟩ : ∃ y : Int32, y = x92_6 + 1 := ⟨_, rfl⟩
        have dv21 : dkN [(1, 40)] v21 := by rw [ev21]; exact dkN_add d15 (dkN_lit (x := 1) (1) rfl) rfl
        refine lv_iinc (v := v21) (lv' := [(6, .int v21), (0, .ref (z + 340)), (1, .int p0), (2, .int p1), (3, .int p2), (4, .int p3), (5, .int p4)]) hx hb dX6_copy_120 hl (k := 6) rfl (by rw [ev21]; rfl) (by decide) rfl (fun ls hl => ?_)
        refine lv_goto (tgt := 92) hx hb dX6_copy_123 (by decide) ?_
        exact ih92 I20 _ _ ls v21 (dk_near hn92 (by rw [ev21]; exact dk_inc d15 rfl) (dkN_lt d15 rfl)) hW hS hF hO (dkN_sub dv21 rfl) (dkN_sub r92_0 rfl) (dkN_sub r92_1 rfl) (dkN_sub r92_2 rfl) (dkN_sub r92_3 rfl) (dkN_sub d14 rfl) q92_0 q92_1 (lv_sub hl [1, 2, 3, 4, 5, 6, 0] rfl)
  refine lv_iload_n hx hb dX6_copy_0 rfl (lv_at hl 1 rfl) ?_
  refine dk_Si (As := [.int p0]) (rest := []) ⟨hx, hb, hml, hown, hts⟩ (c_X6_isRow_0 l g z I0 p0 hO) (va_cwS 1 hts gX6_copy_X6_isRow rfl rfl rfl (by decide +kernel) ⟨Nat.le_of_ble_eq_true rfl, Nat.le_of_ble_eq_true rfl⟩) hK hT hW hS rfl hl.1 rfl (Nat.le_of_ble_eq_true rfl) dX6_copy_1 ⟨Nat.zero_le _, Nat.zero_le _⟩ (fun v22 I22 H22 L22 hp22 hW hS => ?_)
  obtain ⟨hF22, hO, hc22⟩ := hp22
  have hF := dkF_call hF hF22 rfl
  rcases hc22 with ⟨dv22, a22_0, -⟩ | hc22
  ·
    have d23 : dkN [(-2147483648, -1), (8, 2147483647)] p0 := dkN_eq1 (dkN_top p0) a22_0 rfl rfl
    refine lv_if_eq (tgt := 14) hx hb dX6_copy_4 (by decide) (fun c24 => ?_) (fun c24 => ?_)
    ·
      refine lv_ldc (v := (-1000001)) hx hb hown (hts (.constant RX6 64 (-1000001)) (List.mem_of_getElem? (i := 1) rfl)) dX6_copy_14 ?_
      exact W.iret (v := (-1000001)) hx hb hr (fun t ht hW9 => ⟨⟨(-1000001), I22, rfl, ⟨hF, hO, ⟨dkN_sub (dkN_lit (x := (-1000001)) (-1000001) rfl) rfl, trivial⟩⟩, dkW_eq ht hW⟩, hS.F ht⟩) hS.2.2 dX6_copy_16
    ·
      exact (dkN_nil (show dkN [] v22 from dkN_ne1 (0) dv22 (dkN_lit (x := 0) (0) rfl) (dk_ne c24) rfl)).elim
  ·
    obtain ⟨dv22, a22_0, -⟩ := hc22
    have d25 : dkN [(0, 7)] p0 := dkN_eq1 (dkN_top p0) a22_0 rfl rfl
    refine lv_if_eq (tgt := 14) hx hb dX6_copy_4 (by decide) (fun c26 => ?_) (fun c26 => ?_)
    ·
      exact (dkN_nil (show dkN [] v22 from dkN_eq1 dv22 (dkN_lit (x := 0) (0) rfl) (congrArg Int32.toInt c26) rfl)).elim
    ·
      refine lv_iload_n hx hb dX6_copy_7 rfl (lv_at hl 3 rfl) ?_
      refine dk_Si (As := [.int p2]) (rest := []) ⟨hx, hb, hml, hown, hts⟩ (c_X6_isRow_0 l g z I22 p2 hO) (va_cwS 1 hts gX6_copy_X6_isRow rfl rfl rfl (by decide +kernel) ⟨Nat.le_of_ble_eq_true rfl, Nat.le_of_ble_eq_true rfl⟩) hK hT hW hS rfl hl.1 rfl (Nat.le_of_ble_eq_true rfl) dX6_copy_8 ⟨Nat.zero_le _, Nat.zero_le _⟩ (fun v27 I27 H27 L27 hp27 hW hS => ?_)
      obtain ⟨hF27, hO, hc27⟩ := hp27
      have hF := dkF_call hF hF27 rfl
      rcases hc27 with ⟨dv27, a27_0, -⟩ | hc27
      ·
        have d28 : dkN [(-2147483648, -1), (8, 2147483647)] p2 := dkN_eq1 (dkN_top p2) a27_0 rfl rfl
        refine lv_if_ne (tgt := 17) hx hb dX6_copy_11 (by decide) (fun c29 => ?_) (fun c29 => ?_)
        ·
          exact (dkN_nil (show dkN [] v27 from dkN_ne1 (0) dv27 (dkN_lit (x := 0) (0) rfl) (dk_ne c29) rfl)).elim
        ·
          refine lv_ldc (v := (-1000001)) hx hb hown (hts (.constant RX6 64 (-1000001)) (List.mem_of_getElem? (i := 1) rfl)) dX6_copy_14 ?_
          exact W.iret (v := (-1000001)) hx hb hr (fun t ht hW9 => ⟨⟨(-1000001), I27, rfl, ⟨hF, hO, ⟨dkN_sub (dkN_lit (x := (-1000001)) (-1000001) rfl) rfl, trivial⟩⟩, dkW_eq ht hW⟩, hS.F ht⟩) hS.2.2 dX6_copy_16
      ·
        obtain ⟨dv27, a27_0, -⟩ := hc27
        have d30 : dkN [(0, 7)] p2 := dkN_eq1 (dkN_top p2) a27_0 rfl rfl
        refine lv_if_ne (tgt := 17) hx hb dX6_copy_11 (by decide) (fun c31 => ?_) (fun c31 => ?_)
        ·
          refine lv_aload_n hx hb dX6_copy_17 rfl (lv_at hl 0 rfl) ?_
          refine lv_iload_n hx hb dX6_copy_18 rfl (lv_at hl 1 rfl) ?_
          refine dk_Vi (As := [.int p0]) (rest := []) ⟨hx, hb, hml, hown, hts⟩ (c_X6_isMissing_0 l g z I27 p0 d25 hO) (cwV 1 hts gX6_copy_X6_isMissing rfl rfl rfl (by decide +kernel) ⟨Nat.le_of_ble_eq_true rfl, Nat.le_of_ble_eq_true rfl⟩) (dk_at340 hW) rfl hK hT hW hS rfl hl.1 rfl (Nat.le_of_ble_eq_true rfl) dX6_copy_19 ⟨Nat.zero_le _, Nat.zero_le _⟩ (fun v32 I32 H32 L32 hp32 hW hS => ?_)
          obtain ⟨hF32, hO, hc32⟩ := hp32
          have hF := dkF_call hF hF32 rfl
          obtain ⟨dv32, -⟩ := hc32
          refine lv_if_ne (tgt := 33) hx hb dX6_copy_22 (by decide) (fun c33 => ?_) (fun c33 => ?_)
          ·
            have d34 : dkN [(1, 1)] v32 := dkN_ne1 (0) dv32 (dkN_lit (x := 0) (0) rfl) (dk_ne c33) rfl
            exact C33 I32 _ _ ls  hW hS hF hO (dkN_sub d25 rfl) (dkN_sub d30 rfl) (lv_sub hl [0, 1, 2, 3, 4, 5] rfl)
          ·
            have d35 : dkN [(0, 0)] v32 := dkN_eq1 dv32 (dkN_lit (x := 0) (0) rfl) (congrArg Int32.toInt c33) rfl
            refine lv_aload_n hx hb dX6_copy_25 rfl (lv_at hl 0 rfl) ?_
            refine lv_iload_n hx hb dX6_copy_26 rfl (lv_at hl 3 rfl) ?_
            refine dk_Vi (As := [.int p2]) (rest := []) ⟨hx, hb, hml, hown, hts⟩ (c_X6_isMissing_0 l g z I32 p2 d30 hO) (cwV 1 hts gX6_copy_X6_isMissing rfl rfl rfl (by decide +kernel) ⟨Nat.le_of_ble_eq_true rfl, Nat.le_of_ble_eq_true rfl⟩) (dk_at340 hW) rfl hK hT hW hS rfl hl.1 rfl (Nat.le_of_ble_eq_true rfl) dX6_copy_27 ⟨Nat.zero_le _, Nat.zero_le _⟩ (fun v36 I36 H36 L36 hp36 hW hS => ?_)
            obtain ⟨hF36, hO, hc36⟩ := hp36
            have hF := dkF_call hF hF36 rfl
            obtain ⟨dv36, -⟩ := hc36
            refine lv_if_eq (tgt := 39) hx hb dX6_copy_30 (by decide) (fun c37 => ?_) (fun c37 => ?_)
            ·
              have d38 : dkN [(0, 0)] v36 := dkN_eq1 dv36 (dkN_lit (x := 0) (0) rfl) (congrArg Int32.toInt c37) rfl
              refine lv_aload_n hx hb dX6_copy_39 rfl (lv_at hl 0 rfl) ?_
              refine dk_get (k := 340) hx hb hts iX6_copy_6 hown hK (dk_at340 hW) rfl 0 (by decide) (hts (.fieldLink RX6 7 "DogKingsModel" "lane" "[I") (List.mem_of_getElem? (i := 2) rfl)) rfl dX6_copy_40 ?_
              refine lv_iload_n hx hb dX6_copy_43 rfl (lv_at hl 1 rfl) ?_
              refine dk_ild (k := 341) hx hb hK (dk_at341 hW) (dkN_in (n := 8) d25 rfl) dX6_copy_44 ?_
              refine lv_topi (fun v39 ev39 => ?_)
              have dv39 : dkN [(-1000000, -1000000), (0, 2)] v39 := by rw [ev39]; exact (hO 341 _)
              refine lv_aload_n hx hb dX6_copy_45 rfl (lv_at hl 0 rfl) ?_
              refine dk_get (k := 340) hx hb hts iX6_copy_6 hown hK (dk_at340 hW) rfl 0 (by decide) (hts (.fieldLink RX6 7 "DogKingsModel" "lane" "[I") (List.mem_of_getElem? (i := 2) rfl)) rfl dX6_copy_46 ?_
              refine lv_iload_n hx hb dX6_copy_49 rfl (lv_at hl 3 rfl) ?_
              refine dk_ild (k := 341) hx hb hK (dk_at341 hW) (dkN_in (n := 8) d30 rfl) dX6_copy_50 ?_
              refine lv_topi (fun v40 ev40 => ?_)
              have dv40 : dkN [(-1000000, -1000000), (0, 2)] v40 := by rw [ev40]; exact (hO 341 _)
              refine lv_icmp_eq (tgt := 60) hx hb dX6_copy_51 (by decide) (fun c41 => ?_) (fun c41 => ?_)
              ·
                refine lv_aload_n hx hb dX6_copy_60 rfl (lv_at hl 0 rfl) ?_
                refine lv_iload_n hx hb dX6_copy_61 rfl (lv_at hl 1 rfl) ?_
                refine lv_iload_n hx hb dX6_copy_62 rfl (lv_at hl 2 rfl) ?_
                refine lv_iload hx hb dX6_copy_63 (lv_at hl 5 rfl) ?_
                refine dk_Vi (As := [.int p0, .int p1, .int p4]) (rest := []) ⟨hx, hb, hml, hown, hts⟩ (c_X6_isPart_0 l g z I36 p0 p1 p4 d25 hO) (cwV 3 hts gX6_copy_X6_isPart rfl rfl rfl (by decide +kernel) ⟨Nat.le_of_ble_eq_true rfl, Nat.le_of_ble_eq_true rfl⟩) (dk_at340 hW) rfl hK hT hW hS rfl hl.1 rfl (Nat.le_of_ble_eq_true rfl) dX6_copy_65 ⟨Nat.zero_le _, Nat.zero_le _⟩ (fun v42 I42 H42 L42 hp42 hW hS => ?_)
                obtain ⟨hF42, hO, hc42⟩ := hp42
                have hF := dkF_call hF hF42 rfl
                rcases hc42 with ⟨dv42, -⟩ | hc42
                ·
                  refine lv_if_eq (tgt := 83) hx hb dX6_copy_68 (by decide) (fun c43 => ?_) (fun c43 => ?_)
                  ·
                    exact C83 I42 _ _ ls  hW hS hF hO (dkN_sub d25 rfl) (dkN_sub d30 rfl) (lv_sub hl [0, 1, 2, 3, 4, 5] rfl)
                  ·
                    exact (dkN_nil (show dkN [] v42 from dkN_ne1 (0) dv42 (dkN_lit (x := 0) (0) rfl) (dk_ne c43) rfl)).elim
                ·
                  obtain ⟨dv42, a42_1, a42_2, q42_0, -⟩ := hc42
                  have d44 : dkN [(0, 40)] p1 := dkN_eq1 (dkN_top p1) a42_1 rfl rfl
                  have d45 : dkN [(0, 40)] p4 := dkN_eq1 (dkN_top p4) a42_2 rfl rfl
                  refine lv_if_eq (tgt := 83) hx hb dX6_copy_68 (by decide) (fun c46 => ?_) (fun c46 => ?_)
                  ·
                    exact (dkN_nil (show dkN [] v42 from dkN_eq1 dv42 (dkN_lit (x := 0) (0) rfl) (congrArg Int32.toInt c46) rfl)).elim
                  ·
                    refine lv_aload_n hx hb dX6_copy_71 rfl (lv_at hl 0 rfl) ?_
                    refine lv_iload_n hx hb dX6_copy_72 rfl (lv_at hl 3 rfl) ?_
                    refine lv_iload hx hb dX6_copy_73 (lv_at hl 4 rfl) ?_
                    refine lv_iload hx hb dX6_copy_75 (lv_at hl 5 rfl) ?_
                    refine dk_Vi (As := [.int p2, .int p3, .int p4]) (rest := []) ⟨hx, hb, hml, hown, hts⟩ (c_X6_isPart_1 l g z I42 p2 p3 p4 d30 d45 hO) (cwV 3 hts gX6_copy_X6_isPart rfl rfl rfl (by decide +kernel) ⟨Nat.le_of_ble_eq_true rfl, Nat.le_of_ble_eq_true rfl⟩) (dk_at340 hW) rfl hK hT hW hS rfl hl.1 rfl (Nat.le_of_ble_eq_true rfl) dX6_copy_77 ⟨Nat.zero_le _, Nat.zero_le _⟩ (fun v47 I47 H47 L47 hp47 hW hS => ?_)
                    obtain ⟨hF47, hO, hc47⟩ := hp47
                    have hF := dkF_call hF hF47 rfl
                    rcases hc47 with ⟨dv47, -⟩ | hc47
                    ·
                      refine lv_if_ne (tgt := 89) hx hb dX6_copy_80 (by decide) (fun c48 => ?_) (fun c48 => ?_)
                      ·
                        exact (dkN_nil (show dkN [] v47 from dkN_ne1 (0) dv47 (dkN_lit (x := 0) (0) rfl) (dk_ne c48) rfl)).elim
                      ·
                        exact C83 I47 _ _ ls  hW hS hF hO (dkN_sub d25 rfl) (dkN_sub d30 rfl) (lv_sub hl [0, 1, 2, 3, 4, 5] rfl)
                    ·
                      obtain ⟨dv47, a47_1, q47_0, -⟩ := hc47
                      have d49 : dkN [(0, 40)] p3 := dkN_eq1 (dkN_top p3) a47_1 rfl rfl
                      refine lv_if_ne (tgt := 89) hx hb dX6_copy_80 (by decide) (fun c50 => ?_) (fun c50 => ?_)
                      ·
                        refine lv_iconst (v := 0) hx hb dX6_copy_89 (by decide) ?_
                        refine lv_istore (lv' := [(6, .int 0), (0, .ref (z + 340)), (1, .int p0), (2, .int p1), (3, .int p2), (4, .int p3), (5, .int p4)]) hx hb dX6_copy_90 hl (by decide) rfl (fun ls hl => ?_)
                        exact C92 _ I47 _ _ ls 0 (Nat.lt_succ_self _) hW hS hF hO (dkN_sub (dkN_lit (x := 0) (0) rfl) rfl) (dkN_sub d25 rfl) (dkN_sub d44 rfl) (dkN_sub d30 rfl) (dkN_sub d49 rfl) (dkN_sub d45 rfl) q42_0 q47_0 (lv_sub hl [1, 2, 3, 4, 5, 6, 0] rfl)
                      ·
                        exact (dkN_nil (show dkN [] v47 from dkN_eq1 dv47 (dkN_lit (x := 0) (0) rfl) (congrArg Int32.toInt c50) rfl)).elim
              ·
                refine lv_aload_n hx hb dX6_copy_54 rfl (lv_at hl 0 rfl) ?_
                refine lv_iconst (v := 5) hx hb dX6_copy_55 (by decide) ?_
                refine dk_Vi (As := [.int 5]) (rest := []) ⟨hx, hb, hml, hown, hts⟩ (c_X6_found_3 l g z I36 5 (dkN_lit (x := 5) (5) rfl) hO) (cwV 1 hts gX6_copy_X6_found rfl rfl rfl (by decide +kernel) ⟨Nat.le_of_ble_eq_true rfl, Nat.le_of_ble_eq_true rfl⟩) (dk_at340 hW) rfl hK hT hW hS rfl hl.1 rfl (Nat.le_of_ble_eq_true rfl) dX6_copy_56 ⟨Nat.zero_le _, Nat.zero_le _⟩ (fun v51 I51 H51 L51 hp51 hW hS => ?_)
                obtain ⟨hF51, hO, hc51⟩ := hp51
                have hF := dkF_call hF hF51 rfl
                obtain ⟨dv51, f51_340_4, -⟩ := hc51
                exact W.iret (v := v51) hx hb hr (fun t ht hW9 => ⟨⟨v51, I51, rfl, ⟨hF, hO, ⟨dkN_sub dv51 rfl, trivial⟩⟩, dkW_eq ht hW⟩, hS.F ht⟩) hS.2.2 dX6_copy_59
            ·
              have d52 : dkN [(1, 1)] v36 := dkN_ne1 (0) dv36 (dkN_lit (x := 0) (0) rfl) (dk_ne c37) rfl
              exact C33 I36 _ _ ls  hW hS hF hO (dkN_sub d25 rfl) (dkN_sub d30 rfl) (lv_sub hl [0, 1, 2, 3, 4, 5] rfl)
        ·
          exact (dkN_nil (show dkN [] v27 from dkN_eq1 dv27 (dkN_lit (x := 0) (0) rfl) (congrArg Int32.toInt c31) rfl)).elim
set_option maxHeartbeats 4000000 in
set_option maxRecDepth 100000 in
theorem c_X5_drop_0 (l : Launch) (g : dkG) (z : Nat) (I0 : dkI) (p0 : Int32)  (hO : dkOk I0) : Met l yX5_drop wsX5_drop (dkR 2) (dkPc g z [.ref (z + 0), .int p0] I0) (dkQi g z (fun r I1 => dkF [(0, 0, 3, 3), (11, 11, 0, 7)] I0 I1 ∧ dkOk I1 ∧ ((dkN [(-1000011, -1000011)] r ∧ dkN [(0, 7)] p0 ∧ dkN [(1, 1)] (I1 0 3) ∧ True) ∨ (dkN [(-1000001, -1000001)] r ∧ dkN [(-2147483648, -1), (8, 2147483647)] p0 ∧ True) ∨ (dkN [(-1, 40)] r ∧ dkN [(0, 7)] p0 ∧ dkN [(0, 0)] (I1 0 3) ∧ True)))) 0 0 (dkA z) := by
  refine Met.ofW (cc := cX5_drop) (maxL := 3) (ret := (some .int)) (by decide) rfl ?_
  intro p e s m args below meth c s₁ B hml hv
  obtain ⟨ha, hW, hK, hT⟩ := hv
  have hx := B.exec
  have hb := B.bytes
  have hr := B.returns
  have hts := atoms_spec (ws := wsX5_drop) B.pre
  have hown : s.vm.findClass RX5 = some m.cls := findClass_of_methodNamed B.named
  have hlocks := B.notSynchronized
  have hS : va_S (dkA z) s.heap s.heap [] := va_S.rf
  have hF : dkF [(0, 0, 3, 3), (11, 11, 0, 7)] I0 I0 := dkF_rf _ _
  have hl := lv_entry ([.ref (z + 0), .int p0]) (n := 3) (Nat.le_of_ble_eq_true rfl)
  have hgo : entryFrame m args 3 = entryFrame m ([.ref (z + 0), .int p0] : List Value).toArray 3 := by rw [ha]
  rw [hgo, lg_entry_eq]
  generalize (lg_sl ([.ref (z + 0), .int p0]) ++ List.replicate (3 - (lg_sl ([.ref (z + 0), .int p0])).length) Slot.unset).toArray = ls at hl ⊢
  have hl : lv_has ls 3 [(0, .ref (z + 0)), (1, .int p0)] := hl
  refine lv_iload_n hx hb dX5_drop_0 rfl (lv_at hl 1 rfl) ?_
  refine dk_Si (As := [.int p0]) (rest := []) ⟨hx, hb, hml, hown, hts⟩ (c_X5_isRow_0 l g z I0 p0 hO) (va_cwS 1 hts gX5_drop_X5_isRow rfl rfl rfl (by decide +kernel) ⟨Nat.le_of_ble_eq_true rfl, Nat.le_of_ble_eq_true rfl⟩) hK hT hW hS rfl hl.1 rfl (Nat.le_of_ble_eq_true rfl) dX5_drop_1 ⟨Nat.zero_le _, Nat.zero_le _⟩ (fun v1 I1 H1 L1 hp1 hW hS => ?_)
  obtain ⟨hF1, hO, hc1⟩ := hp1
  have hF := dkF_call hF hF1 rfl
  rcases hc1 with ⟨dv1, a1_0, -⟩ | hc1
  ·
    have d2 : dkN [(-2147483648, -1), (8, 2147483647)] p0 := dkN_eq1 (dkN_top p0) a1_0 rfl rfl
    refine lv_if_ne (tgt := 10) hx hb dX5_drop_4 (by decide) (fun c3 => ?_) (fun c3 => ?_)
    ·
      exact (dkN_nil (show dkN [] v1 from dkN_ne1 (0) dv1 (dkN_lit (x := 0) (0) rfl) (dk_ne c3) rfl)).elim
    ·
      refine lv_ldc (v := (-1000001)) hx hb hown (hts (.constant RX5 70 (-1000001)) (List.mem_of_getElem? (i := 1) rfl)) dX5_drop_7 ?_
      exact W.iret (v := (-1000001)) hx hb hr (fun t ht hW9 => ⟨⟨(-1000001), I1, rfl, ⟨hF, hO, Or.inr (Or.inl ⟨dkN_sub (dkN_lit (x := (-1000001)) (-1000001) rfl) rfl, dkN_sub d2 rfl, trivial⟩)⟩, dkW_eq ht hW⟩, hS.F ht⟩) hS.2.2 dX5_drop_9
  ·
    obtain ⟨dv1, a1_0, -⟩ := hc1
    have d4 : dkN [(0, 7)] p0 := dkN_eq1 (dkN_top p0) a1_0 rfl rfl
    refine lv_if_ne (tgt := 10) hx hb dX5_drop_4 (by decide) (fun c5 => ?_) (fun c5 => ?_)
    ·
      refine lv_aload_n hx hb dX5_drop_10 rfl (lv_at hl 0 rfl) ?_
      refine lv_iload_n hx hb dX5_drop_11 rfl (lv_at hl 1 rfl) ?_
      refine dk_Vi (As := [.int p0]) (rest := []) ⟨hx, hb, hml, hown, hts⟩ (c_X5_isMissing_0 l g z I1 p0 d4 hO) (cwV 1 hts gX5_drop_X5_isMissing rfl rfl rfl (by decide +kernel) ⟨Nat.le_of_ble_eq_true rfl, Nat.le_of_ble_eq_true rfl⟩) (dk_at0 hW) rfl hK hT hW hS rfl hl.1 rfl (Nat.le_of_ble_eq_true rfl) dX5_drop_12 ⟨Nat.zero_le _, Nat.zero_le _⟩ (fun v6 I6 H6 L6 hp6 hW hS => ?_)
      obtain ⟨hF6, hO, hc6⟩ := hp6
      have hF := dkF_call hF hF6 rfl
      obtain ⟨dv6, -⟩ := hc6
      refine lv_if_eq (tgt := 24) hx hb dX5_drop_15 (by decide) (fun c7 => ?_) (fun c7 => ?_)
      ·
        have d8 : dkN [(0, 0)] v6 := dkN_eq1 dv6 (dkN_lit (x := 0) (0) rfl) (congrArg Int32.toInt c7) rfl
        refine lv_aload_n hx hb dX5_drop_24 rfl (lv_at hl 0 rfl) ?_
        refine dk_get (k := 0) hx hb hts iX5_drop_5 hown hK (dk_at0 hW) rfl 2 (by decide) (hts (.fieldLink RX5 18 "DogKings" "sizes" "[I") (List.mem_of_getElem? (i := 2) rfl)) rfl dX5_drop_25 ?_
        refine lv_iload_n hx hb dX5_drop_28 rfl (lv_at hl 1 rfl) ?_
        refine dk_ild (k := 11) hx hb hK (dk_at11 hW) (dkN_in (n := 8) d4 rfl) dX5_drop_29 ?_
        refine lv_topi (fun v9 ev9 => ?_)
        have dv9 : dkN [(-1, 40)] v9 := by rw [ev9]; exact (hO 11 _)
        refine lv_istore_n (lv' := [(2, .int v9), (0, .ref (z + 0)), (1, .int p0)]) hx hb dX5_drop_30 rfl hl (by decide) rfl (fun ls hl => ?_)
        refine lv_aload_n hx hb dX5_drop_31 rfl (lv_at hl 1 rfl) ?_
        refine dk_get (k := 0) hx hb hts iX5_drop_5 hown hK (dk_at0 hW) rfl 2 (by decide) (hts (.fieldLink RX5 18 "DogKings" "sizes" "[I") (List.mem_of_getElem? (i := 2) rfl)) rfl dX5_drop_32 ?_
        refine lv_iload_n hx hb dX5_drop_35 rfl (lv_at hl 2 rfl) ?_
        refine lv_iconst (v := (-1)) hx hb dX5_drop_36 (by decide) ?_
        refine dk_ist (k := 11) hx hb hK hW (fun _ => rfl) (by decide) hS (dkN_in (n := 8) d4 rfl) dX5_drop_37 (fun I10 H10 L10 eI10 hW hS => ?_)
        have hO := dkO_set hO eI10 (dkN_sub (dkN_lit (x := (-1)) (-1) rfl) rfl)
        have hF := dkF_set hF eI10 (dkIn_v d4 rfl)
        refine lv_aload_n hx hb dX5_drop_38 rfl (lv_at hl 1 rfl) ?_
        refine lv_iload_n hx hb dX5_drop_39 rfl (lv_at hl 0 rfl) ?_
        refine dk_Vi (As := [.int v9]) (rest := []) ⟨hx, hb, hml, hown, hts⟩ (c_X5_nothingFound_0 l g z I10 v9 hO) (cwV 1 hts gX5_drop_X5_nothingFound rfl rfl rfl (by decide +kernel) ⟨Nat.le_of_ble_eq_true rfl, Nat.le_of_ble_eq_true rfl⟩) (dk_at0 hW) rfl hK hT hW hS rfl hl.1 rfl (Nat.le_of_ble_eq_true rfl) dX5_drop_40 ⟨Nat.zero_le _, Nat.zero_le _⟩ (fun v11 I11 H11 L11 hp11 hW hS => ?_)
        obtain ⟨hF11, hO, ev11, hc11⟩ := hp11
        have hF := dkF_call hF hF11 rfl
        obtain ⟨_, f11_0_3, -⟩ := hc11
        rw [ev11]
        exact W.iret (v := v9) hx hb hr (fun t ht hW9 => ⟨⟨v9, I11, rfl, ⟨hF, hO, Or.inr (Or.inr (⟨dkN_sub dv9 rfl, dkN_sub d4 rfl, (show dkN [(0, 0)] (I11 0 3) from dkN_sub f11_0_3 rfl), trivial⟩))⟩, dkW_eq ht hW⟩, hS.F ht⟩) hS.2.2 dX5_drop_43
      ·
        have d12 : dkN [(1, 1)] v6 := dkN_ne1 (0) dv6 (dkN_lit (x := 0) (0) rfl) (dk_ne c7) rfl
        refine lv_aload_n hx hb dX5_drop_18 rfl (lv_at hl 0 rfl) ?_
        refine lv_iconst (v := 1) hx hb dX5_drop_19 (by decide) ?_
        refine dk_Vi (As := [.int 1]) (rest := []) ⟨hx, hb, hml, hown, hts⟩ (c_X5_found_1 l g z I6 1 (dkN_lit (x := 1) (1) rfl) hO) (cwV 1 hts gX5_drop_X5_found rfl rfl rfl (by decide +kernel) ⟨Nat.le_of_ble_eq_true rfl, Nat.le_of_ble_eq_true rfl⟩) (dk_at0 hW) rfl hK hT hW hS rfl hl.1 rfl (Nat.le_of_ble_eq_true rfl) dX5_drop_20 ⟨Nat.zero_le _, Nat.zero_le _⟩ (fun v13 I13 H13 L13 hp13 hW hS => ?_)
        obtain ⟨hF13, hO, hc13⟩ := hp13
        have hF := dkF_call hF hF13 rfl
        obtain ⟨dv13, f13_0_3, -⟩ := hc13
        exact W.iret (v := v13) hx hb hr (fun t ht hW9 => ⟨⟨v13, I13, rfl, ⟨hF, hO, Or.inl ⟨dkN_sub dv13 rfl, dkN_sub d4 rfl, (show dkN [(1, 1)] (I13 0 3) from dkN_sub f13_0_3 rfl), trivial⟩⟩, dkW_eq ht hW⟩, hS.F ht⟩) hS.2.2 dX5_drop_23
    ·
      exact (dkN_nil (show dkN [] v1 from dkN_eq1 dv1 (dkN_lit (x := 0) (0) rfl) (congrArg Int32.toInt c5) rfl)).elim
set_option maxHeartbeats 4000000 in
set_option maxRecDepth 100000 in
theorem c_X6_drop_0 (l : Launch) (g : dkG) (z : Nat) (I0 : dkI) (p0 : Int32)  (hO : dkOk I0) : Met l yX6_drop wsX6_drop (dkR 2) (dkPc g z [.ref (z + 340), .int p0] I0) (dkQi g z (fun r I1 => dkF [(340, 340, 4, 4), (341, 341, 0, 7)] I0 I1 ∧ dkOk I1 ∧ ((dkN [(-1000011, -1000011)] r ∧ dkN [(0, 7)] p0 ∧ dkN [(1, 1)] (I1 340 4) ∧ True) ∨ (dkN [(-1000001, -1000001)] r ∧ dkN [(-2147483648, -1), (8, 2147483647)] p0 ∧ True) ∨ (dkN [(0, 40)] r ∧ dkN [(0, 7)] p0 ∧ dkN [(0, 0)] (I1 340 4) ∧ True)))) 0 0 (dkA z) := by
  refine Met.ofW (cc := cX6_drop) (maxL := 2) (ret := (some .int)) (by decide) rfl ?_
  intro p e s m args below meth c s₁ B hml hv
  obtain ⟨ha, hW, hK, hT⟩ := hv
  have hx := B.exec
  have hb := B.bytes
  have hr := B.returns
  have hts := atoms_spec (ws := wsX6_drop) B.pre
  have hown : s.vm.findClass RX6 = some m.cls := findClass_of_methodNamed B.named
  have hlocks := B.notSynchronized
  have hS : va_S (dkA z) s.heap s.heap [] := va_S.rf
  have hF : dkF [(340, 340, 4, 4), (341, 341, 0, 7)] I0 I0 := dkF_rf _ _
  have hl := lv_entry ([.ref (z + 340), .int p0]) (n := 2) (Nat.le_of_ble_eq_true rfl)
  have hgo : entryFrame m args 2 = entryFrame m ([.ref (z + 340), .int p0] : List Value).toArray 2 := by rw [ha]
  rw [hgo, lg_entry_eq]
  generalize (lg_sl ([.ref (z + 340), .int p0]) ++ List.replicate (2 - (lg_sl ([.ref (z + 340), .int p0])).length) Slot.unset).toArray = ls at hl ⊢
  have hl : lv_has ls 2 [(0, .ref (z + 340)), (1, .int p0)] := hl
  refine lv_iload_n hx hb dX6_drop_0 rfl (lv_at hl 1 rfl) ?_
  refine dk_Si (As := [.int p0]) (rest := []) ⟨hx, hb, hml, hown, hts⟩ (c_X6_isRow_0 l g z I0 p0 hO) (va_cwS 1 hts gX6_drop_X6_isRow rfl rfl rfl (by decide +kernel) ⟨Nat.le_of_ble_eq_true rfl, Nat.le_of_ble_eq_true rfl⟩) hK hT hW hS rfl hl.1 rfl (Nat.le_of_ble_eq_true rfl) dX6_drop_1 ⟨Nat.zero_le _, Nat.zero_le _⟩ (fun v1 I1 H1 L1 hp1 hW hS => ?_)
  obtain ⟨hF1, hO, hc1⟩ := hp1
  have hF := dkF_call hF hF1 rfl
  rcases hc1 with ⟨dv1, a1_0, -⟩ | hc1
  ·
    have d2 : dkN [(-2147483648, -1), (8, 2147483647)] p0 := dkN_eq1 (dkN_top p0) a1_0 rfl rfl
    refine lv_if_ne (tgt := 10) hx hb dX6_drop_4 (by decide) (fun c3 => ?_) (fun c3 => ?_)
    ·
      exact (dkN_nil (show dkN [] v1 from dkN_ne1 (0) dv1 (dkN_lit (x := 0) (0) rfl) (dk_ne c3) rfl)).elim
    ·
      refine lv_ldc (v := (-1000001)) hx hb hown (hts (.constant RX6 64 (-1000001)) (List.mem_of_getElem? (i := 1) rfl)) dX6_drop_7 ?_
      exact W.iret (v := (-1000001)) hx hb hr (fun t ht hW9 => ⟨⟨(-1000001), I1, rfl, ⟨hF, hO, Or.inr (Or.inl ⟨dkN_sub (dkN_lit (x := (-1000001)) (-1000001) rfl) rfl, dkN_sub d2 rfl, trivial⟩)⟩, dkW_eq ht hW⟩, hS.F ht⟩) hS.2.2 dX6_drop_9
  ·
    obtain ⟨dv1, a1_0, -⟩ := hc1
    have d4 : dkN [(0, 7)] p0 := dkN_eq1 (dkN_top p0) a1_0 rfl rfl
    refine lv_if_ne (tgt := 10) hx hb dX6_drop_4 (by decide) (fun c5 => ?_) (fun c5 => ?_)
    ·
      refine lv_aload_n hx hb dX6_drop_10 rfl (lv_at hl 0 rfl) ?_
      refine lv_iload_n hx hb dX6_drop_11 rfl (lv_at hl 1 rfl) ?_
      refine dk_Vi (As := [.int p0]) (rest := []) ⟨hx, hb, hml, hown, hts⟩ (c_X6_isMissing_0 l g z I1 p0 d4 hO) (cwV 1 hts gX6_drop_X6_isMissing rfl rfl rfl (by decide +kernel) ⟨Nat.le_of_ble_eq_true rfl, Nat.le_of_ble_eq_true rfl⟩) (dk_at340 hW) rfl hK hT hW hS rfl hl.1 rfl (Nat.le_of_ble_eq_true rfl) dX6_drop_12 ⟨Nat.zero_le _, Nat.zero_le _⟩ (fun v6 I6 H6 L6 hp6 hW hS => ?_)
      obtain ⟨hF6, hO, hc6⟩ := hp6
      have hF := dkF_call hF hF6 rfl
      obtain ⟨dv6, -⟩ := hc6
      refine lv_if_eq (tgt := 24) hx hb dX6_drop_15 (by decide) (fun c7 => ?_) (fun c7 => ?_)
      ·
        have d8 : dkN [(0, 0)] v6 := dkN_eq1 dv6 (dkN_lit (x := 0) (0) rfl) (congrArg Int32.toInt c7) rfl
        refine lv_aload_n hx hb dX6_drop_24 rfl (lv_at hl 0 rfl) ?_
        refine dk_get (k := 340) hx hb hts iX6_drop_6 hown hK (dk_at340 hW) rfl 0 (by decide) (hts (.fieldLink RX6 7 "DogKingsModel" "lane" "[I") (List.mem_of_getElem? (i := 2) rfl)) rfl dX6_drop_25 ?_
        refine lv_iload_n hx hb dX6_drop_28 rfl (lv_at hl 1 rfl) ?_
        refine lv_ldc (v := (-1000000)) hx hb hown (hts (.constant RX6 50 (-1000000)) (List.mem_of_getElem? (i := 3) rfl)) dX6_drop_29 ?_
        refine dk_ist (k := 341) hx hb hK hW (fun _ => rfl) (by decide) hS (dkN_in (n := 8) d4 rfl) dX6_drop_31 (fun I9 H9 L9 eI9 hW hS => ?_)
        have hO := dkO_set hO eI9 (dkN_sub (dkN_lit (x := (-1000000)) (-1000000) rfl) rfl)
        have hF := dkF_set hF eI9 (dkIn_v d4 rfl)
        refine lv_aload_n hx hb dX6_drop_32 rfl (lv_at hl 0 rfl) ?_
        refine lv_aload_n hx hb dX6_drop_33 rfl (lv_at hl 0 rfl) ?_
        refine dk_get (k := 340) hx hb hts iX6_drop_6 hown hK (dk_at340 hW) rfl 1 (by decide) (hts (.fieldLink RX6 13 "DogKingsModel" "many" "[I") (List.mem_of_getElem? (i := 4) rfl)) rfl dX6_drop_34 ?_
        refine lv_iload_n hx hb dX6_drop_37 rfl (lv_at hl 1 rfl) ?_
        refine dk_ild (k := 342) hx hb hK (dk_at342 hW) (dkN_in (n := 8) d4 rfl) dX6_drop_38 ?_
        refine lv_topi (fun v10 ev10 => ?_)
        have dv10 : dkN [(0, 40)] v10 := by rw [ev10]; exact (hO 342 _)
        refine dk_Vi (As := [.int v10]) (rest := []) ⟨hx, hb, hml, hown, hts⟩ (c_X6_well_0 l g z I9 v10 hO) (cwV 1 hts gX6_drop_X6_well rfl rfl rfl (by decide +kernel) ⟨Nat.le_of_ble_eq_true rfl, Nat.le_of_ble_eq_true rfl⟩) (dk_at340 hW) rfl hK hT hW hS rfl hl.1 rfl (Nat.le_of_ble_eq_true rfl) dX6_drop_39 ⟨Nat.zero_le _, Nat.zero_le _⟩ (fun v11 I11 H11 L11 hp11 hW hS => ?_)
        obtain ⟨hF11, hO, ev11, hc11⟩ := hp11
        have hF := dkF_call hF hF11 rfl
        obtain ⟨_, f11_340_4, -⟩ := hc11
        rw [ev11]
        exact W.iret (v := v10) hx hb hr (fun t ht hW9 => ⟨⟨v10, I11, rfl, ⟨hF, hO, Or.inr (Or.inr (⟨dkN_sub dv10 rfl, dkN_sub d4 rfl, (show dkN [(0, 0)] (I11 340 4) from dkN_sub f11_340_4 rfl), trivial⟩))⟩, dkW_eq ht hW⟩, hS.F ht⟩) hS.2.2 dX6_drop_42
      ·
        have d12 : dkN [(1, 1)] v6 := dkN_ne1 (0) dv6 (dkN_lit (x := 0) (0) rfl) (dk_ne c7) rfl
        refine lv_aload_n hx hb dX6_drop_18 rfl (lv_at hl 0 rfl) ?_
        refine lv_iconst (v := 1) hx hb dX6_drop_19 (by decide) ?_
        refine dk_Vi (As := [.int 1]) (rest := []) ⟨hx, hb, hml, hown, hts⟩ (c_X6_found_2 l g z I6 1 (dkN_lit (x := 1) (1) rfl) hO) (cwV 1 hts gX6_drop_X6_found rfl rfl rfl (by decide +kernel) ⟨Nat.le_of_ble_eq_true rfl, Nat.le_of_ble_eq_true rfl⟩) (dk_at340 hW) rfl hK hT hW hS rfl hl.1 rfl (Nat.le_of_ble_eq_true rfl) dX6_drop_20 ⟨Nat.zero_le _, Nat.zero_le _⟩ (fun v13 I13 H13 L13 hp13 hW hS => ?_)
        obtain ⟨hF13, hO, hc13⟩ := hp13
        have hF := dkF_call hF hF13 rfl
        obtain ⟨dv13, f13_340_4, -⟩ := hc13
        exact W.iret (v := v13) hx hb hr (fun t ht hW9 => ⟨⟨v13, I13, rfl, ⟨hF, hO, Or.inl ⟨dkN_sub dv13 rfl, dkN_sub d4 rfl, (show dkN [(1, 1)] (I13 340 4) from dkN_sub f13_340_4 rfl), trivial⟩⟩, dkW_eq ht hW⟩, hS.F ht⟩) hS.2.2 dX6_drop_23
    ·
      exact (dkN_nil (show dkN [] v1 from dkN_eq1 dv1 (dkN_lit (x := 0) (0) rfl) (congrArg Int32.toInt c5) rfl)).elim
set_option maxHeartbeats 4000000 in
set_option maxRecDepth 100000 in
theorem c_X5_setOfAll_0 (l : Launch) (g : dkG) (z : Nat) (I0 : dkI) (p0 : Int32) (dp0 : dkN [(1, 6)] p0)  (hO : dkOk I0) : Met l yX5_setOfAll wsX5_setOfAll (dkR 0) (dkPc g z [.int p0] I0) (dkQi g z (fun r I1 => dkF [] I0 I1 ∧ dkOk I1 ∧ ((dkN [(1, 63)] r ∧ True)))) 0 0 (dkA z) := by
  refine Met.ofW (cc := cX5_setOfAll) (maxL := 1) (ret := (some .int)) (by decide) rfl ?_
  intro p e s m args below meth c s₁ B hml hv
  obtain ⟨ha, hW, hK, hT⟩ := hv
  have hx := B.exec
  have hb := B.bytes
  have hr := B.returns
  have hts := atoms_spec (ws := wsX5_setOfAll) B.pre
  have hown : s.vm.findClass RX5 = some m.cls := findClass_of_methodNamed B.named
  have hlocks := B.notSynchronized
  have hS : va_S (dkA z) s.heap s.heap [] := va_S.rf
  have hF : dkF [] I0 I0 := dkF_rf _ _
  have hl := lv_entry ([.int p0]) (n := 1) (Nat.le_of_ble_eq_true rfl)
  have hgo : entryFrame m args 1 = entryFrame m ([.int p0] : List Value).toArray 1 := by rw [ha]
  rw [hgo, lg_entry_eq]
  generalize (lg_sl ([.int p0]) ++ List.replicate (1 - (lg_sl ([.int p0])).length) Slot.unset).toArray = ls at hl ⊢
  have hl : lv_has ls 1 [(0, .int p0)] := hl
  refine lv_iconst (v := 1) hx hb dX5_setOfAll_0 (by decide) ?_
  refine lv_iload_n hx hb dX5_setOfAll_1 rfl (lv_at hl 0 rfl) ?_
  refine lv_ishl hx hb dX5_setOfAll_2 ?_
  refine lv_topi (fun v1 ev1 => ?_)
  have dv1 : dkN [(2, 64)] v1 := by rw [ev1]; exact dkN_shl1 1 6 (by decide) dp0 rfl
  refine lv_iconst (v := 1) hx hb dX5_setOfAll_3 (by decide) ?_
  refine lv_isub hx hb dX5_setOfAll_4 ?_
  refine lv_topi (fun v2 ev2 => ?_)
  have dv2 : dkN [(1, 63)] v2 := by rw [ev2]; exact dkN_subt dv1 (dkN_lit (x := 1) (1) rfl) rfl
  exact W.iret (v := v2) hx hb hr (fun t ht hW9 => ⟨⟨v2, I0, rfl, ⟨hF, hO, ⟨dkN_sub dv2 rfl, trivial⟩⟩, dkW_eq ht hW⟩, hS.F ht⟩) hS.2.2 dX5_setOfAll_5
set_option maxHeartbeats 4000000 in
set_option maxRecDepth 100000 in
theorem c_X4_become_0 (l : Launch) (g : dkG) (z : Nat) (I0 : dkI) (t0 : Nat) (ht0 : dkT t0) (t1 : Nat) (ht1 : dkT t1)  (hO : dkOk I0) : Met l yX4_become wsX4_become (dkR 0) (dkPc g z [.ref (z + t0), .ref (z + t1)] I0) (dkQv g z (fun I1 => dkF [(t0, t0, 0, 4), (t0, t0, 11, 11), (t0, t0, 15, 17), (t0 + 1, t0 + 1, 0, 4), (t0 + 2, t0 + 2, 0, 4), (t0 + 3, t0 + 3, 0, 4), (t0 + 4, t0 + 4, 0, 4), (t0 + 5, t0 + 5, 0, 4), (t0 + 6, t0 + 6, 0, 4), (t0 + 7, t0 + 7, 0, 5), (t0 + 8, t0 + 8, 0, 5), (t0 + 9, t0 + 9, 0, 5)] I0 I1 ∧ dkOk I1 ∧ ((True)))) 0 0 (dkA z) := by
  refine Met.ofW (cc := cX4_become) (maxL := 3) (ret := none) (by decide) rfl ?_
  intro p e s m args below meth c s₁ B hml hv
  obtain ⟨ha, hW, hK, hT⟩ := hv
  have hx := B.exec
  have hb := B.bytes
  have hr := B.returns
  have hts := atoms_spec (ws := wsX4_become) B.pre
  have hown : s.vm.findClass RX4 = some m.cls := findClass_of_methodNamed B.named
  have hlocks := B.notSynchronized
  have hS : va_S (dkA z) s.heap s.heap [] := va_S.rf
  have hF : dkF [(t0, t0, 0, 4), (t0, t0, 11, 11), (t0, t0, 15, 17), (t0 + 1, t0 + 1, 0, 4), (t0 + 2, t0 + 2, 0, 4), (t0 + 3, t0 + 3, 0, 4), (t0 + 4, t0 + 4, 0, 4), (t0 + 5, t0 + 5, 0, 4), (t0 + 6, t0 + 6, 0, 4), (t0 + 7, t0 + 7, 0, 5), (t0 + 8, t0 + 8, 0, 5), (t0 + 9, t0 + 9, 0, 5)] I0 I0 := dkF_rf _ _
  have hl := lv_entry ([.ref (z + t0), .ref (z + t1)]) (n := 3) (Nat.le_of_ble_eq_true rfl)
  have hgo : entryFrame m args 3 = entryFrame m ([.ref (z + t0), .ref (z + t1)] : List Value).toArray 3 := by rw [ha]
  rw [hgo, lg_entry_eq]
  generalize (lg_sl ([.ref (z + t0), .ref (z + t1)]) ++ List.replicate (3 - (lg_sl ([.ref (z + t0), .ref (z + t1)])).length) Slot.unset).toArray = ls at hl ⊢
  have hl : lv_has ls 3 [(0, .ref (z + t0)), (1, .ref (z + t1))] := hl
  have C138 : ∀ (n : Nat), ∀ (I : dkI) (H : Heap) (locs : List Loc) (ls : Array Slot) (x138_2 : Int32), (6 - x138_2.toInt).toNat < n → dkW g z I H → va_S (dkA z) s.heap H locs → dkF [(t0, t0, 0, 4), (t0, t0, 11, 11), (t0, t0, 15, 17), (t0 + 1, t0 + 1, 0, 4), (t0 + 2, t0 + 2, 0, 4), (t0 + 3, t0 + 3, 0, 4), (t0 + 4, t0 + 4, 0, 4), (t0 + 5, t0 + 5, 0, 4), (t0 + 6, t0 + 6, 0, 4), (t0 + 7, t0 + 7, 0, 5), (t0 + 8, t0 + 8, 0, 5), (t0 + 9, t0 + 9, 0, 5)] I0 I → dkOk I → dkN [(0, 6)] x138_2 → lv_has ls 3 [(0, .ref (z + t0)), (1, .ref (z + t1)), (2, .int x138_2)] → W p l e (headSpec wsX4_become (dkR 0)).room s m args below meth c H locs 0 0 (MQ below (dkQv g z (fun I1 => dkF [(t0, t0, 0, 4), (t0, t0, 11, 11), (t0, t0, 15, 17), (t0 + 1, t0 + 1, 0, 4), (t0 + 2, t0 + 2, 0, 4), (t0 + 3, t0 + 3, 0, 4), (t0 + 4, t0 + 4, 0, 4), (t0 + 5, t0 + 5, 0, 4), (t0 + 6, t0 + 6, 0, 4), (t0 + 7, t0 + 7, 0, 5), (t0 + 8, t0 + 8, 0, 5), (t0 + 9, t0 + 9, 0, 5)] I0 I1 ∧ dkOk I1 ∧ ((True)))) args s 0 0 (dkA z)) (F0 m 138 ls []) := by
    intro n
    induction n with
    | zero => intro I H locs ls x138_2 hn; exact absurd hn (Nat.not_lt_zero _)
    | succ n ih138 =>
      intro I138_ H locs ls x138_2 hn138 hW hS hF_138 hO k138_0 hl
      have hF := hF_138
      refine lv_iload_n hx hb dX4_become_138 rfl (lv_at hl 2 rfl) ?_
      refine lv_aload_n hx hb dX4_become_139 rfl (lv_at hl 0 rfl) ?_
      refine dk_get (k := t0) hx hb hts iX4_become_4 hown hK (dk_aT0 ht0 hW) rfl 11 (by decide) (hts (.fieldLink RX4 58 "DogKings$Town" "dogs" "I") (List.mem_of_getElem? (i := 12) rfl)) rfl dX4_become_140 ?_
      refine lv_topi (fun v1 ev1 => ?_)
      have dv1 : dkN [(0, 6)] v1 := by rw [ev1]; exact (dkO_at hO ht0 (c := 0) (by decide) 11)
      refine lv_icmp_ge (tgt := 188) hx hb dX4_become_143 (by decide) (fun c2 => ?_) (fun c2 => ?_)
      ·
        refine lv_aload_n hx hb dX4_become_188 rfl (lv_at hl 0 rfl) ?_
        refine lv_aload_n hx hb dX4_become_189 rfl (lv_at hl 1 rfl) ?_
        refine dk_get (k := t1) hx hb hts iX4_become_4 hown hK (dk_aT0 ht1 hW) rfl 15 (by decide) (hts (.fieldLink RX4 61 "DogKings$Town" "dogsThere" "I") (List.mem_of_getElem? (i := 16) rfl)) rfl dX4_become_190 ?_
        refine lv_topi (fun v3 ev3 => ?_)
        refine dk_put (k := t0) hx hb hts iX4_become_4 tyX4 tyX4_ok nmX4 hown hK hW (dk_aT0 ht0 hW) hS rfl 15 (by decide) (hts (.fieldLink RX4 61 "DogKings$Town" "dogsThere" "I") (List.mem_of_getElem? (i := 16) rfl)) rfl rfl (Nat.le_of_ble_eq_true rfl) (dk_eT15 ht0) dX4_become_193 (fun I4 H4 L4 eI4 hW hS => ?_)
        have eI4 : I4 = dkU I138_ t0 15 v3 := eI4
        have hO := dkO_setT hO ht0 (c := 0) (by decide) eI4 (dkN_sub (dkN_top v3) rfl)
        have hF := dkF_set hF eI4 (dkIn_at (i := 2) rfl (Nat.le_refl _) (Nat.le_refl _) (by decide) (by decide))
        refine lv_aload_n hx hb dX4_become_196 rfl (lv_at hl 0 rfl) ?_
        refine lv_aload_n hx hb dX4_become_197 rfl (lv_at hl 1 rfl) ?_
        refine dk_get (k := t1) hx hb hts iX4_become_4 hown hK (dk_aT0 ht1 hW) rfl 16 (by decide) (hts (.fieldLink RX4 64 "DogKings$Town" "dogsAsleep" "I") (List.mem_of_getElem? (i := 17) rfl)) rfl dX4_become_198 ?_
        refine lv_topi (fun v5 ev5 => ?_)
        refine dk_put (k := t0) hx hb hts iX4_become_4 tyX4 tyX4_ok nmX4 hown hK hW (dk_aT0 ht0 hW) hS rfl 16 (by decide) (hts (.fieldLink RX4 64 "DogKings$Town" "dogsAsleep" "I") (List.mem_of_getElem? (i := 17) rfl)) rfl rfl (Nat.le_of_ble_eq_true rfl) (dk_eT16 ht0) dX4_become_201 (fun I6 H6 L6 eI6 hW hS => ?_)
        have eI6 : I6 = dkU I4 t0 16 v5 := eI6
        have hO := dkO_setT hO ht0 (c := 0) (by decide) eI6 (dkN_sub (dkN_top v5) rfl)
        have hF := dkF_set hF eI6 (dkIn_at (i := 2) rfl (Nat.le_refl _) (Nat.le_refl _) (by decide) (by decide))
        refine lv_aload_n hx hb dX4_become_204 rfl (lv_at hl 0 rfl) ?_
        refine lv_aload_n hx hb dX4_become_205 rfl (lv_at hl 1 rfl) ?_
        refine dk_get (k := t1) hx hb hts iX4_become_4 hown hK (dk_aT0 ht1 hW) rfl 17 (by decide) (hts (.fieldLink RX4 67 "DogKings$Town" "cats" "I") (List.mem_of_getElem? (i := 18) rfl)) rfl dX4_become_206 ?_
        refine lv_topi (fun v7 ev7 => ?_)
        refine dk_put (k := t0) hx hb hts iX4_become_4 tyX4 tyX4_ok nmX4 hown hK hW (dk_aT0 ht0 hW) hS rfl 17 (by decide) (hts (.fieldLink RX4 67 "DogKings$Town" "cats" "I") (List.mem_of_getElem? (i := 18) rfl)) rfl rfl (Nat.le_of_ble_eq_true rfl) (dk_eT17 ht0) dX4_become_209 (fun I8 H8 L8 eI8 hW hS => ?_)
        have eI8 : I8 = dkU I6 t0 17 v7 := eI8
        have hO := dkO_setT hO ht0 (c := 0) (by decide) eI8 (dkN_sub (dkN_top v7) rfl)
        have hF := dkF_set hF eI8 (dkIn_at (i := 2) rfl (Nat.le_refl _) (Nat.le_refl _) (by decide) (by decide))
        exact W.vret hx hb hr (fun t ht hW9 => ⟨⟨I8, rfl, ⟨hF, hO, trivial⟩, dkW_eq ht hW⟩, hS.F ht⟩) hS.2.2 dX4_become_212
      ·
        have d9 : dkN [(1, 6)] v1 := dkN_le2 1 k138_0 dv1 (dkc_nle c2) rfl
        have f10 : dkN [(1, 6)] (I138_ t0 11) := by rw [← ev1]; exact d9
        have d11 : dkN [(0, 5)] x138_2 := dkN_le1 1 k138_0 dv1 (dkc_nle c2) rfl
        refine lv_aload_n hx hb dX4_become_146 rfl (lv_at hl 0 rfl) ?_
        refine dk_get (k := t0) hx hb hts iX4_become_4 hown hK (dk_aT0 ht0 hW) rfl 12 (by decide) (hts (.fieldLink RX4 30 "DogKings$Town" "sort" "[I") (List.mem_of_getElem? (i := 13) rfl)) rfl dX4_become_147 ?_
        refine lv_iload_n hx hb dX4_become_150 rfl (lv_at hl 2 rfl) ?_
        refine lv_aload_n hx hb dX4_become_151 rfl (lv_at hl 1 rfl) ?_
        refine dk_get (k := t1) hx hb hts iX4_become_4 hown hK (dk_aT0 ht1 hW) rfl 12 (by decide) (hts (.fieldLink RX4 30 "DogKings$Town" "sort" "[I") (List.mem_of_getElem? (i := 13) rfl)) rfl dX4_become_152 ?_
        refine lv_iload_n hx hb dX4_become_155 rfl (lv_at hl 2 rfl) ?_
        refine dk_ild (k := (t1 + 7)) hx hb hK (dk_aT7 ht1 hW) (dkN_in (n := 6) d11 rfl) dX4_become_156 ?_
        refine lv_topi (fun v12 ev12 => ?_)
        refine dk_ist (k := (t0 + 7)) hx hb hK hW (fun _ => dkC_T g z ht0 (c := 7) (by decide) _) (by have := dkT_lt ht0; omega) hS (dkN_in (n := 6) d11 rfl) dX4_become_157 (fun I13 H13 L13 eI13 hW hS => ?_)
        have hO := dkO_setT hO ht0 (c := 7) (by decide) eI13 (dkN_sub (dkN_top v12) rfl)
        have hF := dkF_set hF eI13 (dkIn_atv (i := 9) rfl (Nat.le_refl _) (Nat.le_refl _) d11 rfl)
        refine lv_aload_n hx hb dX4_become_158 rfl (lv_at hl 0 rfl) ?_
        refine dk_get (k := t0) hx hb hts iX4_become_4 hown hK (dk_aT0 ht0 hW) rfl 13 (by decide) (hts (.fieldLink RX4 33 "DogKings$Town" "dogHome" "[I") (List.mem_of_getElem? (i := 14) rfl)) rfl dX4_become_159 ?_
        refine lv_iload_n hx hb dX4_become_162 rfl (lv_at hl 2 rfl) ?_
        refine lv_aload_n hx hb dX4_become_163 rfl (lv_at hl 1 rfl) ?_
        refine dk_get (k := t1) hx hb hts iX4_become_4 hown hK (dk_aT0 ht1 hW) rfl 13 (by decide) (hts (.fieldLink RX4 33 "DogKings$Town" "dogHome" "[I") (List.mem_of_getElem? (i := 14) rfl)) rfl dX4_become_164 ?_
        refine lv_iload_n hx hb dX4_become_167 rfl (lv_at hl 2 rfl) ?_
        refine dk_ild (k := (t1 + 8)) hx hb hK (dk_aT8 ht1 hW) (dkN_in (n := 6) d11 rfl) dX4_become_168 ?_
        refine lv_topi (fun v14 ev14 => ?_)
        refine dk_ist (k := (t0 + 8)) hx hb hK hW (fun _ => dkC_T g z ht0 (c := 8) (by decide) _) (by have := dkT_lt ht0; omega) hS (dkN_in (n := 6) d11 rfl) dX4_become_169 (fun I15 H15 L15 eI15 hW hS => ?_)
        have hO := dkO_setT hO ht0 (c := 8) (by decide) eI15 (dkN_sub (dkN_top v14) rfl)
        have hF := dkF_set hF eI15 (dkIn_atv (i := 10) rfl (Nat.le_refl _) (Nat.le_refl _) d11 rfl)
        refine lv_aload_n hx hb dX4_become_170 rfl (lv_at hl 0 rfl) ?_
        refine dk_get (k := t0) hx hb hts iX4_become_4 hown hK (dk_aT0 ht0 hW) rfl 14 (by decide) (hts (.fieldLink RX4 36 "DogKings$Town" "dogAt" "[I") (List.mem_of_getElem? (i := 15) rfl)) rfl dX4_become_171 ?_
        refine lv_iload_n hx hb dX4_become_174 rfl (lv_at hl 2 rfl) ?_
        refine lv_aload_n hx hb dX4_become_175 rfl (lv_at hl 1 rfl) ?_
        refine dk_get (k := t1) hx hb hts iX4_become_4 hown hK (dk_aT0 ht1 hW) rfl 14 (by decide) (hts (.fieldLink RX4 36 "DogKings$Town" "dogAt" "[I") (List.mem_of_getElem? (i := 15) rfl)) rfl dX4_become_176 ?_
        refine lv_iload_n hx hb dX4_become_179 rfl (lv_at hl 2 rfl) ?_
        refine dk_ild (k := (t1 + 9)) hx hb hK (dk_aT9 ht1 hW) (dkN_in (n := 6) d11 rfl) dX4_become_180 ?_
        refine lv_topi (fun v16 ev16 => ?_)
        refine dk_ist (k := (t0 + 9)) hx hb hK hW (fun _ => dkC_T g z ht0 (c := 9) (by decide) _) (by have := dkT_lt ht0; omega) hS (dkN_in (n := 6) d11 rfl) dX4_become_181 (fun I17 H17 L17 eI17 hW hS => ?_)
        have hO := dkO_setT hO ht0 (c := 9) (by decide) eI17 (dkN_sub (dkN_top v16) rfl)
        have hF := dkF_set hF eI17 (dkIn_atv (i := 11) rfl (Nat.le_refl _) (Nat.le_refl _) d11 rfl)
        obtain ⟨v18, ev18⟩ : ∃ y : Int32, y = x138_2 + 1 := ⟨_, rfl⟩
        have dv18 : dkN [(1, 6)] v18 := by rw [ev18]; exact dkN_add d11 (dkN_lit (x := 1) (1) rfl) rfl
        refine lv_iinc (v := v18) (lv' := [(2, .int v18), (0, .ref (z + t0)), (1, .ref (z + t1))]) hx hb dX4_become_182 hl (k := 2) rfl (by rw [ev18]; rfl) (by decide) rfl (fun ls hl => ?_)
        refine lv_goto (tgt := 138) hx hb dX4_become_185 (by decide) ?_
        exact ih138 I17 _ _ ls v18 (dk_near hn138 (by rw [ev18]; exact dk_inc d11 rfl) (dkN_lt d11 rfl)) hW hS hF hO (dkN_sub dv18 rfl) (lv_sub hl [1, 2, 0] rfl)
  have C42 : ∀ (n : Nat), ∀ (I : dkI) (H : Heap) (locs : List Loc) (ls : Array Slot) (x42_2 : Int32), (5 - x42_2.toInt).toNat < n → dkW g z I H → va_S (dkA z) s.heap H locs → dkF [(t0, t0, 0, 4), (t0, t0, 11, 11), (t0, t0, 15, 17), (t0 + 1, t0 + 1, 0, 4), (t0 + 2, t0 + 2, 0, 4), (t0 + 3, t0 + 3, 0, 4), (t0 + 4, t0 + 4, 0, 4), (t0 + 5, t0 + 5, 0, 4), (t0 + 6, t0 + 6, 0, 4), (t0 + 7, t0 + 7, 0, 5), (t0 + 8, t0 + 8, 0, 5), (t0 + 9, t0 + 9, 0, 5)] I0 I → dkOk I → dkN [(0, 5)] x42_2 → lv_has ls 3 [(0, .ref (z + t0)), (1, .ref (z + t1)), (2, .int x42_2)] → W p l e (headSpec wsX4_become (dkR 0)).room s m args below meth c H locs 0 0 (MQ below (dkQv g z (fun I1 => dkF [(t0, t0, 0, 4), (t0, t0, 11, 11), (t0, t0, 15, 17), (t0 + 1, t0 + 1, 0, 4), (t0 + 2, t0 + 2, 0, 4), (t0 + 3, t0 + 3, 0, 4), (t0 + 4, t0 + 4, 0, 4), (t0 + 5, t0 + 5, 0, 4), (t0 + 6, t0 + 6, 0, 4), (t0 + 7, t0 + 7, 0, 5), (t0 + 8, t0 + 8, 0, 5), (t0 + 9, t0 + 9, 0, 5)] I0 I1 ∧ dkOk I1 ∧ ((True)))) args s 0 0 (dkA z)) (F0 m 42 ls []) := by
    intro n
    induction n with
    | zero => intro I H locs ls x42_2 hn; exact absurd hn (Nat.not_lt_zero _)
    | succ n ih42 =>
      intro I42_ H locs ls x42_2 hn42 hW hS hF_42 hO k42_0 hl
      have hF := hF_42
      refine lv_iload_n hx hb dX4_become_42 rfl (lv_at hl 2 rfl) ?_
      refine lv_aload_n hx hb dX4_become_43 rfl (lv_at hl 0 rfl) ?_
      refine dk_get (k := t0) hx hb hts iX4_become_4 hown hK (dk_aT0 ht0 hW) rfl 4 (by decide) (hts (.fieldLink RX4 55 "DogKings$Town" "people" "I") (List.mem_of_getElem? (i := 5) rfl)) rfl dX4_become_44 ?_
      refine lv_topi (fun v19 ev19 => ?_)
      have dv19 : dkN [(0, 5)] v19 := by rw [ev19]; exact (dkO_at hO ht0 (c := 0) (by decide) 4)
      refine lv_icmp_ge (tgt := 128) hx hb dX4_become_47 (by decide) (fun c20 => ?_) (fun c20 => ?_)
      ·
        refine lv_aload_n hx hb dX4_become_128 rfl (lv_at hl 0 rfl) ?_
        refine lv_aload_n hx hb dX4_become_129 rfl (lv_at hl 1 rfl) ?_
        refine dk_get (k := t1) hx hb hts iX4_become_4 hown hK (dk_aT0 ht1 hW) rfl 11 (by decide) (hts (.fieldLink RX4 58 "DogKings$Town" "dogs" "I") (List.mem_of_getElem? (i := 12) rfl)) rfl dX4_become_130 ?_
        refine lv_topi (fun v21 ev21 => ?_)
        have dv21 : dkN [(0, 6)] v21 := by rw [ev21]; exact (dkO_at hO ht1 (c := 0) (by decide) 11)
        refine dk_put (k := t0) hx hb hts iX4_become_4 tyX4 tyX4_ok nmX4 hown hK hW (dk_aT0 ht0 hW) hS rfl 11 (by decide) (hts (.fieldLink RX4 58 "DogKings$Town" "dogs" "I") (List.mem_of_getElem? (i := 12) rfl)) rfl rfl (Nat.le_of_ble_eq_true rfl) (dk_eT11 ht0) dX4_become_133 (fun I22 H22 L22 eI22 hW hS => ?_)
        have eI22 : I22 = dkU I42_ t0 11 v21 := eI22
        have hO := dkO_setT hO ht0 (c := 0) (by decide) eI22 (dkN_sub dv21 rfl)
        have hF := dkF_set hF eI22 (dkIn_at (i := 1) rfl (Nat.le_refl _) (Nat.le_refl _) (by decide) (by decide))
        refine lv_iconst (v := 0) hx hb dX4_become_136 (by decide) ?_
        refine lv_istore_n (lv' := [(2, .int 0), (0, .ref (z + t0)), (1, .ref (z + t1))]) hx hb dX4_become_137 rfl hl (by decide) rfl (fun ls hl => ?_)
        exact C138 _ I22 _ _ ls 0 (Nat.lt_succ_self _) hW hS hF hO (dkN_sub (dkN_lit (x := 0) (0) rfl) rfl) (lv_sub hl [1, 2, 0] rfl)
      ·
        have d23 : dkN [(1, 5)] v19 := dkN_le2 1 k42_0 dv19 (dkc_nle c20) rfl
        have f24 : dkN [(1, 5)] (I42_ t0 4) := by rw [← ev19]; exact d23
        have d25 : dkN [(0, 4)] x42_2 := dkN_le1 1 k42_0 dv19 (dkc_nle c20) rfl
        refine lv_aload_n hx hb dX4_become_50 rfl (lv_at hl 0 rfl) ?_
        refine dk_get (k := t0) hx hb hts iX4_become_4 hown hK (dk_aT0 ht0 hW) rfl 5 (by decide) (hts (.fieldLink RX4 9 "DogKings$Town" "personHome" "[I") (List.mem_of_getElem? (i := 6) rfl)) rfl dX4_become_51 ?_
        refine lv_iload_n hx hb dX4_become_54 rfl (lv_at hl 2 rfl) ?_
        refine lv_aload_n hx hb dX4_become_55 rfl (lv_at hl 1 rfl) ?_
        refine dk_get (k := t1) hx hb hts iX4_become_4 hown hK (dk_aT0 ht1 hW) rfl 5 (by decide) (hts (.fieldLink RX4 9 "DogKings$Town" "personHome" "[I") (List.mem_of_getElem? (i := 6) rfl)) rfl dX4_become_56 ?_
        refine lv_iload_n hx hb dX4_become_59 rfl (lv_at hl 2 rfl) ?_
        refine dk_ild (k := (t1 + 1)) hx hb hK (dk_aT1 ht1 hW) (dkN_in (n := 5) d25 rfl) dX4_become_60 ?_
        refine lv_topi (fun v26 ev26 => ?_)
        refine dk_ist (k := (t0 + 1)) hx hb hK hW (fun _ => dkC_T g z ht0 (c := 1) (by decide) _) (by have := dkT_lt ht0; omega) hS (dkN_in (n := 5) d25 rfl) dX4_become_61 (fun I27 H27 L27 eI27 hW hS => ?_)
        have hO := dkO_setT hO ht0 (c := 1) (by decide) eI27 (dkN_sub (dkN_top v26) rfl)
        have hF := dkF_set hF eI27 (dkIn_atv (i := 3) rfl (Nat.le_refl _) (Nat.le_refl _) d25 rfl)
        refine lv_aload_n hx hb dX4_become_62 rfl (lv_at hl 0 rfl) ?_
        refine dk_get (k := t0) hx hb hts iX4_become_4 hown hK (dk_aT0 ht0 hW) rfl 6 (by decide) (hts (.fieldLink RX4 15 "DogKings$Town" "smell" "[I") (List.mem_of_getElem? (i := 7) rfl)) rfl dX4_become_63 ?_
        refine lv_iload_n hx hb dX4_become_66 rfl (lv_at hl 2 rfl) ?_
        refine lv_aload_n hx hb dX4_become_67 rfl (lv_at hl 1 rfl) ?_
        refine dk_get (k := t1) hx hb hts iX4_become_4 hown hK (dk_aT0 ht1 hW) rfl 6 (by decide) (hts (.fieldLink RX4 15 "DogKings$Town" "smell" "[I") (List.mem_of_getElem? (i := 7) rfl)) rfl dX4_become_68 ?_
        refine lv_iload_n hx hb dX4_become_71 rfl (lv_at hl 2 rfl) ?_
        refine dk_ild (k := (t1 + 2)) hx hb hK (dk_aT2 ht1 hW) (dkN_in (n := 5) d25 rfl) dX4_become_72 ?_
        refine lv_topi (fun v28 ev28 => ?_)
        refine dk_ist (k := (t0 + 2)) hx hb hK hW (fun _ => dkC_T g z ht0 (c := 2) (by decide) _) (by have := dkT_lt ht0; omega) hS (dkN_in (n := 5) d25 rfl) dX4_become_73 (fun I29 H29 L29 eI29 hW hS => ?_)
        have hO := dkO_setT hO ht0 (c := 2) (by decide) eI29 (dkN_sub (dkN_top v28) rfl)
        have hF := dkF_set hF eI29 (dkIn_atv (i := 4) rfl (Nat.le_refl _) (Nat.le_refl _) d25 rfl)
        refine lv_aload_n hx hb dX4_become_74 rfl (lv_at hl 0 rfl) ?_
        refine dk_get (k := t0) hx hb hts iX4_become_4 hown hK (dk_aT0 ht0 hW) rfl 7 (by decide) (hts (.fieldLink RX4 18 "DogKings$Town" "personAt" "[I") (List.mem_of_getElem? (i := 8) rfl)) rfl dX4_become_75 ?_
        refine lv_iload_n hx hb dX4_become_78 rfl (lv_at hl 2 rfl) ?_
        refine lv_aload_n hx hb dX4_become_79 rfl (lv_at hl 1 rfl) ?_
        refine dk_get (k := t1) hx hb hts iX4_become_4 hown hK (dk_aT0 ht1 hW) rfl 7 (by decide) (hts (.fieldLink RX4 18 "DogKings$Town" "personAt" "[I") (List.mem_of_getElem? (i := 8) rfl)) rfl dX4_become_80 ?_
        refine lv_iload_n hx hb dX4_become_83 rfl (lv_at hl 2 rfl) ?_
        refine dk_ild (k := (t1 + 3)) hx hb hK (dk_aT3 ht1 hW) (dkN_in (n := 5) d25 rfl) dX4_become_84 ?_
        refine lv_topi (fun v30 ev30 => ?_)
        refine dk_ist (k := (t0 + 3)) hx hb hK hW (fun _ => dkC_T g z ht0 (c := 3) (by decide) _) (by have := dkT_lt ht0; omega) hS (dkN_in (n := 5) d25 rfl) dX4_become_85 (fun I31 H31 L31 eI31 hW hS => ?_)
        have hO := dkO_setT hO ht0 (c := 3) (by decide) eI31 (dkN_sub (dkN_top v30) rfl)
        have hF := dkF_set hF eI31 (dkIn_atv (i := 5) rfl (Nat.le_refl _) (Nat.le_refl _) d25 rfl)
        refine lv_aload_n hx hb dX4_become_86 rfl (lv_at hl 0 rfl) ?_
        refine dk_get (k := t0) hx hb hts iX4_become_4 hown hK (dk_aT0 ht0 hW) rfl 8 (by decide) (hts (.fieldLink RX4 21 "DogKings$Town" "bones" "[I") (List.mem_of_getElem? (i := 9) rfl)) rfl dX4_become_87 ?_
        refine lv_iload_n hx hb dX4_become_90 rfl (lv_at hl 2 rfl) ?_
        refine lv_aload_n hx hb dX4_become_91 rfl (lv_at hl 1 rfl) ?_
        refine dk_get (k := t1) hx hb hts iX4_become_4 hown hK (dk_aT0 ht1 hW) rfl 8 (by decide) (hts (.fieldLink RX4 21 "DogKings$Town" "bones" "[I") (List.mem_of_getElem? (i := 9) rfl)) rfl dX4_become_92 ?_
        refine lv_iload_n hx hb dX4_become_95 rfl (lv_at hl 2 rfl) ?_
        refine dk_ild (k := (t1 + 4)) hx hb hK (dk_aT4 ht1 hW) (dkN_in (n := 5) d25 rfl) dX4_become_96 ?_
        refine lv_topi (fun v32 ev32 => ?_)
        refine dk_ist (k := (t0 + 4)) hx hb hK hW (fun _ => dkC_T g z ht0 (c := 4) (by decide) _) (by have := dkT_lt ht0; omega) hS (dkN_in (n := 5) d25 rfl) dX4_become_97 (fun I33 H33 L33 eI33 hW hS => ?_)
        have hO := dkO_setT hO ht0 (c := 4) (by decide) eI33 (dkN_sub (dkN_top v32) rfl)
        have hF := dkF_set hF eI33 (dkIn_atv (i := 6) rfl (Nat.le_refl _) (Nat.le_refl _) d25 rfl)
        refine lv_aload_n hx hb dX4_become_98 rfl (lv_at hl 0 rfl) ?_
        refine dk_get (k := t0) hx hb hts iX4_become_4 hown hK (dk_aT0 ht0 hW) rfl 9 (by decide) (hts (.fieldLink RX4 24 "DogKings$Town" "gait" "[I") (List.mem_of_getElem? (i := 10) rfl)) rfl dX4_become_99 ?_
        refine lv_iload_n hx hb dX4_become_102 rfl (lv_at hl 2 rfl) ?_
        refine lv_aload_n hx hb dX4_become_103 rfl (lv_at hl 1 rfl) ?_
        refine dk_get (k := t1) hx hb hts iX4_become_4 hown hK (dk_aT0 ht1 hW) rfl 9 (by decide) (hts (.fieldLink RX4 24 "DogKings$Town" "gait" "[I") (List.mem_of_getElem? (i := 10) rfl)) rfl dX4_become_104 ?_
        refine lv_iload_n hx hb dX4_become_107 rfl (lv_at hl 2 rfl) ?_
        refine dk_ild (k := (t1 + 5)) hx hb hK (dk_aT5 ht1 hW) (dkN_in (n := 5) d25 rfl) dX4_become_108 ?_
        refine lv_topi (fun v34 ev34 => ?_)
        refine dk_ist (k := (t0 + 5)) hx hb hK hW (fun _ => dkC_T g z ht0 (c := 5) (by decide) _) (by have := dkT_lt ht0; omega) hS (dkN_in (n := 5) d25 rfl) dX4_become_109 (fun I35 H35 L35 eI35 hW hS => ?_)
        have hO := dkO_setT hO ht0 (c := 5) (by decide) eI35 (dkN_sub (dkN_top v34) rfl)
        have hF := dkF_set hF eI35 (dkIn_atv (i := 7) rfl (Nat.le_refl _) (Nat.le_refl _) d25 rfl)
        refine lv_aload_n hx hb dX4_become_110 rfl (lv_at hl 0 rfl) ?_
        refine dk_get (k := t0) hx hb hts iX4_become_4 hown hK (dk_aT0 ht0 hW) rfl 10 (by decide) (hts (.fieldLink RX4 27 "DogKings$Town" "reigns" "[I") (List.mem_of_getElem? (i := 11) rfl)) rfl dX4_become_111 ?_
        refine lv_iload_n hx hb dX4_become_114 rfl (lv_at hl 2 rfl) ?_
        refine lv_aload_n hx hb dX4_become_115 rfl (lv_at hl 1 rfl) ?_
        refine dk_get (k := t1) hx hb hts iX4_become_4 hown hK (dk_aT0 ht1 hW) rfl 10 (by decide) (hts (.fieldLink RX4 27 "DogKings$Town" "reigns" "[I") (List.mem_of_getElem? (i := 11) rfl)) rfl dX4_become_116 ?_
        refine lv_iload_n hx hb dX4_become_119 rfl (lv_at hl 2 rfl) ?_
        refine dk_ild (k := (t1 + 6)) hx hb hK (dk_aT6 ht1 hW) (dkN_in (n := 5) d25 rfl) dX4_become_120 ?_
        refine lv_topi (fun v36 ev36 => ?_)
        refine dk_ist (k := (t0 + 6)) hx hb hK hW (fun _ => dkC_T g z ht0 (c := 6) (by decide) _) (by have := dkT_lt ht0; omega) hS (dkN_in (n := 5) d25 rfl) dX4_become_121 (fun I37 H37 L37 eI37 hW hS => ?_)
        have hO := dkO_setT hO ht0 (c := 6) (by decide) eI37 (dkN_sub (dkN_top v36) rfl)
        have hF := dkF_set hF eI37 (dkIn_atv (i := 8) rfl (Nat.le_refl _) (Nat.le_refl _) d25 rfl)
        obtain ⟨v38, ev38⟩ : ∃ y : Int32, y = x42_2 + 1 := ⟨_, rfl⟩
        have dv38 : dkN [(1, 5)] v38 := by rw [ev38]; exact dkN_add d25 (dkN_lit (x := 1) (1) rfl) rfl
        refine lv_iinc (v := v38) (lv' := [(2, .int v38), (0, .ref (z + t0)), (1, .ref (z + t1))]) hx hb dX4_become_122 hl (k := 2) rfl (by rw [ev38]; rfl) (by decide) rfl (fun ls hl => ?_)
        refine lv_goto (tgt := 42) hx hb dX4_become_125 (by decide) ?_
        exact ih42 I37 _ _ ls v38 (dk_near hn42 (by rw [ev38]; exact dk_inc d25 rfl) (dkN_lt d25 rfl)) hW hS hF hO (dkN_sub dv38 rfl) (lv_sub hl [1, 2, 0] rfl)
  refine lv_aload_n hx hb dX4_become_0 rfl (lv_at hl 0 rfl) ?_
  refine lv_aload_n hx hb dX4_become_1 rfl (lv_at hl 1 rfl) ?_
  refine dk_get (k := t1) hx hb hts iX4_become_4 hown hK (dk_aT0 ht1 hW) rfl 0 (by decide) (hts (.fieldLink RX4 42 "DogKings$Town" "places" "I") (List.mem_of_getElem? (i := 1) rfl)) rfl dX4_become_2 ?_
  refine lv_topi (fun v39 ev39 => ?_)
  have dv39 : dkN [(0, 9)] v39 := by rw [ev39]; exact (dkO_at hO ht1 (c := 0) (by decide) 0)
  refine dk_put (k := t0) hx hb hts iX4_become_4 tyX4 tyX4_ok nmX4 hown hK hW (dk_aT0 ht0 hW) hS rfl 0 (by decide) (hts (.fieldLink RX4 42 "DogKings$Town" "places" "I") (List.mem_of_getElem? (i := 1) rfl)) rfl rfl (Nat.le_of_ble_eq_true rfl) (dk_eT0 ht0) dX4_become_5 (fun I40 H40 L40 eI40 hW hS => ?_)
  have eI40 : I40 = dkU I0 t0 0 v39 := eI40
  have hO := dkO_setT hO ht0 (c := 0) (by decide) eI40 (dkN_sub dv39 rfl)
  have hF := dkF_set hF eI40 (dkIn_at (i := 0) rfl (Nat.le_refl _) (Nat.le_refl _) (by decide) (by decide))
  refine lv_aload_n hx hb dX4_become_8 rfl (lv_at hl 0 rfl) ?_
  refine lv_aload_n hx hb dX4_become_9 rfl (lv_at hl 1 rfl) ?_
  refine dk_get (k := t1) hx hb hts iX4_become_4 hown hK (dk_aT0 ht1 hW) rfl 1 (by decide) (hts (.fieldLink RX4 46 "DogKings$Town" "fridayLasts" "I") (List.mem_of_getElem? (i := 2) rfl)) rfl dX4_become_10 ?_
  refine lv_topi (fun v41 ev41 => ?_)
  have dv41 : dkN [(0, 30)] v41 := by rw [ev41]; exact (dkO_at hO ht1 (c := 0) (by decide) 1)
  refine dk_put (k := t0) hx hb hts iX4_become_4 tyX4 tyX4_ok nmX4 hown hK hW (dk_aT0 ht0 hW) hS rfl 1 (by decide) (hts (.fieldLink RX4 46 "DogKings$Town" "fridayLasts" "I") (List.mem_of_getElem? (i := 2) rfl)) rfl rfl (Nat.le_of_ble_eq_true rfl) (dk_eT1 ht0) dX4_become_13 (fun I42 H42 L42 eI42 hW hS => ?_)
  have eI42 : I42 = dkU I40 t0 1 v41 := eI42
  have hO := dkO_setT hO ht0 (c := 0) (by decide) eI42 (dkN_sub dv41 rfl)
  have hF := dkF_set hF eI42 (dkIn_at (i := 0) rfl (Nat.le_refl _) (Nat.le_refl _) (by decide) (by decide))
  refine lv_aload_n hx hb dX4_become_16 rfl (lv_at hl 0 rfl) ?_
  refine lv_aload_n hx hb dX4_become_17 rfl (lv_at hl 1 rfl) ?_
  refine dk_get (k := t1) hx hb hts iX4_become_4 hown hK (dk_aT0 ht1 hW) rfl 2 (by decide) (hts (.fieldLink RX4 49 "DogKings$Town" "friday" "I") (List.mem_of_getElem? (i := 3) rfl)) rfl dX4_become_18 ?_
  refine lv_topi (fun v43 ev43 => ?_)
  refine dk_put (k := t0) hx hb hts iX4_become_4 tyX4 tyX4_ok nmX4 hown hK hW (dk_aT0 ht0 hW) hS rfl 2 (by decide) (hts (.fieldLink RX4 49 "DogKings$Town" "friday" "I") (List.mem_of_getElem? (i := 3) rfl)) rfl rfl (Nat.le_of_ble_eq_true rfl) (dk_eT2 ht0) dX4_become_21 (fun I44 H44 L44 eI44 hW hS => ?_)
  have eI44 : I44 = dkU I42 t0 2 v43 := eI44
  have hO := dkO_setT hO ht0 (c := 0) (by decide) eI44 (dkN_sub (dkN_top v43) rfl)
  have hF := dkF_set hF eI44 (dkIn_at (i := 0) rfl (Nat.le_refl _) (Nat.le_refl _) (by decide) (by decide))
  refine lv_aload_n hx hb dX4_become_24 rfl (lv_at hl 0 rfl) ?_
  refine lv_aload_n hx hb dX4_become_25 rfl (lv_at hl 1 rfl) ?_
  refine dk_get (k := t1) hx hb hts iX4_become_4 hown hK (dk_aT0 ht1 hW) rfl 3 (by decide) (hts (.fieldLink RX4 52 "DogKings$Town" "minute" "I") (List.mem_of_getElem? (i := 4) rfl)) rfl dX4_become_26 ?_
  refine lv_topi (fun v45 ev45 => ?_)
  refine dk_put (k := t0) hx hb hts iX4_become_4 tyX4 tyX4_ok nmX4 hown hK hW (dk_aT0 ht0 hW) hS rfl 3 (by decide) (hts (.fieldLink RX4 52 "DogKings$Town" "minute" "I") (List.mem_of_getElem? (i := 4) rfl)) rfl rfl (Nat.le_of_ble_eq_true rfl) (dk_eT3 ht0) dX4_become_29 (fun I46 H46 L46 eI46 hW hS => ?_)
  have eI46 : I46 = dkU I44 t0 3 v45 := eI46
  have hO := dkO_setT hO ht0 (c := 0) (by decide) eI46 (dkN_sub (dkN_top v45) rfl)
  have hF := dkF_set hF eI46 (dkIn_at (i := 0) rfl (Nat.le_refl _) (Nat.le_refl _) (by decide) (by decide))
  refine lv_aload_n hx hb dX4_become_32 rfl (lv_at hl 0 rfl) ?_
  refine lv_aload_n hx hb dX4_become_33 rfl (lv_at hl 1 rfl) ?_
  refine dk_get (k := t1) hx hb hts iX4_become_4 hown hK (dk_aT0 ht1 hW) rfl 4 (by decide) (hts (.fieldLink RX4 55 "DogKings$Town" "people" "I") (List.mem_of_getElem? (i := 5) rfl)) rfl dX4_become_34 ?_
  refine lv_topi (fun v47 ev47 => ?_)
  have dv47 : dkN [(0, 5)] v47 := by rw [ev47]; exact (dkO_at hO ht1 (c := 0) (by decide) 4)
  refine dk_put (k := t0) hx hb hts iX4_become_4 tyX4 tyX4_ok nmX4 hown hK hW (dk_aT0 ht0 hW) hS rfl 4 (by decide) (hts (.fieldLink RX4 55 "DogKings$Town" "people" "I") (List.mem_of_getElem? (i := 5) rfl)) rfl rfl (Nat.le_of_ble_eq_true rfl) (dk_eT4 ht0) dX4_become_37 (fun I48 H48 L48 eI48 hW hS => ?_)
  have eI48 : I48 = dkU I46 t0 4 v47 := eI48
  have hO := dkO_setT hO ht0 (c := 0) (by decide) eI48 (dkN_sub dv47 rfl)
  have hF := dkF_set hF eI48 (dkIn_at (i := 0) rfl (Nat.le_refl _) (Nat.le_refl _) (by decide) (by decide))
  refine lv_iconst (v := 0) hx hb dX4_become_40 (by decide) ?_
  refine lv_istore_n (lv' := [(2, .int 0), (0, .ref (z + t0)), (1, .ref (z + t1))]) hx hb dX4_become_41 rfl hl (by decide) rfl (fun ls hl => ?_)
  exact C42 _ I48 _ _ ls 0 (Nat.lt_succ_self _) hW hS hF hO (dkN_sub (dkN_lit (x := 0) (0) rfl) rfl) (lv_sub hl [1, 2, 0] rfl)
set_option maxHeartbeats 4000000 in
set_option maxRecDepth 100000 in
theorem c_X6_in_9 (l : Launch) (g : dkG) (z : Nat) (I0 : dkI) (p0 : Int32) (p1 : Int32) (p2 : Int32) (dp1 : dkN [(0, 0)] p1) (dp2 : dkN [(-1, 8)] p2)  (hO : dkOk I0) : Met l yX6_in wsX6_in (dkR 0) (dkPc g z [.int p0, .int p1, .int p2] I0) (dkQi g z (fun r I1 => dkF [] I0 I1 ∧ dkOk I1 ∧ ((dkN [(0, 0)] r ∧ True) ∨ (dkN [(1, 1)] r ∧ dkN [(0, 8)] p0 ∧ dkN [(0, 8)] p2 ∧ True)))) 0 0 (dkA z) := by
  refine Met.ofW (cc := cX6_in) (maxL := 3) (ret := (some .boolean)) (by decide) rfl ?_
  intro p e s m args below meth c s₁ B hml hv
  obtain ⟨ha, hW, hK, hT⟩ := hv
  have hx := B.exec
  have hb := B.bytes
  have hr := B.returns
  have hts := atoms_spec (ws := wsX6_in) B.pre
  have hown : s.vm.findClass RX6 = some m.cls := findClass_of_methodNamed B.named
  have hlocks := B.notSynchronized
  have hS : va_S (dkA z) s.heap s.heap [] := va_S.rf
  have hF : dkF [] I0 I0 := dkF_rf _ _
  have hl := lv_entry ([.int p0, .int p1, .int p2]) (n := 3) (Nat.le_of_ble_eq_true rfl)
  have hgo : entryFrame m args 3 = entryFrame m ([.int p0, .int p1, .int p2] : List Value).toArray 3 := by rw [ha]
  rw [hgo, lg_entry_eq]
  generalize (lg_sl ([.int p0, .int p1, .int p2]) ++ List.replicate (3 - (lg_sl ([.int p0, .int p1, .int p2])).length) Slot.unset).toArray = ls at hl ⊢
  have hl : lv_has ls 3 [(0, .int p0), (1, .int p1), (2, .int p2)] := hl
  refine lv_iload_n hx hb dX6_in_0 rfl (lv_at hl 0 rfl) ?_
  refine lv_iload_n hx hb dX6_in_1 rfl (lv_at hl 1 rfl) ?_
  refine lv_icmp_lt (tgt := 14) hx hb dX6_in_2 (by decide) (fun c1 => ?_) (fun c1 => ?_)
  ·
    have d2 : dkN [(-2147483648, -1)] p0 := dkN_le1 1 (dkN_top p0) dp1 (dkc_lt c1) rfl
    refine lv_iconst (v := 0) hx hb dX6_in_14 (by decide) ?_
    exact W.zret (v := 0) (ty := .boolean) hx hb hr rfl (fun t ht hW9 => ⟨⟨0, I0, rfl, ⟨hF, hO, Or.inl ⟨dkN_sub (dkN_lit (x := 0) (0) rfl) rfl, trivial⟩⟩, dkW_eq ht hW⟩, hS.F ht⟩) hS.2.2 dX6_in_15
  ·
    have d3 : dkN [(0, 2147483647)] p0 := dkN_le2 0 dp1 (dkN_top p0) (dkc_nlt c1) rfl
    refine lv_iload_n hx hb dX6_in_5 rfl (lv_at hl 0 rfl) ?_
    refine lv_iload_n hx hb dX6_in_6 rfl (lv_at hl 2 rfl) ?_
    refine lv_icmp_gt (tgt := 14) hx hb dX6_in_7 (by decide) (fun c4 => ?_) (fun c4 => ?_)
    ·
      refine lv_iconst (v := 0) hx hb dX6_in_14 (by decide) ?_
      exact W.zret (v := 0) (ty := .boolean) hx hb hr rfl (fun t ht hW9 => ⟨⟨0, I0, rfl, ⟨hF, hO, Or.inl ⟨dkN_sub (dkN_lit (x := 0) (0) rfl) rfl, trivial⟩⟩, dkW_eq ht hW⟩, hS.F ht⟩) hS.2.2 dX6_in_15
    ·
      have d5 : dkN [(0, 8)] p2 := dkN_le2 0 d3 dp2 (dkc_nlt c4) rfl
      have d6 : dkN [(0, 8)] p0 := dkN_le1 0 d3 dp2 (dkc_nlt c4) rfl
      refine lv_iconst (v := 1) hx hb dX6_in_10 (by decide) ?_
      refine lv_goto (tgt := 15) hx hb dX6_in_11 (by decide) ?_
      exact W.zret (v := 1) (ty := .boolean) hx hb hr rfl (fun t ht hW9 => ⟨⟨1, I0, rfl, ⟨hF, hO, Or.inr (⟨dkN_sub (dkN_lit (x := 1) (1) rfl) rfl, dkN_sub d6 rfl, dkN_sub d5 rfl, trivial⟩)⟩, dkW_eq ht hW⟩, hS.F ht⟩) hS.2.2 dX6_in_15
set_option maxHeartbeats 4000000 in
set_option maxRecDepth 100000 in
theorem c_X6_in_10 (l : Launch) (g : dkG) (z : Nat) (I0 : dkI) (p0 : Int32) (p1 : Int32) (p2 : Int32) (dp1 : dkN [(0, 0)] p1) (dp2 : dkN [(9, 9)] p2)  (hO : dkOk I0) : Met l yX6_in wsX6_in (dkR 0) (dkPc g z [.int p0, .int p1, .int p2] I0) (dkQi g z (fun r I1 => dkF [] I0 I1 ∧ dkOk I1 ∧ ((dkN [(0, 0)] r ∧ dkN [(-2147483648, -1), (10, 2147483647)] p0 ∧ True) ∨ (dkN [(1, 1)] r ∧ dkN [(0, 9)] p0 ∧ True)))) 0 0 (dkA z) := by
  refine Met.ofW (cc := cX6_in) (maxL := 3) (ret := (some .boolean)) (by decide) rfl ?_
  intro p e s m args below meth c s₁ B hml hv
  obtain ⟨ha, hW, hK, hT⟩ := hv
  have hx := B.exec
  have hb := B.bytes
  have hr := B.returns
  have hts := atoms_spec (ws := wsX6_in) B.pre
  have hown : s.vm.findClass RX6 = some m.cls := findClass_of_methodNamed B.named
  have hlocks := B.notSynchronized
  have hS : va_S (dkA z) s.heap s.heap [] := va_S.rf
  have hF : dkF [] I0 I0 := dkF_rf _ _
  have hl := lv_entry ([.int p0, .int p1, .int p2]) (n := 3) (Nat.le_of_ble_eq_true rfl)
  have hgo : entryFrame m args 3 = entryFrame m ([.int p0, .int p1, .int p2] : List Value).toArray 3 := by rw [ha]
  rw [hgo, lg_entry_eq]
  generalize (lg_sl ([.int p0, .int p1, .int p2]) ++ List.replicate (3 - (lg_sl ([.int p0, .int p1, .int p2])).length) Slot.unset).toArray = ls at hl ⊢
  have hl : lv_has ls 3 [(0, .int p0), (1, .int p1), (2, .int p2)] := hl
  refine lv_iload_n hx hb dX6_in_0 rfl (lv_at hl 0 rfl) ?_
  refine lv_iload_n hx hb dX6_in_1 rfl (lv_at hl 1 rfl) ?_
  refine lv_icmp_lt (tgt := 14) hx hb dX6_in_2 (by decide) (fun c1 => ?_) (fun c1 => ?_)
  ·
    have d2 : dkN [(-2147483648, -1)] p0 := dkN_le1 1 (dkN_top p0) dp1 (dkc_lt c1) rfl
    refine lv_iconst (v := 0) hx hb dX6_in_14 (by decide) ?_
    exact W.zret (v := 0) (ty := .boolean) hx hb hr rfl (fun t ht hW9 => ⟨⟨0, I0, rfl, ⟨hF, hO, Or.inl ⟨dkN_sub (dkN_lit (x := 0) (0) rfl) rfl, dkN_sub d2 rfl, trivial⟩⟩, dkW_eq ht hW⟩, hS.F ht⟩) hS.2.2 dX6_in_15
  ·
    have d3 : dkN [(0, 2147483647)] p0 := dkN_le2 0 dp1 (dkN_top p0) (dkc_nlt c1) rfl
    refine lv_iload_n hx hb dX6_in_5 rfl (lv_at hl 0 rfl) ?_
    refine lv_iload_n hx hb dX6_in_6 rfl (lv_at hl 2 rfl) ?_
    refine lv_icmp_gt (tgt := 14) hx hb dX6_in_7 (by decide) (fun c4 => ?_) (fun c4 => ?_)
    ·
      have d5 : dkN [(10, 2147483647)] p0 := dkN_le2 1 dp2 d3 (dkc_lt c4) rfl
      refine lv_iconst (v := 0) hx hb dX6_in_14 (by decide) ?_
      exact W.zret (v := 0) (ty := .boolean) hx hb hr rfl (fun t ht hW9 => ⟨⟨0, I0, rfl, ⟨hF, hO, Or.inl ⟨dkN_sub (dkN_lit (x := 0) (0) rfl) rfl, dkN_sub d5 rfl, trivial⟩⟩, dkW_eq ht hW⟩, hS.F ht⟩) hS.2.2 dX6_in_15
    ·
      have d6 : dkN [(0, 9)] p0 := dkN_le1 0 d3 dp2 (dkc_nlt c4) rfl
      refine lv_iconst (v := 1) hx hb dX6_in_10 (by decide) ?_
      refine lv_goto (tgt := 15) hx hb dX6_in_11 (by decide) ?_
      exact W.zret (v := 1) (ty := .boolean) hx hb hr rfl (fun t ht hW9 => ⟨⟨1, I0, rfl, ⟨hF, hO, Or.inr (⟨dkN_sub (dkN_lit (x := 1) (1) rfl) rfl, dkN_sub d6 rfl, trivial⟩)⟩, dkW_eq ht hW⟩, hS.F ht⟩) hS.2.2 dX6_in_15
set_option maxHeartbeats 4000000 in
set_option maxRecDepth 100000 in
theorem c_X5_fault_0 (l : Launch) (g : dkG) (z : Nat) (I0 : dkI)  (hO : dkOk I0) : Met l yX5_fault wsX5_fault (dkR 0) (dkPc g z [.ref (z + 0)] I0) (dkQi g z (fun r I1 => dkF [] I0 I1 ∧ dkOk I1 ∧ ((True ∧ True)))) 0 0 (dkA z) := by
  refine Met.ofW (cc := cX5_fault) (maxL := 1) (ret := (some .int)) (by decide) rfl ?_
  intro p e s m args below meth c s₁ B hml hv
  obtain ⟨ha, hW, hK, hT⟩ := hv
  have hx := B.exec
  have hb := B.bytes
  have hr := B.returns
  have hts := atoms_spec (ws := wsX5_fault) B.pre
  have hown : s.vm.findClass RX5 = some m.cls := findClass_of_methodNamed B.named
  have hlocks := B.notSynchronized
  have hS : va_S (dkA z) s.heap s.heap [] := va_S.rf
  have hF : dkF [] I0 I0 := dkF_rf _ _
  have hl := lv_entry ([.ref (z + 0)]) (n := 1) (Nat.le_of_ble_eq_true rfl)
  have hgo : entryFrame m args 1 = entryFrame m ([.ref (z + 0)] : List Value).toArray 1 := by rw [ha]
  rw [hgo, lg_entry_eq]
  generalize (lg_sl ([.ref (z + 0)]) ++ List.replicate (1 - (lg_sl ([.ref (z + 0)])).length) Slot.unset).toArray = ls at hl ⊢
  have hl : lv_has ls 1 [(0, .ref (z + 0))] := hl
  refine lv_aload_n hx hb dX5_fault_0 rfl (lv_at hl 0 rfl) ?_
  refine dk_get (k := 0) hx hb hts iX5_fault_5 hown hK (dk_at0 hW) rfl 4 (by decide) (hts (.fieldLink RX5 24 "DogKings" "reader" "LDogKings$Reader;") (List.mem_of_getElem? (i := 1) rfl)) rfl dX5_fault_1 ?_
  refine dk_get (k := 12) hx hb hts iX5_fault_2 hown hK (dk_at12 hW) rfl 5 (by decide) (hts (.fieldLink RX5 123 "DogKings$Reader" "faultNumber" "I") (List.mem_of_getElem? (i := 2) rfl)) rfl dX5_fault_4 ?_
  refine lv_topi (fun v1 ev1 => ?_)
  exact W.iret (v := v1) hx hb hr (fun t ht hW9 => ⟨⟨v1, I0, rfl, ⟨hF, hO, ⟨trivial, trivial⟩⟩, dkW_eq ht hW⟩, hS.F ht⟩) hS.2.2 dX5_fault_7
set_option maxHeartbeats 4000000 in
set_option maxRecDepth 100000 in
theorem c_X6_fault_0 (l : Launch) (g : dkG) (z : Nat) (I0 : dkI)  (hO : dkOk I0) : Met l yX6_fault wsX6_fault (dkR 0) (dkPc g z [.ref (z + 340)] I0) (dkQi g z (fun r I1 => dkF [] I0 I1 ∧ dkOk I1 ∧ ((True ∧ True)))) 0 0 (dkA z) := by
  refine Met.ofW (cc := cX6_fault) (maxL := 1) (ret := (some .int)) (by decide) rfl ?_
  intro p e s m args below meth c s₁ B hml hv
  obtain ⟨ha, hW, hK, hT⟩ := hv
  have hx := B.exec
  have hb := B.bytes
  have hr := B.returns
  have hts := atoms_spec (ws := wsX6_fault) B.pre
  have hown : s.vm.findClass RX6 = some m.cls := findClass_of_methodNamed B.named
  have hlocks := B.notSynchronized
  have hS : va_S (dkA z) s.heap s.heap [] := va_S.rf
  have hF : dkF [] I0 I0 := dkF_rf _ _
  have hl := lv_entry ([.ref (z + 340)]) (n := 1) (Nat.le_of_ble_eq_true rfl)
  have hgo : entryFrame m args 1 = entryFrame m ([.ref (z + 340)] : List Value).toArray 1 := by rw [ha]
  rw [hgo, lg_entry_eq]
  generalize (lg_sl ([.ref (z + 340)]) ++ List.replicate (1 - (lg_sl ([.ref (z + 340)])).length) Slot.unset).toArray = ls at hl ⊢
  have hl : lv_has ls 1 [(0, .ref (z + 340))] := hl
  refine lv_aload_n hx hb dX6_fault_0 rfl (lv_at hl 0 rfl) ?_
  refine dk_get (k := 340) hx hb hts iX6_fault_6 hown hK (dk_at340 hW) rfl 7 (by decide) (hts (.fieldLink RX6 108 "DogKingsModel" "faultKind" "I") (List.mem_of_getElem? (i := 1) rfl)) rfl dX6_fault_1 ?_
  refine lv_topi (fun v1 ev1 => ?_)
  exact W.iret (v := v1) hx hb hr (fun t ht hW9 => ⟨⟨v1, I0, rfl, ⟨hF, hO, ⟨trivial, trivial⟩⟩, dkW_eq ht hW⟩, hS.F ht⟩) hS.2.2 dX6_fault_4
set_option maxHeartbeats 4000000 in
set_option maxRecDepth 100000 in
theorem c_X4_stands_0 (l : Launch) (g : dkG) (z : Nat) (I0 : dkI) (t0 : Nat) (ht0 : dkT t0)  (hO : dkOk I0) : Met l yX4_stands wsX4_stands (dkR 0) (dkPc g z [.ref (z + t0)] I0) (dkQi g z (fun r I1 => dkF [] I0 I1 ∧ dkOk I1 ∧ ((dkN [(0, 0)] r ∧ dkN [(0, 0)] (I1 t0 0) ∧ True) ∨ (dkN [(1, 1)] r ∧ dkN [(1, 9)] (I1 t0 0) ∧ True)))) 0 0 (dkA z) := by
  refine Met.ofW (cc := cX4_stands) (maxL := 1) (ret := (some .boolean)) (by decide) rfl ?_
  intro p e s m args below meth c s₁ B hml hv
  obtain ⟨ha, hW, hK, hT⟩ := hv
  have hx := B.exec
  have hb := B.bytes
  have hr := B.returns
  have hts := atoms_spec (ws := wsX4_stands) B.pre
  have hown : s.vm.findClass RX4 = some m.cls := findClass_of_methodNamed B.named
  have hlocks := B.notSynchronized
  have hS : va_S (dkA z) s.heap s.heap [] := va_S.rf
  have hF : dkF [] I0 I0 := dkF_rf _ _
  have hl := lv_entry ([.ref (z + t0)]) (n := 1) (Nat.le_of_ble_eq_true rfl)
  have hgo : entryFrame m args 1 = entryFrame m ([.ref (z + t0)] : List Value).toArray 1 := by rw [ha]
  rw [hgo, lg_entry_eq]
  generalize (lg_sl ([.ref (z + t0)]) ++ List.replicate (1 - (lg_sl ([.ref (z + t0)])).length) Slot.unset).toArray = ls at hl ⊢
  have hl : lv_has ls 1 [(0, .ref (z + t0))] := hl
  refine lv_aload_n hx hb dX4_stands_0 rfl (lv_at hl 0 rfl) ?_
  refine dk_get (k := t0) hx hb hts iX4_stands_4 hown hK (dk_aT0 ht0 hW) rfl 0 (by decide) (hts (.fieldLink RX4 42 "DogKings$Town" "places" "I") (List.mem_of_getElem? (i := 1) rfl)) rfl dX4_stands_1 ?_
  refine lv_topi (fun v1 ev1 => ?_)
  have dv1 : dkN [(0, 9)] v1 := by rw [ev1]; exact (dkO_at hO ht0 (c := 0) (by decide) 0)
  refine lv_if_le (tgt := 11) hx hb dX4_stands_4 (by decide) (fun c2 => ?_) (fun c2 => ?_)
  ·
    have d3 : dkN [(0, 0)] v1 := dkN_le1 0 dv1 (dkN_lit (x := 0) (0) rfl) (dkc_le c2) rfl
    have f4 : dkN [(0, 0)] (I0 t0 0) := by rw [← ev1]; exact d3
    refine lv_iconst (v := 0) hx hb dX4_stands_11 (by decide) ?_
    exact W.zret (v := 0) (ty := .boolean) hx hb hr rfl (fun t ht hW9 => ⟨⟨0, I0, rfl, ⟨hF, hO, Or.inl ⟨dkN_sub (dkN_lit (x := 0) (0) rfl) rfl, (show dkN [(0, 0)] (I0 t0 0) from dkN_sub f4 rfl), trivial⟩⟩, dkW_eq ht hW⟩, hS.F ht⟩) hS.2.2 dX4_stands_12
  ·
    have d5 : dkN [(1, 9)] v1 := dkN_le2 1 (dkN_lit (x := 0) (0) rfl) dv1 (dkc_nle c2) rfl
    have f6 : dkN [(1, 9)] (I0 t0 0) := by rw [← ev1]; exact d5
    refine lv_iconst (v := 1) hx hb dX4_stands_7 (by decide) ?_
    refine lv_goto (tgt := 12) hx hb dX4_stands_8 (by decide) ?_
    exact W.zret (v := 1) (ty := .boolean) hx hb hr rfl (fun t ht hW9 => ⟨⟨1, I0, rfl, ⟨hF, hO, Or.inr (⟨dkN_sub (dkN_lit (x := 1) (1) rfl) rfl, (show dkN [(1, 9)] (I0 t0 0) from dkN_sub f6 rfl), trivial⟩)⟩, dkW_eq ht hW⟩, hS.F ht⟩) hS.2.2 dX4_stands_12
