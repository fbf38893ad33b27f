set_option maxHeartbeats 4000000 in
set_option maxRecDepth 100000 in
theorem c_X6_fits_0 (l : Launch) (g : dkG) (z : Nat) (I0 : dkI) (p0 : Int32) (p1 : Int32) (p2 : Int32) (p3 : Int32) (p4 : Int32)  (hO : dkOk I0) : Met l yX6_fits wsX6_fits (dkR 8) (dkPc g z [.ref (z + 340), .int p0, .int p1, .int p2, .int p3, .int p4] I0) (dkQi g z (fun r I1 => dkF [(340, 340, 4, 4), (348, 348, 0, 53)] I0 I1 ∧ dkOk I1 ∧ ((True ∧ True)))) 0 0 (dkA z) := by
  refine Met.ofW (cc := cX6_fits) (maxL := 7) (ret := (some .int)) (by decide) rfl ?_
  intro p e s m args below meth c s₁ B hml hv
  obtain ⟨ha, hW, hK, hT⟩ := hv
  have hx := B.exec
  have hb := B.bytes
  have hr := B.returns
  have hts := atoms_spec (ws := wsX6_fits) B.pre
  have hown : s.vm.findClass RX6 = some m.cls := findClass_of_methodNamed B.named
  have hlocks := B.notSynchronized
  have hS : va_S (dkA z) s.heap s.heap [] := va_S.rf
  have hF : dkF [(340, 340, 4, 4), (348, 348, 0, 53)] I0 I0 := dkF_rf _ _
  have hl := lv_entry ([.ref (z + 340), .int p0, .int p1, .int p2, .int p3, .int p4]) (n := 7) (Nat.le_of_ble_eq_true rfl)
  have hgo : entryFrame m args 7 = entryFrame m ([.ref (z + 340), .int p0, .int p1, .int p2, .int p3, .int p4] : List Value).toArray 7 := by rw [ha]
  rw [hgo, lg_entry_eq]
  generalize (lg_sl ([.ref (z + 340), .int p0, .int p1, .int p2, .int p3, .int p4]) ++ List.replicate (7 - (lg_sl ([.ref (z + 340), .int p0, .int p1, .int p2, .int p3, .int p4])).length) Slot.unset).toArray = ls at hl ⊢
  have hl : lv_has ls 7 [(0, .ref (z + 340)), (1, .int p0), (2, .int p1), (3, .int p2), (4, .int p3), (5, .int p4)] := hl
  have C130 : ∀ (I : dkI) (H : Heap) (locs : List Loc) (ls : Array Slot) (x130_6 : Int32) (x130_s0 : Int32), dkW g z I H → va_S (dkA z) s.heap H locs → dkF [(340, 340, 4, 4), (348, 348, 0, 53)] I0 I → dkOk I → dkN [(36, 36), (39, 39), (42, 42), (45, 45), (48, 48), (51, 51)] x130_6 → dkN [(0, 5)] p0 → dkN [(0, 7)] p1 → dkN [(0, 40)] p2 → dkN [(1, 12)] p3 → dkN [(0, 1)] p4 → p2.toInt + p3.toInt ≤ 40 → lv_has ls 7 [(0, .ref (z + 340)), (1, .int p0), (2, .int p1), (3, .int p2), (4, .int p3), (5, .int p4), (6, .int x130_6)] → W p l e (headSpec wsX6_fits (dkR 8)).room s m args below meth c H locs 0 0 (MQ below (dkQi g z (fun r I1 => dkF [(340, 340, 4, 4), (348, 348, 0, 53)] I0 I1 ∧ dkOk I1 ∧ ((True ∧ True)))) args s 0 0 (dkA z)) (F0 m 130 ls [.int x130_s0, .ref (z + 340)]) := by
    intro I130_ H locs ls x130_6 x130_s0 hW hS hF_130 hO k130_0 r130_0 r130_1 r130_2 r130_3 r130_4 q130_0 hl
    have hF := hF_130
    refine dk_Vi (As := [.int x130_s0]) (rest := []) ⟨hx, hb, hml, hown, hts⟩ (c_X6_well_0 l g z I130_ x130_s0 hO) (cwV 1 hts gX6_fits_X6_well rfl rfl rfl (by decide +kernel) ⟨Nat.le_of_ble_eq_true rfl, Nat.le_of_ble_eq_true rfl⟩) (dk_at340 hW) rfl hK hT hW hS rfl hl.1 rfl (Nat.le_of_ble_eq_true rfl) dX6_fits_130 ⟨Nat.zero_le _, Nat.zero_le _⟩ (fun v1 I1 H1 L1 hp1 hW hS => ?_)
    obtain ⟨hF1, hO, ev1, hc1⟩ := hp1
    have hF := dkF_call hF hF1 rfl
    obtain ⟨_, f1_340_4, -⟩ := hc1
    rw [ev1]
    exact W.iret (v := x130_s0) hx hb hr (fun t ht hW9 => ⟨⟨x130_s0, I1, rfl, ⟨hF, hO, ⟨trivial, trivial⟩⟩, dkW_eq ht hW⟩, hS.F ht⟩) hS.2.2 dX6_fits_133
  refine lv_aload_n hx hb dX6_fits_0 rfl (lv_at hl 0 rfl) ?_
  refine lv_iload_n hx hb dX6_fits_1 rfl (lv_at hl 1 rfl) ?_
  refine dk_Vi (As := [.int p0]) (rest := []) ⟨hx, hb, hml, hown, hts⟩ (c_X6_isDog_0 l g z I0 p0 hO) (cwV 1 hts gX6_fits_X6_isDog rfl rfl rfl (by decide +kernel) ⟨Nat.le_of_ble_eq_true rfl, Nat.le_of_ble_eq_true rfl⟩) (dk_at340 hW) rfl hK hT hW hS rfl hl.1 rfl (Nat.le_of_ble_eq_true rfl) dX6_fits_2 ⟨Nat.zero_le _, Nat.zero_le _⟩ (fun v2 I2 H2 L2 hp2 hW hS => ?_)
  obtain ⟨hF2, hO, hc2⟩ := hp2
  have hF := dkF_call hF hF2 rfl
  rcases hc2 with ⟨dv2, -⟩ | hc2
  ·
    refine lv_if_eq (tgt := 36) hx hb dX6_fits_5 (by decide) (fun c3 => ?_) (fun c3 => ?_)
    ·
      refine lv_ldc (v := (-1000001)) hx hb hown (hts (.constant RX6 64 (-1000001)) (List.mem_of_getElem? (i := 1) rfl)) dX6_fits_36 ?_
      exact W.iret (v := (-1000001)) hx hb hr (fun t ht hW9 => ⟨⟨(-1000001), I2, rfl, ⟨hF, hO, ⟨trivial, trivial⟩⟩, dkW_eq ht hW⟩, hS.F ht⟩) hS.2.2 dX6_fits_38
    ·
      exact (dkN_nil (show dkN [] v2 from dkN_ne1 (0) dv2 (dkN_lit (x := 0) (0) rfl) (dk_ne c3) rfl)).elim
  ·
    obtain ⟨dv2, a2_0, -⟩ := hc2
    have d4 : dkN [(0, 5)] p0 := dkN_eq1 (dkN_top p0) a2_0 rfl rfl
    refine lv_if_eq (tgt := 36) hx hb dX6_fits_5 (by decide) (fun c5 => ?_) (fun c5 => ?_)
    ·
      exact (dkN_nil (show dkN [] v2 from dkN_eq1 dv2 (dkN_lit (x := 0) (0) rfl) (congrArg Int32.toInt c5) rfl)).elim
    ·
      refine lv_iload_n hx hb dX6_fits_8 rfl (lv_at hl 2 rfl) ?_
      refine dk_Si (As := [.int p1]) (rest := []) ⟨hx, hb, hml, hown, hts⟩ (c_X6_isRow_0 l g z I2 p1 hO) (va_cwS 1 hts gX6_fits_X6_isRow rfl rfl rfl (by decide +kernel) ⟨Nat.le_of_ble_eq_true rfl, Nat.le_of_ble_eq_true rfl⟩) hK hT hW hS rfl hl.1 rfl (Nat.le_of_ble_eq_true rfl) dX6_fits_9 ⟨Nat.zero_le _, Nat.zero_le _⟩ (fun v6 I6 H6 L6 hp6 hW hS => ?_)
      obtain ⟨hF6, hO, hc6⟩ := hp6
      have hF := dkF_call hF hF6 rfl
      rcases hc6 with ⟨dv6, a6_0, -⟩ | hc6
      ·
        have d7 : dkN [(-2147483648, -1), (8, 2147483647)] p1 := dkN_eq1 (dkN_top p1) a6_0 rfl rfl
        refine lv_if_eq (tgt := 36) hx hb dX6_fits_12 (by decide) (fun c8 => ?_) (fun c8 => ?_)
        ·
          refine lv_ldc (v := (-1000001)) hx hb hown (hts (.constant RX6 64 (-1000001)) (List.mem_of_getElem? (i := 1) rfl)) dX6_fits_36 ?_
          exact W.iret (v := (-1000001)) hx hb hr (fun t ht hW9 => ⟨⟨(-1000001), I6, rfl, ⟨hF, hO, ⟨trivial, trivial⟩⟩, dkW_eq ht hW⟩, hS.F ht⟩) hS.2.2 dX6_fits_38
        ·
          exact (dkN_nil (show dkN [] v6 from dkN_ne1 (0) dv6 (dkN_lit (x := 0) (0) rfl) (dk_ne c8) rfl)).elim
      ·
        obtain ⟨dv6, a6_0, -⟩ := hc6
        have d9 : dkN [(0, 7)] p1 := dkN_eq1 (dkN_top p1) a6_0 rfl rfl
        refine lv_if_eq (tgt := 36) hx hb dX6_fits_12 (by decide) (fun c10 => ?_) (fun c10 => ?_)
        ·
          exact (dkN_nil (show dkN [] v6 from dkN_eq1 dv6 (dkN_lit (x := 0) (0) rfl) (congrArg Int32.toInt c10) rfl)).elim
        ·
          refine lv_iload hx hb dX6_fits_15 (lv_at hl 4 rfl) ?_
          refine lv_iconst (v := 1) hx hb dX6_fits_17 (by decide) ?_
          refine lv_bipush (v := 12) hx hb dX6_fits_18 (by decide) ?_
          refine dk_Si (As := [.int p3, .int 1, .int 12]) (rest := []) ⟨hx, hb, hml, hown, hts⟩ (c_X6_in_17 l g z I6 p3 1 12 (dkN_lit (x := 1) (1) rfl) (dkN_lit (x := 12) (12) rfl) hO) (va_cwS 3 hts gX6_fits_X6_in rfl rfl rfl (by decide +kernel) ⟨Nat.le_of_ble_eq_true rfl, Nat.le_of_ble_eq_true rfl⟩) hK hT hW hS rfl hl.1 rfl (Nat.le_of_ble_eq_true rfl) dX6_fits_20 ⟨Nat.zero_le _, Nat.zero_le _⟩ (fun v11 I11 H11 L11 hp11 hW hS => ?_)
          obtain ⟨hF11, hO, hc11⟩ := hp11
          have hF := dkF_call hF hF11 rfl
          rcases hc11 with ⟨dv11, a11_0, -⟩ | hc11
          ·
            have d12 : dkN [(-2147483648, 0), (13, 2147483647)] p3 := dkN_eq1 (dkN_top p3) a11_0 rfl rfl
            refine lv_if_eq (tgt := 36) hx hb dX6_fits_23 (by decide) (fun c13 => ?_) (fun c13 => ?_)
            ·
              refine lv_ldc (v := (-1000001)) hx hb hown (hts (.constant RX6 64 (-1000001)) (List.mem_of_getElem? (i := 1) rfl)) dX6_fits_36 ?_
              exact W.iret (v := (-1000001)) hx hb hr (fun t ht hW9 => ⟨⟨(-1000001), I11, rfl, ⟨hF, hO, ⟨trivial, trivial⟩⟩, dkW_eq ht hW⟩, hS.F ht⟩) hS.2.2 dX6_fits_38
            ·
              exact (dkN_nil (show dkN [] v11 from dkN_ne1 (0) dv11 (dkN_lit (x := 0) (0) rfl) (dk_ne c13) rfl)).elim
          ·
            obtain ⟨dv11, a11_0, -⟩ := hc11
            have d14 : dkN [(1, 12)] p3 := dkN_eq1 (dkN_top p3) a11_0 rfl rfl
            refine lv_if_eq (tgt := 36) hx hb dX6_fits_23 (by decide) (fun c15 => ?_) (fun c15 => ?_)
            ·
              exact (dkN_nil (show dkN [] v11 from dkN_eq1 dv11 (dkN_lit (x := 0) (0) rfl) (congrArg Int32.toInt c15) rfl)).elim
            ·
              refine lv_iload hx hb dX6_fits_26 (lv_at hl 5 rfl) ?_
              refine lv_iconst (v := 0) hx hb dX6_fits_28 (by decide) ?_
              refine lv_iconst (v := 1) hx hb dX6_fits_29 (by decide) ?_
              refine dk_Si (As := [.int p4, .int 0, .int 1]) (rest := []) ⟨hx, hb, hml, hown, hts⟩ (c_X6_in_16 l g z I11 p4 0 1 (dkN_lit (x := 0) (0) rfl) (dkN_lit (x := 1) (1) rfl) hO) (va_cwS 3 hts gX6_fits_X6_in rfl rfl rfl (by decide +kernel) ⟨Nat.le_of_ble_eq_true rfl, Nat.le_of_ble_eq_true rfl⟩) hK hT hW hS rfl hl.1 rfl (Nat.le_of_ble_eq_true rfl) dX6_fits_30 ⟨Nat.zero_le _, Nat.zero_le _⟩ (fun v16 I16 H16 L16 hp16 hW hS => ?_)
              obtain ⟨hF16, hO, hc16⟩ := hp16
              have hF := dkF_call hF hF16 rfl
              rcases hc16 with ⟨dv16, a16_0, -⟩ | hc16
              ·
                have d17 : dkN [(-2147483648, -1), (2, 2147483647)] p4 := dkN_eq1 (dkN_top p4) a16_0 rfl rfl
                refine lv_if_ne (tgt := 39) hx hb dX6_fits_33 (by decide) (fun c18 => ?_) (fun c18 => ?_)
                ·
                  exact (dkN_nil (show dkN [] v16 from dkN_ne1 (0) dv16 (dkN_lit (x := 0) (0) rfl) (dk_ne c18) rfl)).elim
                ·
                  refine lv_ldc (v := (-1000001)) hx hb hown (hts (.constant RX6 64 (-1000001)) (List.mem_of_getElem? (i := 1) rfl)) dX6_fits_36 ?_
                  exact W.iret (v := (-1000001)) hx hb hr (fun t ht hW9 => ⟨⟨(-1000001), I16, rfl, ⟨hF, hO, ⟨trivial, trivial⟩⟩, dkW_eq ht hW⟩, hS.F ht⟩) hS.2.2 dX6_fits_38
              ·
                obtain ⟨dv16, a16_0, -⟩ := hc16
                have d19 : dkN [(0, 1)] p4 := dkN_eq1 (dkN_top p4) a16_0 rfl rfl
                refine lv_if_ne (tgt := 39) hx hb dX6_fits_33 (by decide) (fun c20 => ?_) (fun c20 => ?_)
                ·
                  refine lv_aload_n hx hb dX6_fits_39 rfl (lv_at hl 0 rfl) ?_
                  refine lv_iload_n hx hb dX6_fits_40 rfl (lv_at hl 2 rfl) ?_
                  refine dk_Vi (As := [.int p1]) (rest := []) ⟨hx, hb, hml, hown, hts⟩ (c_X6_isMissing_0 l g z I16 p1 d9 hO) (cwV 1 hts gX6_fits_X6_isMissing rfl rfl rfl (by decide +kernel) ⟨Nat.le_of_ble_eq_true rfl, Nat.le_of_ble_eq_true rfl⟩) (dk_at340 hW) rfl hK hT hW hS rfl hl.1 rfl (Nat.le_of_ble_eq_true rfl) dX6_fits_41 ⟨Nat.zero_le _, Nat.zero_le _⟩ (fun v21 I21 H21 L21 hp21 hW hS => ?_)
                  obtain ⟨hF21, hO, hc21⟩ := hp21
                  have hF := dkF_call hF hF21 rfl
                  obtain ⟨dv21, -⟩ := hc21
                  refine lv_if_eq (tgt := 53) hx hb dX6_fits_44 (by decide) (fun c22 => ?_) (fun c22 => ?_)
                  ·
                    have d23 : dkN [(0, 0)] v21 := dkN_eq1 dv21 (dkN_lit (x := 0) (0) rfl) (congrArg Int32.toInt c22) rfl
                    refine lv_aload_n hx hb dX6_fits_53 rfl (lv_at hl 0 rfl) ?_
                    refine lv_iload_n hx hb dX6_fits_54 rfl (lv_at hl 2 rfl) ?_
                    refine lv_iload_n hx hb dX6_fits_55 rfl (lv_at hl 3 rfl) ?_
                    refine lv_iload hx hb dX6_fits_56 (lv_at hl 4 rfl) ?_
                    refine dk_Vi (As := [.int p1, .int p2, .int p3]) (rest := []) ⟨hx, hb, hml, hown, hts⟩ (c_X6_isPart_2 l g z I21 p1 p2 p3 d9 d14 hO) (cwV 3 hts gX6_fits_X6_isPart rfl rfl rfl (by decide +kernel) ⟨Nat.le_of_ble_eq_true rfl, Nat.le_of_ble_eq_true rfl⟩) (dk_at340 hW) rfl hK hT hW hS rfl hl.1 rfl (Nat.le_of_ble_eq_true rfl) dX6_fits_58 ⟨Nat.zero_le _, Nat.zero_le _⟩ (fun v24 I24 H24 L24 hp24 hW hS => ?_)
                    obtain ⟨hF24, hO, hc24⟩ := hp24
                    have hF := dkF_call hF hF24 rfl
                    rcases hc24 with ⟨dv24, -⟩ | hc24
                    ·
                      refine lv_if_ne (tgt := 70) hx hb dX6_fits_61 (by decide) (fun c25 => ?_) (fun c25 => ?_)
                      ·
                        exact (dkN_nil (show dkN [] v24 from dkN_ne1 (0) dv24 (dkN_lit (x := 0) (0) rfl) (dk_ne c25) rfl)).elim
                      ·
                        refine lv_aload_n hx hb dX6_fits_64 rfl (lv_at hl 0 rfl) ?_
                        refine lv_iconst (v := 2) hx hb dX6_fits_65 (by decide) ?_
                        refine dk_Vi (As := [.int 2]) (rest := []) ⟨hx, hb, hml, hown, hts⟩ (c_X6_found_1 l g z I24 2 (dkN_lit (x := 2) (2) rfl) hO) (cwV 1 hts gX6_fits_X6_found rfl rfl rfl (by decide +kernel) ⟨Nat.le_of_ble_eq_true rfl, Nat.le_of_ble_eq_true rfl⟩) (dk_at340 hW) rfl hK hT hW hS rfl hl.1 rfl (Nat.le_of_ble_eq_true rfl) dX6_fits_66 ⟨Nat.zero_le _, Nat.zero_le _⟩ (fun v26 I26 H26 L26 hp26 hW hS => ?_)
                        obtain ⟨hF26, hO, hc26⟩ := hp26
                        have hF := dkF_call hF hF26 rfl
                        obtain ⟨dv26, f26_340_4, -⟩ := hc26
                        exact W.iret (v := v26) hx hb hr (fun t ht hW9 => ⟨⟨v26, I26, rfl, ⟨hF, hO, ⟨trivial, trivial⟩⟩, dkW_eq ht hW⟩, hS.F ht⟩) hS.2.2 dX6_fits_69
                    ·
                      obtain ⟨dv24, a24_1, q24_0, -⟩ := hc24
                      have d27 : dkN [(0, 40)] p2 := dkN_eq1 (dkN_top p2) a24_1 rfl rfl
                      refine lv_if_ne (tgt := 70) hx hb dX6_fits_61 (by decide) (fun c28 => ?_) (fun c28 => ?_)
                      ·
                        refine lv_bipush (v := 36) hx hb dX6_fits_70 (by decide) ?_
                        refine lv_iconst (v := 3) hx hb dX6_fits_72 (by decide) ?_
                        refine lv_iload_n hx hb dX6_fits_73 rfl (lv_at hl 1 rfl) ?_
                        refine lv_imul hx hb dX6_fits_74 ?_
                        refine lv_topi (fun v29 ev29 => ?_)
                        have dv29 : dkN [(0, 0), (3, 3), (6, 6), (9, 9), (12, 12), (15, 15)] v29 := by rw [ev29]; exact dkN_mulPt 3 (dkN_lit (x := 3) (3) rfl) d4 rfl
                        refine lv_iadd hx hb dX6_fits_75 ?_
                        refine lv_topi (fun v30 ev30 => ?_)
                        have dv30 : dkN [(36, 36), (39, 39), (42, 42), (45, 45), (48, 48), (51, 51)] v30 := by rw [ev30]; exact dkN_add (dkN_lit (x := 36) (36) rfl) dv29 rfl
                        refine lv_istore (lv' := [(6, .int v30), (0, .ref (z + 340)), (1, .int p0), (2, .int p1), (3, .int p2), (4, .int p3), (5, .int p4)]) hx hb dX6_fits_76 hl (by decide) rfl (fun ls hl => ?_)
                        refine lv_aload_n hx hb dX6_fits_78 rfl (lv_at hl 1 rfl) ?_
                        refine lv_iload hx hb dX6_fits_79 (lv_at hl 6 rfl) ?_
                        refine lv_if_ne (tgt := 104) hx hb dX6_fits_81 (by decide) (fun c31 => ?_) (fun c31 => ?_)
                        ·
                          have d32 : dkN [(1, 1)] p4 := dkN_ne1 (0) d19 (dkN_lit (x := 0) (0) rfl) (dk_ne c31) rfl
                          refine lv_aload_n hx hb dX6_fits_104 rfl (lv_at hl 1 rfl) ?_
                          refine lv_iload_n hx hb dX6_fits_105 rfl (lv_at hl 2 rfl) ?_
                          refine lv_bipush (v := 40) hx hb dX6_fits_106 (by decide) ?_
                          refine lv_iload_n hx hb dX6_fits_108 rfl (lv_at hl 3 rfl) ?_
                          refine lv_imul hx hb dX6_fits_109 ?_
                          refine lv_topi (fun v33 ev33 => ?_)
                          have dv33 : dkN [(0, 280)] v33 := by rw [ev33]; exact dkN_mulL 40 (by decide) (dkN_lit (x := 40) (40) rfl) d9 rfl
                          refine lv_iload_n hx hb dX6_fits_110 rfl (lv_at hl 4 rfl) ?_
                          refine lv_iadd hx hb dX6_fits_111 ?_
                          refine lv_topi (fun v34 ev34 => ?_)
                          have dv34 : dkN [(0, 320)] v34 := by rw [ev34]; exact dkN_add dv33 d27 rfl
                          refine lv_iload hx hb dX6_fits_112 (lv_at hl 5 rfl) ?_
                          refine lv_iload hx hb dX6_fits_114 (lv_at hl 0 rfl) ?_
                          refine lv_iconst (v := 2) hx hb dX6_fits_116 (by decide) ?_
                          refine lv_iadd hx hb dX6_fits_117 ?_
                          refine lv_topi (fun v35 ev35 => ?_)
                          have dv35 : dkN [(38, 38), (41, 41), (44, 44), (47, 47), (50, 50), (53, 53)] v35 := by rw [ev35]; exact dkN_add dv30 (dkN_lit (x := 2) (2) rfl) rfl
                          refine lv_iconst (v := 0) hx hb dX6_fits_118 (by decide) ?_
                          refine lv_aload_n hx hb dX6_fits_119 rfl (lv_at hl 1 rfl) ?_
                          refine dk_get (k := 340) hx hb hts iX6_fits_6 hown hK (dk_at340 hW) rfl 13 (by decide) (hts (.fieldLink RX6 25 "DogKingsModel" "now" "[I") (List.mem_of_getElem? (i := 2) rfl)) rfl dX6_fits_120 ?_
                          refine lv_iconst (v := 0) hx hb dX6_fits_123 (by decide) ?_
                          refine dk_ild (k := 346) hx hb hK (dk_at346 hW) (dkN_in (n := 54) (dkN_lit (x := 0) (0) rfl) rfl) dX6_fits_124 ?_
                          refine lv_topi (fun v36 ev36 => ?_)
                          have ev36 : v36 = I24 346 0 := ev36
                          have dv36 : dkN [(0, 9)] v36 := by rw [ev36]; exact (show dkN [(0, 9)] (I24 346 0) from (hO 346 0))
                          refine lv_iconst (v := 1) hx hb dX6_fits_125 (by decide) ?_
                          refine lv_isub hx hb dX6_fits_126 ?_
                          refine lv_topi (fun v37 ev37 => ?_)
                          have dv37 : dkN [(-1, 8)] v37 := by rw [ev37]; exact dkN_subt dv36 (dkN_lit (x := 1) (1) rfl) rfl
                          refine dk_Vi (As := [.int p0, .int v34, .int p3, .int v35, .int 0, .int v37]) (rest := [.ref (z + 340)]) ⟨hx, hb, hml, hown, hts⟩ (c_X6_seenBy_0 l g z I24 p0 v34 p3 v35 0 v37 d4 dv34 d14 dv35 (dkN_lit (x := 0) (0) rfl) dv37 (dk_rel320 ev33 ev34 d9 d27 q24_0 rfl) hO) (cwV 6 hts gX6_fits_X6_seenBy rfl rfl rfl (by decide +kernel) ⟨Nat.le_of_ble_eq_true rfl, Nat.le_of_ble_eq_true rfl⟩) (dk_at340 hW) rfl hK hT hW hS rfl hl.1 rfl (Nat.le_of_ble_eq_true rfl) dX6_fits_127 ⟨Nat.zero_le _, Nat.zero_le _⟩ (fun v38 I38 H38 L38 hp38 hW hS => ?_)
                          obtain ⟨hF38, hO, hc38⟩ := hp38
                          have hF := dkF_call hF hF38 rfl
                          obtain ⟨_, -⟩ := hc38
                          exact C130 I38 _ _ ls v30 v38 hW hS hF hO (dkN_sub dv30 rfl) (dkN_sub d4 rfl) (dkN_sub d9 rfl) (dkN_sub d27 rfl) (dkN_sub d14 rfl) (dkN_sub d32 rfl) q24_0 (lv_sub hl [1, 2, 3, 4, 5, 6, 0] rfl)
                        ·
                          have d39 : dkN [(0, 0)] p4 := dkN_eq1 d19 (dkN_lit (x := 0) (0) rfl) (congrArg Int32.toInt c31) rfl
                          refine lv_aload_n hx hb dX6_fits_84 rfl (lv_at hl 1 rfl) ?_
                          refine lv_iload_n hx hb dX6_fits_85 rfl (lv_at hl 2 rfl) ?_
                          refine lv_bipush (v := 40) hx hb dX6_fits_86 (by decide) ?_
                          refine lv_iload_n hx hb dX6_fits_88 rfl (lv_at hl 3 rfl) ?_
                          refine lv_imul hx hb dX6_fits_89 ?_
                          refine lv_topi (fun v40 ev40 => ?_)
                          have dv40 : dkN [(0, 280)] v40 := by rw [ev40]; exact dkN_mulL 40 (by decide) (dkN_lit (x := 40) (40) rfl) d9 rfl
                          refine lv_iload_n hx hb dX6_fits_90 rfl (lv_at hl 4 rfl) ?_
                          refine lv_iadd hx hb dX6_fits_91 ?_
                          refine lv_topi (fun v41 ev41 => ?_)
                          have dv41 : dkN [(0, 320)] v41 := by rw [ev41]; exact dkN_add dv40 d27 rfl
                          refine lv_iload hx hb dX6_fits_92 (lv_at hl 5 rfl) ?_
                          refine lv_iload hx hb dX6_fits_94 (lv_at hl 0 rfl) ?_
                          refine lv_iconst (v := 1) hx hb dX6_fits_96 (by decide) ?_
                          refine lv_iconst (v := 5) hx hb dX6_fits_97 (by decide) ?_
                          refine dk_Vi (As := [.int p0, .int v41, .int p3, .int v30, .int 1, .int 5]) (rest := [.ref (z + 340)]) ⟨hx, hb, hml, hown, hts⟩ (c_X6_seenBy_1 l g z I24 p0 v41 p3 v30 1 5 d4 dv41 d14 dv30 (dkN_lit (x := 1) (1) rfl) (dkN_lit (x := 5) (5) rfl) (dk_rel320 ev40 ev41 d9 d27 q24_0 rfl) hO) (cwV 6 hts gX6_fits_X6_seenBy rfl rfl rfl (by decide +kernel) ⟨Nat.le_of_ble_eq_true rfl, Nat.le_of_ble_eq_true rfl⟩) (dk_at340 hW) rfl hK hT hW hS rfl hl.1 rfl (Nat.le_of_ble_eq_true rfl) dX6_fits_98 ⟨Nat.zero_le _, Nat.zero_le _⟩ (fun v42 I42 H42 L42 hp42 hW hS => ?_)
                          obtain ⟨hF42, hO, hc42⟩ := hp42
                          have hF := dkF_call hF hF42 rfl
                          obtain ⟨_, -⟩ := hc42
                          refine lv_goto (tgt := 130) hx hb dX6_fits_101 (by decide) ?_
                          exact C130 I42 _ _ ls v30 v42 hW hS hF hO (dkN_sub dv30 rfl) (dkN_sub d4 rfl) (dkN_sub d9 rfl) (dkN_sub d27 rfl) (dkN_sub d14 rfl) (dkN_sub d39 rfl) q24_0 (lv_sub hl [1, 2, 3, 4, 5, 6, 0] rfl)
                      ·
                        exact (dkN_nil (show dkN [] v24 from dkN_eq1 dv24 (dkN_lit (x := 0) (0) rfl) (congrArg Int32.toInt c28) rfl)).elim
                  ·
                    have d43 : dkN [(1, 1)] v21 := dkN_ne1 (0) dv21 (dkN_lit (x := 0) (0) rfl) (dk_ne c22) rfl
                    refine lv_aload_n hx hb dX6_fits_47 rfl (lv_at hl 0 rfl) ?_
                    refine lv_iconst (v := 1) hx hb dX6_fits_48 (by decide) ?_
                    refine dk_Vi (As := [.int 1]) (rest := []) ⟨hx, hb, hml, hown, hts⟩ (c_X6_found_2 l g z I21 1 (dkN_lit (x := 1) (1) rfl) hO) (cwV 1 hts gX6_fits_X6_found rfl rfl rfl (by decide +kernel) ⟨Nat.le_of_ble_eq_true rfl, Nat.le_of_ble_eq_true rfl⟩) (dk_at340 hW) rfl hK hT hW hS rfl hl.1 rfl (Nat.le_of_ble_eq_true rfl) dX6_fits_49 ⟨Nat.zero_le _, Nat.zero_le _⟩ (fun v44 I44 H44 L44 hp44 hW hS => ?_)
                    obtain ⟨hF44, hO, hc44⟩ := hp44
                    have hF := dkF_call hF hF44 rfl
                    obtain ⟨dv44, f44_340_4, -⟩ := hc44
                    exact W.iret (v := v44) hx hb hr (fun t ht hW9 => ⟨⟨v44, I44, rfl, ⟨hF, hO, ⟨trivial, trivial⟩⟩, dkW_eq ht hW⟩, hS.F ht⟩) hS.2.2 dX6_fits_52
                ·
                  exact (dkN_nil (show dkN [] v16 from dkN_eq1 dv16 (dkN_lit (x := 0) (0) rfl) (congrArg Int32.toInt c20) rfl)).elim
set_option maxHeartbeats 4000000 in
set_option maxRecDepth 100000 in
theorem c_X3_leastOf_1 (l : Launch) (g : dkG) (z : Nat) (I0 : dkI) (p0 : Int32) (dp0 : dkN [(2, 3)] p0)  (hO : dkOk I0) : Met l yX3_leastOf wsX3_leastOf (dkR 0) (dkPc g z [.int p0] I0) (dkQi g z (fun r I1 => dkF [] I0 I1 ∧ dkOk I1 ∧ ((dkN [(0, 0)] r ∧ True)))) 0 0 (dkA z) := by
  refine Met.ofW (cc := cX3_leastOf) (maxL := 1) (ret := (some .int)) (by decide) rfl ?_
  intro p e s m args below meth c s₁ B hml hv
  obtain ⟨ha, hW, hK, hT⟩ := hv
  have hx := B.exec
  have hb := B.bytes
  have hr := B.returns
  have hts := atoms_spec (ws := wsX3_leastOf) B.pre
  have hown : s.vm.findClass RX3 = some m.cls := findClass_of_methodNamed B.named
  have hlocks := B.notSynchronized
  have hS : va_S (dkA z) s.heap s.heap [] := va_S.rf
  have hF : dkF [] I0 I0 := dkF_rf _ _
  have hl := lv_entry ([.int p0]) (n := 1) (Nat.le_of_ble_eq_true rfl)
  have hgo : entryFrame m args 1 = entryFrame m ([.int p0] : List Value).toArray 1 := by rw [ha]
  rw [hgo, lg_entry_eq]
  generalize (lg_sl ([.int p0]) ++ List.replicate (1 - (lg_sl ([.int p0])).length) Slot.unset).toArray = ls at hl ⊢
  have hl : lv_has ls 1 [(0, .int p0)] := hl
  refine lv_iload_n hx hb dX3_leastOf_0 rfl (lv_at hl 0 rfl) ?_
  refine lv_if_ne (tgt := 8) hx hb dX3_leastOf_1 (by decide) (fun c1 => ?_) (fun c1 => ?_)
  ·
    refine lv_iconst (v := 0) hx hb dX3_leastOf_8 (by decide) ?_
    exact W.iret (v := 0) hx hb hr (fun t ht hW9 => ⟨⟨0, I0, rfl, ⟨hF, hO, ⟨dkN_sub (dkN_lit (x := 0) (0) rfl) rfl, trivial⟩⟩, dkW_eq ht hW⟩, hS.F ht⟩) hS.2.2 dX3_leastOf_9
  ·
    exact (dkN_nil (show dkN [] p0 from dkN_eq1 dp0 (dkN_lit (x := 0) (0) rfl) (congrArg Int32.toInt c1) rfl)).elim
set_option maxHeartbeats 4000000 in
set_option maxRecDepth 100000 in
theorem c_X3_mostOf_1 (l : Launch) (g : dkG) (z : Nat) (I0 : dkI) (p0 : Int32) (dp0 : dkN [(2, 3)] p0)  (hO : dkOk I0) : Met l yX3_mostOf wsX3_mostOf (dkR 0) (dkPc g z [.ref (z + 325), .int p0] I0) (dkQi g z (fun r I1 => dkF [] I0 I1 ∧ dkOk I1 ∧ ((dkN [(2, 2)] r ∧ dkN [(3, 3)] p0 ∧ True) ∨ (dkN [(9, 9)] r ∧ dkN [(2, 2)] p0 ∧ True)))) 0 0 (dkA z) := by
  refine Met.ofW (cc := cX3_mostOf) (maxL := 2) (ret := (some .int)) (by decide) rfl ?_
  intro p e s m args below meth c s₁ B hml hv
  obtain ⟨ha, hW, hK, hT⟩ := hv
  have hx := B.exec
  have hb := B.bytes
  have hr := B.returns
  have hts := atoms_spec (ws := wsX3_mostOf) B.pre
  have hown : s.vm.findClass RX3 = some m.cls := findClass_of_methodNamed B.named
  have hlocks := B.notSynchronized
  have hS : va_S (dkA z) s.heap s.heap [] := va_S.rf
  have hF : dkF [] I0 I0 := dkF_rf _ _
  have hl := lv_entry ([.ref (z + 325), .int p0]) (n := 2) (Nat.le_of_ble_eq_true rfl)
  have hgo : entryFrame m args 2 = entryFrame m ([.ref (z + 325), .int p0] : List Value).toArray 2 := by rw [ha]
  rw [hgo, lg_entry_eq]
  generalize (lg_sl ([.ref (z + 325), .int p0]) ++ List.replicate (2 - (lg_sl ([.ref (z + 325), .int p0])).length) Slot.unset).toArray = ls at hl ⊢
  have hl : lv_has ls 2 [(0, .ref (z + 325)), (1, .int p0)] := hl
  refine lv_iload_n hx hb dX3_mostOf_0 rfl (lv_at hl 1 rfl) ?_
  by_cases c1 : p0 = 2
  ·
    have qc1 : p0.toInt = 2 := by rw [c1]; rfl
    have d2 : dkN [(2, 2)] p0 := dkN_lit (2) qc1
    refine lv_tableIn (tgt := 40) hx hb dX3_mostOf_1 (by rw [qc1]; decide) (by rw [qc1]; decide) (by rw [qc1]; rfl) (by decide) ?_
    refine lv_bipush (v := 9) hx hb dX3_mostOf_40 (by decide) ?_
    exact W.iret (v := 9) hx hb hr (fun t ht hW9 => ⟨⟨9, I0, rfl, ⟨hF, hO, Or.inr (⟨dkN_sub (dkN_lit (x := 9) (9) rfl) rfl, dkN_sub d2 rfl, trivial⟩)⟩, dkW_eq ht hW⟩, hS.F ht⟩) hS.2.2 dX3_mostOf_42
  ·
    have d3 : dkN [(3, 3)] p0 := dkN_ne1 (2) dp0 (dkN_lit (x := 2) (2) rfl) (dk_ne c1) rfl
    refine lv_tableOut (tgt := 43) hx hb dX3_mostOf_1 (dkN_out d3 rfl) (by decide) ?_
    refine lv_iconst (v := 2) hx hb dX3_mostOf_43 (by decide) ?_
    exact W.iret (v := 2) hx hb hr (fun t ht hW9 => ⟨⟨2, I0, rfl, ⟨hF, hO, Or.inl ⟨dkN_sub (dkN_lit (x := 2) (2) rfl) rfl, dkN_sub d3 rfl, trivial⟩⟩, dkW_eq ht hW⟩, hS.F ht⟩) hS.2.2 dX3_mostOf_44
set_option maxHeartbeats 4000000 in
set_option maxRecDepth 100000 in
theorem c_X4_take_3 (l : Launch) (g : dkG) (z : Nat) (I0 : dkI) (t0 : Nat) (ht0 : dkT t0) (p0 : Int32) (p1 : Int32) (p2 : Int32) (dp0 : dkN [(2, 2)] p0) (dp1 : dkN [(0, 4)] p1) (dp2 : dkN [(0, 9)] p2)  (hO : dkOk I0) : Met l yX4_take wsX4_take (dkR 0) (dkPc g z [.ref (z + t0), .int p0, .int p1, .int p2] I0) (dkQv g z (fun I1 => dkF [(t0 + 2, t0 + 2, 0, 4)] I0 I1 ∧ dkOk I1 ∧ ((True)))) 0 0 (dkA z) := by
  refine Met.ofW (cc := cX4_take) (maxL := 4) (ret := none) (by decide) rfl ?_
  intro p e s m args below meth c s₁ B hml hv
  obtain ⟨ha, hW, hK, hT⟩ := hv
  have hx := B.exec
  have hb := B.bytes
  have hr := B.returns
  have hts := atoms_spec (ws := wsX4_take) B.pre
  have hown : s.vm.findClass RX4 = some m.cls := findClass_of_methodNamed B.named
  have hlocks := B.notSynchronized
  have hS : va_S (dkA z) s.heap s.heap [] := va_S.rf
  have hF : dkF [(t0 + 2, t0 + 2, 0, 4)] I0 I0 := dkF_rf _ _
  have hl := lv_entry ([.ref (z + t0), .int p0, .int p1, .int p2]) (n := 4) (Nat.le_of_ble_eq_true rfl)
  have hgo : entryFrame m args 4 = entryFrame m ([.ref (z + t0), .int p0, .int p1, .int p2] : List Value).toArray 4 := by rw [ha]
  rw [hgo, lg_entry_eq]
  generalize (lg_sl ([.ref (z + t0), .int p0, .int p1, .int p2]) ++ List.replicate (4 - (lg_sl ([.ref (z + t0), .int p0, .int p1, .int p2])).length) Slot.unset).toArray = ls at hl ⊢
  have hl : lv_has ls 4 [(0, .ref (z + t0)), (1, .int p0), (2, .int p1), (3, .int p2)] := hl
  refine lv_iload_n hx hb dX4_take_0 rfl (lv_at hl 1 rfl) ?_
  by_cases c1 : p0 = 2
  ·
    have qc1 : p0.toInt = 2 := by rw [c1]; rfl
    have d2 : dkN [(2, 2)] p0 := dkN_lit (2) qc1
    refine lv_tableIn (tgt := 56) hx hb dX4_take_1 (by rw [qc1]; decide) (by rw [qc1]; decide) (by rw [qc1]; rfl) (by decide) ?_
    refine lv_aload_n hx hb dX4_take_56 rfl (lv_at hl 0 rfl) ?_
    refine dk_get (k := t0) hx hb hts iX4_take_4 hown hK (dk_aT0 ht0 hW) rfl 6 (by decide) (hts (.fieldLink RX4 15 "DogKings$Town" "smell" "[I") (List.mem_of_getElem? (i := 3) rfl)) rfl dX4_take_57 ?_
    refine lv_iload_n hx hb dX4_take_60 rfl (lv_at hl 2 rfl) ?_
    refine lv_iload_n hx hb dX4_take_61 rfl (lv_at hl 3 rfl) ?_
    refine dk_ist (k := (t0 + 2)) hx hb hK hW (fun _ => dkC_T g z ht0 (c := 2) (by decide) _) (by have := dkT_lt ht0; omega) hS (dkN_in (n := 5) dp1 rfl) dX4_take_62 (fun I3 H3 L3 eI3 hW hS => ?_)
    have hO := dkO_setT hO ht0 (c := 2) (by decide) eI3 (dkN_sub dp2 rfl)
    have hF := dkF_set hF eI3 (dkIn_atv (i := 0) rfl (Nat.le_refl _) (Nat.le_refl _) dp1 rfl)
    refine lv_goto (tgt := 86) hx hb dX4_take_63 (by decide) ?_
    exact W.vret hx hb hr (fun t ht hW9 => ⟨⟨I3, rfl, ⟨hF, hO, trivial⟩, dkW_eq ht hW⟩, hS.F ht⟩) hS.2.2 dX4_take_86
  ·
    exact (dkN_nil (show dkN [] p0 from dkN_ne1 (2) dp0 (dkN_lit (x := 2) (2) rfl) (dk_ne c1) rfl)).elim
set_option maxHeartbeats 4000000 in
set_option maxRecDepth 100000 in
theorem c_X3_guesses_1 (l : Launch) (g : dkG) (z : Nat) (I0 : dkI) (r0 : Nat) (hr0 : 2 ≤ r0 ∧ r0 < 10) (p0 : Int32) (p1 : Int32) (p2 : Int32) (p3 : Int32) (p4 : Int32) (dp0 : dkN [(2, 3)] p0) (dp1 : dkN [(0, 4)] p1) (dp2 : dkN [(0, 5)] p2) (dp3 : dkN [(0, 39)] p3) (dp4 : dkN [(1, 12)] p4)  (hO : dkOk I0) : Met l yX3_guesses wsX3_guesses (dkR 6) (dkPc g z [.ref (z + 325), .int p0, .int p1, .int p2, .ref (z + r0), .int p3, .int p4] I0) (dkQi g z (fun r I1 => dkF [(326, 326, 0, 4), (326, 326, 11, 11), (326, 326, 15, 17), (327, 327, 0, 4), (328, 328, 0, 4), (329, 329, 0, 4), (330, 330, 0, 4), (331, 331, 0, 4), (332, 332, 0, 4), (333, 333, 0, 5), (334, 334, 0, 5), (335, 335, 0, 5), (336, 336, 0, 8)] I0 I1 ∧ dkOk I1 ∧ ((True ∧ True)))) 0 0 (dkA z) := by
  refine Met.ofW (cc := cX3_guesses) (maxL := 9) (ret := (some .int)) (by decide) rfl ?_
  intro p e s m args below meth c s₁ B hml hv
  obtain ⟨ha, hW, hK, hT⟩ := hv
  have hx := B.exec
  have hb := B.bytes
  have hr := B.returns
  have hts := atoms_spec (ws := wsX3_guesses) B.pre
  have hown : s.vm.findClass RX3 = some m.cls := findClass_of_methodNamed B.named
  have hlocks := B.notSynchronized
  have hS : va_S (dkA z) s.heap s.heap [] := va_S.rf
  have hF : dkF [(326, 326, 0, 4), (326, 326, 11, 11), (326, 326, 15, 17), (327, 327, 0, 4), (328, 328, 0, 4), (329, 329, 0, 4), (330, 330, 0, 4), (331, 331, 0, 4), (332, 332, 0, 4), (333, 333, 0, 5), (334, 334, 0, 5), (335, 335, 0, 5), (336, 336, 0, 8)] I0 I0 := dkF_rf _ _
  have hl := lv_entry ([.ref (z + 325), .int p0, .int p1, .int p2, .ref (z + r0), .int p3, .int p4]) (n := 9) (Nat.le_of_ble_eq_true rfl)
  have hgo : entryFrame m args 9 = entryFrame m ([.ref (z + 325), .int p0, .int p1, .int p2, .ref (z + r0), .int p3, .int p4] : List Value).toArray 9 := by rw [ha]
  rw [hgo, lg_entry_eq]
  generalize (lg_sl ([.ref (z + 325), .int p0, .int p1, .int p2, .ref (z + r0), .int p3, .int p4]) ++ List.replicate (9 - (lg_sl ([.ref (z + 325), .int p0, .int p1, .int p2, .ref (z + r0), .int p3, .int p4])).length) Slot.unset).toArray = ls at hl ⊢
  have hl : lv_has ls 9 [(0, .ref (z + 325)), (1, .int p0), (2, .int p1), (3, .int p2), (4, .ref (z + r0)), (5, .int p3), (6, .int p4)] := hl
  have C9 : ∀ (n : Nat), ∀ (I : dkI) (H : Heap) (locs : List Loc) (ls : Array Slot) (x9_7 : Int32) (x9_8 : Int32), (10 - x9_8.toInt).toNat < n → dkW g z I H → va_S (dkA z) s.heap H locs → dkF [(326, 326, 0, 4), (326, 326, 11, 11), (326, 326, 15, 17), (327, 327, 0, 4), (328, 328, 0, 4), (329, 329, 0, 4), (330, 330, 0, 4), (331, 331, 0, 4), (332, 332, 0, 4), (333, 333, 0, 5), (334, 334, 0, 5), (335, 335, 0, 5), (336, 336, 0, 8)] I0 I → dkOk I → dkN [(0, 10)] x9_8 → lv_has ls 9 [(0, .ref (z + 325)), (1, .int p0), (2, .int p1), (3, .int p2), (4, .ref (z + r0)), (5, .int p3), (6, .int p4), (7, .int x9_7), (8, .int x9_8)] → W p l e (headSpec wsX3_guesses (dkR 6)).room s m args below meth c H locs 0 0 (MQ below (dkQi g z (fun r I1 => dkF [(326, 326, 0, 4), (326, 326, 11, 11), (326, 326, 15, 17), (327, 327, 0, 4), (328, 328, 0, 4), (329, 329, 0, 4), (330, 330, 0, 4), (331, 331, 0, 4), (332, 332, 0, 4), (333, 333, 0, 5), (334, 334, 0, 5), (335, 335, 0, 5), (336, 336, 0, 8)] I0 I1 ∧ dkOk I1 ∧ ((True ∧ True)))) args s 0 0 (dkA z)) (F0 m 9 ls []) := by
    intro n
    induction n with
    | zero => intro I H locs ls x9_7 x9_8 hn; exact absurd hn (Nat.not_lt_zero _)
    | succ n ih9 =>
      intro I9_ H locs ls x9_7 x9_8 hn9 hW hS hF_9 hO k9_1 hl
      have hF := hF_9
      have C64 : ∀ (I : dkI) (H : Heap) (locs : List Loc) (ls : Array Slot) (x64_7 : Int32), dkW g z I H → va_S (dkA z) s.heap H locs → dkF [(326, 326, 0, 4), (326, 326, 11, 11), (326, 326, 15, 17), (327, 327, 0, 4), (328, 328, 0, 4), (329, 329, 0, 4), (330, 330, 0, 4), (331, 331, 0, 4), (332, 332, 0, 4), (333, 333, 0, 5), (334, 334, 0, 5), (335, 335, 0, 5), (336, 336, 0, 8)] I0 I → dkOk I → dkN [(0, 9)] x9_8 → lv_has ls 9 [(0, .ref (z + 325)), (1, .int p0), (2, .int p1), (3, .int p2), (4, .ref (z + r0)), (5, .int p3), (6, .int p4), (7, .int x64_7), (8, .int x9_8)] → W p l e (headSpec wsX3_guesses (dkR 6)).room s m args below meth c H locs 0 0 (MQ below (dkQi g z (fun r I1 => dkF [(326, 326, 0, 4), (326, 326, 11, 11), (326, 326, 15, 17), (327, 327, 0, 4), (328, 328, 0, 4), (329, 329, 0, 4), (330, 330, 0, 4), (331, 331, 0, 4), (332, 332, 0, 4), (333, 333, 0, 5), (334, 334, 0, 5), (335, 335, 0, 5), (336, 336, 0, 8)] I0 I1 ∧ dkOk I1 ∧ ((True ∧ True)))) args s 0 0 (dkA z)) (F0 m 64 ls []) := by
        intro I64_ H locs ls x64_7 hW hS hF_64 hO r64_0 hl
        have hF := hF_64
        obtain ⟨v1, ev1⟩ : ∃ y : Int32, y = x9_8 + 1 := ⟨_, rfl⟩
        have dv1 : dkN [(1, 10)] v1 := by rw [ev1]; exact dkN_add r64_0 (dkN_lit (x := 1) (1) rfl) rfl
        refine lv_iinc (v := v1) (lv' := [(8, .int v1), (0, .ref (z + 325)), (1, .int p0), (2, .int p1), (3, .int p2), (4, .ref (z + r0)), (5, .int p3), (6, .int p4), (7, .int x64_7)]) hx hb dX3_guesses_64 hl (k := 8) rfl (by rw [ev1]; rfl) (by decide) rfl (fun ls hl => ?_)
        refine lv_goto (tgt := 9) hx hb dX3_guesses_67 (by decide) ?_
        exact ih9 I64_ _ _ ls x64_7 v1 (dk_near hn9 (by rw [ev1]; exact dk_inc r64_0 rfl) (dkN_lt r64_0 rfl)) hW hS hF hO (dkN_sub dv1 rfl) (lv_sub hl [1, 2, 3, 4, 5, 6, 7, 8, 0] rfl)
      refine lv_iload hx hb dX3_guesses_9 (lv_at hl 8 rfl) ?_
      refine lv_aload_n hx hb dX3_guesses_11 rfl (lv_at hl 0 rfl) ?_
      refine lv_iload_n hx hb dX3_guesses_12 rfl (lv_at hl 1 rfl) ?_
      refine dk_Vi (As := [.int p0]) (rest := [.int x9_8]) ⟨hx, hb, hml, hown, hts⟩ (c_X3_mostOf_1 l g z I9_ p0 dp0 hO) (cwV 1 hts gX3_guesses_X3_mostOf rfl rfl rfl (by decide +kernel) ⟨Nat.le_of_ble_eq_true rfl, Nat.le_of_ble_eq_true rfl⟩) (dk_at325 hW) rfl hK hT hW hS rfl hl.1 rfl (Nat.le_of_ble_eq_true rfl) dX3_guesses_13 ⟨Nat.zero_le _, Nat.zero_le _⟩ (fun v2 I2 H2 L2 hp2 hW hS => ?_)
      obtain ⟨hF2, hO, hc2⟩ := hp2
      have hF := dkF_call hF hF2 rfl
      rcases hc2 with ⟨dv2, a2_0, -⟩ | hc2
      ·
        have d3 : dkN [(3, 3)] p0 := dkN_eq1 dp0 a2_0 rfl rfl
        refine lv_icmp_gt (tgt := 70) hx hb dX3_guesses_16 (by decide) (fun c4 => ?_) (fun c4 => ?_)
        ·
          have d5 : dkN [(3, 10)] x9_8 := dkN_le2 1 dv2 k9_1 (dkc_lt c4) rfl
          refine lv_iload hx hb dX3_guesses_70 (lv_at hl 7 rfl) ?_
          exact W.iret (v := x9_7) hx hb hr (fun t ht hW9 => ⟨⟨x9_7, I2, rfl, ⟨hF, hO, ⟨trivial, trivial⟩⟩, dkW_eq ht hW⟩, hS.F ht⟩) hS.2.2 dX3_guesses_72
        ·
          have d6 : dkN [(0, 2)] x9_8 := dkN_le1 0 k9_1 dv2 (dkc_nlt c4) rfl
          refine lv_aload_n hx hb dX3_guesses_19 rfl (lv_at hl 0 rfl) ?_
          refine dk_get (k := 325) hx hb hts iX3_guesses_3 hown hK (dk_at325 hW) rfl 1 (by decide) (hts (.fieldLink RX3 12 "DogKings$Seer" "then" "LDogKings$Town;") (List.mem_of_getElem? (i := 1) rfl)) rfl dX3_guesses_20 ?_
          refine lv_aload_n hx hb dX3_guesses_23 rfl (lv_at hl 0 rfl) ?_
          refine dk_get (k := 325) hx hb hts iX3_guesses_3 hown hK (dk_at325 hW) rfl 0 (by decide) (hts (.fieldLink RX3 22 "DogKings$Seer" "now" "LDogKings$Town;") (List.mem_of_getElem? (i := 2) rfl)) rfl dX3_guesses_24 ?_
          refine dk_Vv (As := [.ref (z + 25)]) (rest := []) ⟨hx, hb, hml, hown, hts⟩ (c_X4_become_0 l g z I2 (326) (by unfold dkT; omega) (25) (by unfold dkT; omega) hO) (cwV 1 hts gX3_guesses_X4_become rfl rfl rfl (by decide +kernel) ⟨Nat.le_of_ble_eq_true rfl, Nat.le_of_ble_eq_true rfl⟩) (dk_at326 hW) rfl hK hT hW hS rfl hl.1 rfl (Nat.le_of_ble_eq_true rfl) dX3_guesses_27 ⟨Nat.zero_le _, Nat.zero_le _⟩ (fun I7 H7 L7 hp7 hW hS => ?_)
          obtain ⟨hF7, hO, hc7⟩ := hp7
          have hF := dkF_call hF hF7 rfl
          refine lv_aload_n hx hb dX3_guesses_30 rfl (lv_at hl 0 rfl) ?_
          refine dk_get (k := 325) hx hb hts iX3_guesses_3 hown hK (dk_at325 hW) rfl 1 (by decide) (hts (.fieldLink RX3 12 "DogKings$Seer" "then" "LDogKings$Town;") (List.mem_of_getElem? (i := 1) rfl)) rfl dX3_guesses_31 ?_
          refine lv_iload_n hx hb dX3_guesses_34 rfl (lv_at hl 1 rfl) ?_
          refine lv_iload_n hx hb dX3_guesses_35 rfl (lv_at hl 2 rfl) ?_
          refine lv_iload hx hb dX3_guesses_36 (lv_at hl 8 rfl) ?_
          refine dk_Vv (As := [.int p0, .int p1, .int x9_8]) (rest := []) ⟨hx, hb, hml, hown, hts⟩ (c_X4_take_1 l g z I7 (326) (by unfold dkT; omega) p0 p1 x9_8 d3 dp1 (dkN_sub d6 rfl) hO) (cwV 3 hts gX3_guesses_X4_take rfl rfl rfl (by decide +kernel) ⟨Nat.le_of_ble_eq_true rfl, Nat.le_of_ble_eq_true rfl⟩) (dk_at326 hW) rfl hK hT hW hS rfl hl.1 rfl (Nat.le_of_ble_eq_true rfl) dX3_guesses_38 ⟨Nat.zero_le _, Nat.zero_le _⟩ (fun I8 H8 L8 hp8 hW hS => ?_)
          obtain ⟨hF8, hO, hc8⟩ := hp8
          have hF := dkF_call hF hF8 rfl
          refine lv_aload_n hx hb dX3_guesses_41 rfl (lv_at hl 0 rfl) ?_
          refine lv_iload_n hx hb dX3_guesses_42 rfl (lv_at hl 3 rfl) ?_
          refine lv_aload hx hb dX3_guesses_43 (lv_at hl 4 rfl) ?_
          refine lv_iload hx hb dX3_guesses_45 (lv_at hl 5 rfl) ?_
          refine lv_iload hx hb dX3_guesses_47 (lv_at hl 6 rfl) ?_
          refine dk_Vi (As := [.int p2, .ref (z + r0), .int p3, .int p4]) (rest := []) ⟨hx, hb, hml, hown, hts⟩ (c_X3_goesAsTold_0 l g z I8 r0 hr0 p2 p3 p4 dp2 dp3 dp4 hO) (cwV 4 hts gX3_guesses_X3_goesAsTold rfl rfl rfl (by decide +kernel) ⟨Nat.le_of_ble_eq_true rfl, Nat.le_of_ble_eq_true rfl⟩) (dk_at325 hW) rfl hK hT hW hS rfl hl.1 rfl (Nat.le_of_ble_eq_true rfl) dX3_guesses_49 ⟨Nat.zero_le _, Nat.zero_le _⟩ (fun v9 I9 H9 L9 hp9 hW hS => ?_)
          obtain ⟨hF9, hO, hc9⟩ := hp9
          have hF := dkF_call hF hF9 rfl
          rcases hc9 with ⟨dv9, f9_326_3, -⟩ | hc9
          ·
            refine lv_if_eq (tgt := 64) hx hb dX3_guesses_52 (by decide) (fun c10 => ?_) (fun c10 => ?_)
            ·
              exact C64 I9 _ _ ls x9_7 hW hS hF hO (dkN_sub d6 rfl) (lv_sub hl [0, 1, 2, 3, 4, 5, 6, 7, 8] rfl)
            ·
              exact (dkN_nil (show dkN [] v9 from dkN_ne1 (0) dv9 (dkN_lit (x := 0) (0) rfl) (dk_ne c10) rfl)).elim
          ·
            obtain ⟨dv9, -⟩ := hc9
            refine lv_if_eq (tgt := 64) hx hb dX3_guesses_52 (by decide) (fun c11 => ?_) (fun c11 => ?_)
            ·
              exact (dkN_nil (show dkN [] v9 from dkN_eq1 dv9 (dkN_lit (x := 0) (0) rfl) (congrArg Int32.toInt c11) rfl)).elim
            ·
              refine lv_iload hx hb dX3_guesses_55 (lv_at hl 7 rfl) ?_
              refine lv_iconst (v := 1) hx hb dX3_guesses_57 (by decide) ?_
              refine lv_iload hx hb dX3_guesses_58 (lv_at hl 8 rfl) ?_
              refine lv_ishl hx hb dX3_guesses_60 ?_
              refine lv_topi (fun v12 ev12 => ?_)
              have dv12 : dkN [(1, 4)] v12 := by rw [ev12]; exact dkN_shl1 0 2 (by decide) d6 rfl
              refine lv_ior hx hb dX3_guesses_61 ?_
              refine lv_topi (fun v13 ev13 => ?_)
              refine lv_istore (lv' := [(7, .int v13), (0, .ref (z + 325)), (1, .int p0), (2, .int p1), (3, .int p2), (4, .ref (z + r0)), (5, .int p3), (6, .int p4), (8, .int x9_8)]) hx hb dX3_guesses_62 hl (by decide) rfl (fun ls hl => ?_)
              exact C64 I9 _ _ ls v13 hW hS hF hO (dkN_sub d6 rfl) (lv_sub hl [1, 2, 3, 4, 5, 6, 7, 0, 8] rfl)
      ·
        obtain ⟨dv2, a2_0, -⟩ := hc2
        have d14 : dkN [(2, 2)] p0 := dkN_eq1 dp0 a2_0 rfl rfl
        refine lv_icmp_gt (tgt := 70) hx hb dX3_guesses_16 (by decide) (fun c15 => ?_) (fun c15 => ?_)
        ·
          have d16 : dkN [(10, 10)] x9_8 := dkN_le2 1 dv2 k9_1 (dkc_lt c15) rfl
          refine lv_iload hx hb dX3_guesses_70 (lv_at hl 7 rfl) ?_
          exact W.iret (v := x9_7) hx hb hr (fun t ht hW9 => ⟨⟨x9_7, I2, rfl, ⟨hF, hO, ⟨trivial, trivial⟩⟩, dkW_eq ht hW⟩, hS.F ht⟩) hS.2.2 dX3_guesses_72
        ·
          have d17 : dkN [(0, 9)] x9_8 := dkN_le1 0 k9_1 dv2 (dkc_nlt c15) rfl
          refine lv_aload_n hx hb dX3_guesses_19 rfl (lv_at hl 0 rfl) ?_
          refine dk_get (k := 325) hx hb hts iX3_guesses_3 hown hK (dk_at325 hW) rfl 1 (by decide) (hts (.fieldLink RX3 12 "DogKings$Seer" "then" "LDogKings$Town;") (List.mem_of_getElem? (i := 1) rfl)) rfl dX3_guesses_20 ?_
          refine lv_aload_n hx hb dX3_guesses_23 rfl (lv_at hl 0 rfl) ?_
          refine dk_get (k := 325) hx hb hts iX3_guesses_3 hown hK (dk_at325 hW) rfl 0 (by decide) (hts (.fieldLink RX3 22 "DogKings$Seer" "now" "LDogKings$Town;") (List.mem_of_getElem? (i := 2) rfl)) rfl dX3_guesses_24 ?_
          refine dk_Vv (As := [.ref (z + 25)]) (rest := []) ⟨hx, hb, hml, hown, hts⟩ (c_X4_become_0 l g z I2 (326) (by unfold dkT; omega) (25) (by unfold dkT; omega) hO) (cwV 1 hts gX3_guesses_X4_become rfl rfl rfl (by decide +kernel) ⟨Nat.le_of_ble_eq_true rfl, Nat.le_of_ble_eq_true rfl⟩) (dk_at326 hW) rfl hK hT hW hS rfl hl.1 rfl (Nat.le_of_ble_eq_true rfl) dX3_guesses_27 ⟨Nat.zero_le _, Nat.zero_le _⟩ (fun I18 H18 L18 hp18 hW hS => ?_)
          obtain ⟨hF18, hO, hc18⟩ := hp18
          have hF := dkF_call hF hF18 rfl
          refine lv_aload_n hx hb dX3_guesses_30 rfl (lv_at hl 0 rfl) ?_
          refine dk_get (k := 325) hx hb hts iX3_guesses_3 hown hK (dk_at325 hW) rfl 1 (by decide) (hts (.fieldLink RX3 12 "DogKings$Seer" "then" "LDogKings$Town;") (List.mem_of_getElem? (i := 1) rfl)) rfl dX3_guesses_31 ?_
          refine lv_iload_n hx hb dX3_guesses_34 rfl (lv_at hl 1 rfl) ?_
          refine lv_iload_n hx hb dX3_guesses_35 rfl (lv_at hl 2 rfl) ?_
          refine lv_iload hx hb dX3_guesses_36 (lv_at hl 8 rfl) ?_
          refine dk_Vv (As := [.int p0, .int p1, .int x9_8]) (rest := []) ⟨hx, hb, hml, hown, hts⟩ (c_X4_take_3 l g z I18 (326) (by unfold dkT; omega) p0 p1 x9_8 d14 dp1 d17 hO) (cwV 3 hts gX3_guesses_X4_take rfl rfl rfl (by decide +kernel) ⟨Nat.le_of_ble_eq_true rfl, Nat.le_of_ble_eq_true rfl⟩) (dk_at326 hW) rfl hK hT hW hS rfl hl.1 rfl (Nat.le_of_ble_eq_true rfl) dX3_guesses_38 ⟨Nat.zero_le _, Nat.zero_le _⟩ (fun I19 H19 L19 hp19 hW hS => ?_)
          obtain ⟨hF19, hO, hc19⟩ := hp19
          have hF := dkF_call hF hF19 rfl
          refine lv_aload_n hx hb dX3_guesses_41 rfl (lv_at hl 0 rfl) ?_
          refine lv_iload_n hx hb dX3_guesses_42 rfl (lv_at hl 3 rfl) ?_
          refine lv_aload hx hb dX3_guesses_43 (lv_at hl 4 rfl) ?_
          refine lv_iload hx hb dX3_guesses_45 (lv_at hl 5 rfl) ?_
          refine lv_iload hx hb dX3_guesses_47 (lv_at hl 6 rfl) ?_
          refine dk_Vi (As := [.int p2, .ref (z + r0), .int p3, .int p4]) (rest := []) ⟨hx, hb, hml, hown, hts⟩ (c_X3_goesAsTold_0 l g z I19 r0 hr0 p2 p3 p4 dp2 dp3 dp4 hO) (cwV 4 hts gX3_guesses_X3_goesAsTold rfl rfl rfl (by decide +kernel) ⟨Nat.le_of_ble_eq_true rfl, Nat.le_of_ble_eq_true rfl⟩) (dk_at325 hW) rfl hK hT hW hS rfl hl.1 rfl (Nat.le_of_ble_eq_true rfl) dX3_guesses_49 ⟨Nat.zero_le _, Nat.zero_le _⟩ (fun v20 I20 H20 L20 hp20 hW hS => ?_)
          obtain ⟨hF20, hO, hc20⟩ := hp20
          have hF := dkF_call hF hF20 rfl
          rcases hc20 with ⟨dv20, f20_326_3, -⟩ | hc20
          ·
            refine lv_if_eq (tgt := 64) hx hb dX3_guesses_52 (by decide) (fun c21 => ?_) (fun c21 => ?_)
            ·
              exact C64 I20 _ _ ls x9_7 hW hS hF hO (dkN_sub d17 rfl) (lv_sub hl [0, 1, 2, 3, 4, 5, 6, 7, 8] rfl)
            ·
              exact (dkN_nil (show dkN [] v20 from dkN_ne1 (0) dv20 (dkN_lit (x := 0) (0) rfl) (dk_ne c21) rfl)).elim
          ·
            obtain ⟨dv20, -⟩ := hc20
            refine lv_if_eq (tgt := 64) hx hb dX3_guesses_52 (by decide) (fun c22 => ?_) (fun c22 => ?_)
            ·
              exact (dkN_nil (show dkN [] v20 from dkN_eq1 dv20 (dkN_lit (x := 0) (0) rfl) (congrArg Int32.toInt c22) rfl)).elim
            ·
              refine lv_iload hx hb dX3_guesses_55 (lv_at hl 7 rfl) ?_
              refine lv_iconst (v := 1) hx hb dX3_guesses_57 (by decide) ?_
              refine lv_iload hx hb dX3_guesses_58 (lv_at hl 8 rfl) ?_
              refine lv_ishl hx hb dX3_guesses_60 ?_
              refine lv_topi (fun v23 ev23 => ?_)
              have dv23 : dkN [(1, 512)] v23 := by rw [ev23]; exact dkN_shl1 0 9 (by decide) d17 rfl
              refine lv_ior hx hb dX3_guesses_61 ?_
              refine lv_topi (fun v24 ev24 => ?_)
              refine lv_istore (lv' := [(7, .int v24), (0, .ref (z + 325)), (1, .int p0), (2, .int p1), (3, .int p2), (4, .ref (z + r0)), (5, .int p3), (6, .int p4), (8, .int x9_8)]) hx hb dX3_guesses_62 hl (by decide) rfl (fun ls hl => ?_)
              exact C64 I20 _ _ ls v24 hW hS hF hO (dkN_sub d17 rfl) (lv_sub hl [1, 2, 3, 4, 5, 6, 7, 0, 8] rfl)
  refine lv_iconst (v := 0) hx hb dX3_guesses_0 (by decide) ?_
  refine lv_istore (lv' := [(7, .int 0), (0, .ref (z + 325)), (1, .int p0), (2, .int p1), (3, .int p2), (4, .ref (z + r0)), (5, .int p3), (6, .int p4)]) hx hb dX3_guesses_1 hl (by decide) rfl (fun ls hl => ?_)
  refine lv_iload_n hx hb dX3_guesses_3 rfl (lv_at hl 2 rfl) ?_
  refine dk_Si (As := [.int p0]) (rest := []) ⟨hx, hb, hml, hown, hts⟩ (c_X3_leastOf_1 l g z I0 p0 dp0 hO) (va_cwS 1 hts gX3_guesses_X3_leastOf rfl rfl rfl (by decide +kernel) ⟨Nat.le_of_ble_eq_true rfl, Nat.le_of_ble_eq_true rfl⟩) hK hT hW hS rfl hl.1 rfl (Nat.le_of_ble_eq_true rfl) dX3_guesses_4 ⟨Nat.zero_le _, Nat.zero_le _⟩ (fun v25 I25 H25 L25 hp25 hW hS => ?_)
  obtain ⟨hF25, hO, hc25⟩ := hp25
  have hF := dkF_call hF hF25 rfl
  obtain ⟨dv25, -⟩ := hc25
  refine lv_istore (lv' := [(8, .int v25), (7, .int 0), (0, .ref (z + 325)), (1, .int p0), (2, .int p1), (3, .int p2), (4, .ref (z + r0)), (5, .int p3), (6, .int p4)]) hx hb dX3_guesses_7 hl (by decide) rfl (fun ls hl => ?_)
  exact C9 _ I25 _ _ ls 0 v25 (Nat.lt_succ_self _) hW hS hF hO (dkN_sub dv25 rfl) (lv_sub hl [2, 3, 4, 5, 6, 7, 8, 1, 0] rfl)
set_option maxHeartbeats 4000000 in
set_option maxRecDepth 100000 in
theorem c_X5_suits_0 (l : Launch) (g : dkG) (z : Nat) (I0 : dkI) (p0 : Int32) (p1 : Int32) (p2 : Int32) (p3 : Int32) (p4 : Int32) (p5 : Int32)  (hO : dkOk I0) : Met l yX5_suits wsX5_suits (dkR 7) (dkPc g z [.ref (z + 0), .int p0, .int p1, .int p2, .int p3, .int p4, .int p5] I0) (dkQi g z (fun r I1 => dkF [(0, 0, 3, 3), (326, 326, 0, 4), (326, 326, 11, 11), (326, 326, 15, 17), (327, 327, 0, 4), (328, 328, 0, 4), (329, 329, 0, 4), (330, 330, 0, 4), (331, 331, 0, 4), (332, 332, 0, 4), (333, 333, 0, 5), (334, 334, 0, 5), (335, 335, 0, 5), (336, 336, 0, 8)] I0 I1 ∧ dkOk I1 ∧ ((True ∧ True)))) 0 0 (dkA z) := by
  refine Met.ofW (cc := cX5_suits) (maxL := 8) (ret := (some .int)) (by decide) rfl ?_
  intro p e s m args below meth c s₁ B hml hv
  obtain ⟨ha, hW, hK, hT⟩ := hv
  have hx := B.exec
  have hb := B.bytes
  have hr := B.returns
  have hts := atoms_spec (ws := wsX5_suits) B.pre
  have hown : s.vm.findClass RX5 = some m.cls := findClass_of_methodNamed B.named
  have hlocks := B.notSynchronized
  have hS : va_S (dkA z) s.heap s.heap [] := va_S.rf
  have hF : dkF [(0, 0, 3, 3), (326, 326, 0, 4), (326, 326, 11, 11), (326, 326, 15, 17), (327, 327, 0, 4), (328, 328, 0, 4), (329, 329, 0, 4), (330, 330, 0, 4), (331, 331, 0, 4), (332, 332, 0, 4), (333, 333, 0, 5), (334, 334, 0, 5), (335, 335, 0, 5), (336, 336, 0, 8)] I0 I0 := dkF_rf _ _
  have hl := lv_entry ([.ref (z + 0), .int p0, .int p1, .int p2, .int p3, .int p4, .int p5]) (n := 8) (Nat.le_of_ble_eq_true rfl)
  have hgo : entryFrame m args 8 = entryFrame m ([.ref (z + 0), .int p0, .int p1, .int p2, .int p3, .int p4, .int p5] : List Value).toArray 8 := by rw [ha]
  rw [hgo, lg_entry_eq]
  generalize (lg_sl ([.ref (z + 0), .int p0, .int p1, .int p2, .int p3, .int p4, .int p5]) ++ List.replicate (8 - (lg_sl ([.ref (z + 0), .int p0, .int p1, .int p2, .int p3, .int p4, .int p5])).length) Slot.unset).toArray = ls at hl ⊢
  have hl : lv_has ls 8 [(0, .ref (z + 0)), (1, .int p0), (2, .int p1), (3, .int p2), (4, .int p3), (5, .int p4), (6, .int p5)] := hl
  have C86 : ∀ (I : dkI) (H : Heap) (locs : List Loc) (ls : Array Slot) (x86_7 : Int32) (x86_s0 : Int32), dkW g z I H → va_S (dkA z) s.heap H locs → dkF [(0, 0, 3, 3), (326, 326, 0, 4), (326, 326, 11, 11), (326, 326, 15, 17), (327, 327, 0, 4), (328, 328, 0, 4), (329, 329, 0, 4), (330, 330, 0, 4), (331, 331, 0, 4), (332, 332, 0, 4), (333, 333, 0, 5), (334, 334, 0, 5), (335, 335, 0, 5), (336, 336, 0, 8)] I0 I → dkOk I → dkN [(0, 0)] x86_7 → dkN [(2, 3)] x86_s0 → dkN [(0, 4)] p0 → dkN [(0, 5)] p1 → dkN [(0, 7)] p2 → dkN [(0, 39)] p3 → dkN [(1, 12)] p4 → dkN [(0, 1)] p5 → dkN [(1, 6)] (I 25 11) → dkN [(1, 5)] (I 25 4) → lv_has ls 8 [(0, .ref (z + 0)), (1, .int p0), (2, .int p1), (3, .int p2), (4, .int p3), (5, .int p4), (6, .int p5), (7, .int x86_7)] → W p l e (headSpec wsX5_suits (dkR 7)).room s m args below meth c H locs 0 0 (MQ below (dkQi g z (fun r I1 => dkF [(0, 0, 3, 3), (326, 326, 0, 4), (326, 326, 11, 11), (326, 326, 15, 17), (327, 327, 0, 4), (328, 328, 0, 4), (329, 329, 0, 4), (330, 330, 0, 4), (331, 331, 0, 4), (332, 332, 0, 4), (333, 333, 0, 5), (334, 334, 0, 5), (335, 335, 0, 5), (336, 336, 0, 8)] I0 I1 ∧ dkOk I1 ∧ ((True ∧ True)))) args s 0 0 (dkA z)) (F0 m 86 ls [.int x86_s0, .ref (z + 325), .ref (z + 0)]) := by
    intro I86_ H locs ls x86_7 x86_s0 hW hS hF_86 hO k86_0 k86_1 r86_0 r86_1 r86_2 r86_3 r86_4 r86_5 f86_0 f86_1 hl
    have hF := hF_86
    refine lv_iload_n hx hb dX5_suits_86 rfl (lv_at hl 1 rfl) ?_
    refine lv_iload_n hx hb dX5_suits_87 rfl (lv_at hl 2 rfl) ?_
    refine lv_aload_n hx hb dX5_suits_88 rfl (lv_at hl 0 rfl) ?_
    refine dk_get (k := 0) hx hb hts iX5_suits_5 hown hK (dk_at0 hW) rfl 0 (by decide) (hts (.fieldLink RX5 11 "DogKings" "items" "[[I") (List.mem_of_getElem? (i := 3) rfl)) rfl dX5_suits_89 ?_
    refine lv_iload_n hx hb dX5_suits_92 rfl (lv_at hl 3 rfl) ?_
    obtain ⟨rf1, hrf1, erf1⟩ := dk_rowAt (z := z) (dkN_in (n := 8) r86_2 rfl)
    refine dk_rld (r := z + rf1) hx hb hK (dk_at1 hW) (dkN_in (n := 8) r86_2 rfl) erf1 dX5_suits_93 ?_
    refine lv_iload hx hb dX5_suits_94 (lv_at hl 4 rfl) ?_
    refine lv_iload hx hb dX5_suits_96 (lv_at hl 5 rfl) ?_
    refine dk_Vi (As := [.int x86_s0, .int p0, .int p1, .ref (z + rf1), .int p3, .int p4]) (rest := [.ref (z + 0)]) ⟨hx, hb, hml, hown, hts⟩ (c_X3_guesses_1 l g z I86_ rf1 hrf1 x86_s0 p0 p1 p3 p4 k86_1 r86_0 r86_1 r86_3 r86_4 hO) (cwV 6 hts gX5_suits_X3_guesses rfl rfl rfl (by decide +kernel) ⟨Nat.le_of_ble_eq_true rfl, Nat.le_of_ble_eq_true rfl⟩) (dk_at325 hW) rfl hK hT hW hS rfl hl.1 rfl (Nat.le_of_ble_eq_true rfl) dX5_suits_98 ⟨Nat.zero_le _, Nat.zero_le _⟩ (fun v2 I2 H2 L2 hp2 hW hS => ?_)
    obtain ⟨hF2, hO, hc2⟩ := hp2
    have hF := dkF_call hF hF2 rfl
    obtain ⟨_, -⟩ := hc2
    refine dk_Vi (As := [.int v2]) (rest := []) ⟨hx, hb, hml, hown, hts⟩ (c_X5_nothingFound_0 l g z I2 v2 hO) (cwV 1 hts gX5_suits_X5_nothingFound rfl rfl rfl (by decide +kernel) ⟨Nat.le_of_ble_eq_true rfl, Nat.le_of_ble_eq_true rfl⟩) (dk_at0 hW) rfl hK hT hW hS rfl hl.1 rfl (Nat.le_of_ble_eq_true rfl) dX5_suits_101 ⟨Nat.zero_le _, Nat.zero_le _⟩ (fun v3 I3 H3 L3 hp3 hW hS => ?_)
    obtain ⟨hF3, hO, ev3, hc3⟩ := hp3
    have hF := dkF_call hF hF3 rfl
    obtain ⟨_, f3_0_3, -⟩ := hc3
    rw [ev3]
    exact W.iret (v := v2) hx hb hr (fun t ht hW9 => ⟨⟨v2, I3, rfl, ⟨hF, hO, ⟨trivial, trivial⟩⟩, dkW_eq ht hW⟩, hS.F ht⟩) hS.2.2 dX5_suits_104
  refine lv_aload_n hx hb dX5_suits_0 rfl (lv_at hl 0 rfl) ?_
  refine lv_iload_n hx hb dX5_suits_1 rfl (lv_at hl 1 rfl) ?_
  refine dk_Vi (As := [.int p0]) (rest := []) ⟨hx, hb, hml, hown, hts⟩ (c_X5_isPerson_0 l g z I0 p0 hO) (cwV 1 hts gX5_suits_X5_isPerson rfl rfl rfl (by decide +kernel) ⟨Nat.le_of_ble_eq_true rfl, Nat.le_of_ble_eq_true rfl⟩) (dk_at0 hW) rfl hK hT hW hS rfl hl.1 rfl (Nat.le_of_ble_eq_true rfl) dX5_suits_2 ⟨Nat.zero_le _, Nat.zero_le _⟩ (fun v4 I4 H4 L4 hp4 hW hS => ?_)
  obtain ⟨hF4, hO, hc4⟩ := hp4
  have hF := dkF_call hF hF4 rfl
  rcases hc4 with ⟨dv4, -⟩ | hc4
  ·
    refine lv_if_eq (tgt := 45) hx hb dX5_suits_5 (by decide) (fun c5 => ?_) (fun c5 => ?_)
    ·
      refine lv_ldc (v := (-1000001)) hx hb hown (hts (.constant RX5 70 (-1000001)) (List.mem_of_getElem? (i := 1) rfl)) dX5_suits_45 ?_
      exact W.iret (v := (-1000001)) hx hb hr (fun t ht hW9 => ⟨⟨(-1000001), I4, rfl, ⟨hF, hO, ⟨trivial, trivial⟩⟩, dkW_eq ht hW⟩, hS.F ht⟩) hS.2.2 dX5_suits_47
    ·
      exact (dkN_nil (show dkN [] v4 from dkN_ne1 (0) dv4 (dkN_lit (x := 0) (0) rfl) (dk_ne c5) rfl)).elim
  ·
    obtain ⟨dv4, a4_0, f4_25_4, -⟩ := hc4
    have d6 : dkN [(0, 4)] p0 := dkN_eq1 (dkN_top p0) a4_0 rfl rfl
    refine lv_if_eq (tgt := 45) hx hb dX5_suits_5 (by decide) (fun c7 => ?_) (fun c7 => ?_)
    ·
      exact (dkN_nil (show dkN [] v4 from dkN_eq1 dv4 (dkN_lit (x := 0) (0) rfl) (congrArg Int32.toInt c7) rfl)).elim
    ·
      refine lv_aload_n hx hb dX5_suits_8 rfl (lv_at hl 0 rfl) ?_
      refine lv_iload_n hx hb dX5_suits_9 rfl (lv_at hl 2 rfl) ?_
      refine dk_Vi (As := [.int p1]) (rest := []) ⟨hx, hb, hml, hown, hts⟩ (c_X5_isDog_0 l g z I4 p1 hO) (cwV 1 hts gX5_suits_X5_isDog rfl rfl rfl (by decide +kernel) ⟨Nat.le_of_ble_eq_true rfl, Nat.le_of_ble_eq_true rfl⟩) (dk_at0 hW) rfl hK hT hW hS rfl hl.1 rfl (Nat.le_of_ble_eq_true rfl) dX5_suits_10 ⟨Nat.zero_le _, Nat.zero_le _⟩ (fun v8 I8 H8 L8 hp8 hW hS => ?_)
      obtain ⟨hF8, hO, hc8⟩ := hp8
      have hF := dkF_call hF hF8 rfl
      rcases hc8 with ⟨dv8, -⟩ | hc8
      ·
        refine lv_if_eq (tgt := 45) hx hb dX5_suits_13 (by decide) (fun c9 => ?_) (fun c9 => ?_)
        ·
          refine lv_ldc (v := (-1000001)) hx hb hown (hts (.constant RX5 70 (-1000001)) (List.mem_of_getElem? (i := 1) rfl)) dX5_suits_45 ?_
          exact W.iret (v := (-1000001)) hx hb hr (fun t ht hW9 => ⟨⟨(-1000001), I8, rfl, ⟨hF, hO, ⟨trivial, trivial⟩⟩, dkW_eq ht hW⟩, hS.F ht⟩) hS.2.2 dX5_suits_47
        ·
          exact (dkN_nil (show dkN [] v8 from dkN_ne1 (0) dv8 (dkN_lit (x := 0) (0) rfl) (dk_ne c9) rfl)).elim
      ·
        obtain ⟨dv8, a8_0, f8_25_11, -⟩ := hc8
        have d10 : dkN [(0, 5)] p1 := dkN_eq1 (dkN_top p1) a8_0 rfl rfl
        refine lv_if_eq (tgt := 45) hx hb dX5_suits_13 (by decide) (fun c11 => ?_) (fun c11 => ?_)
        ·
          exact (dkN_nil (show dkN [] v8 from dkN_eq1 dv8 (dkN_lit (x := 0) (0) rfl) (congrArg Int32.toInt c11) rfl)).elim
        ·
          refine lv_iload_n hx hb dX5_suits_16 rfl (lv_at hl 3 rfl) ?_
          refine dk_Si (As := [.int p2]) (rest := []) ⟨hx, hb, hml, hown, hts⟩ (c_X5_isRow_0 l g z I8 p2 hO) (va_cwS 1 hts gX5_suits_X5_isRow rfl rfl rfl (by decide +kernel) ⟨Nat.le_of_ble_eq_true rfl, Nat.le_of_ble_eq_true rfl⟩) hK hT hW hS rfl hl.1 rfl (Nat.le_of_ble_eq_true rfl) dX5_suits_17 ⟨Nat.zero_le _, Nat.zero_le _⟩ (fun v12 I12 H12 L12 hp12 hW hS => ?_)
          obtain ⟨hF12, hO, hc12⟩ := hp12
          have hF := dkF_call hF hF12 rfl
          rcases hc12 with ⟨dv12, a12_0, -⟩ | hc12
          ·
            have d13 : dkN [(-2147483648, -1), (8, 2147483647)] p2 := dkN_eq1 (dkN_top p2) a12_0 rfl rfl
            refine lv_if_eq (tgt := 45) hx hb dX5_suits_20 (by decide) (fun c14 => ?_) (fun c14 => ?_)
            ·
              refine lv_ldc (v := (-1000001)) hx hb hown (hts (.constant RX5 70 (-1000001)) (List.mem_of_getElem? (i := 1) rfl)) dX5_suits_45 ?_
              exact W.iret (v := (-1000001)) hx hb hr (fun t ht hW9 => ⟨⟨(-1000001), I12, rfl, ⟨hF, hO, ⟨trivial, trivial⟩⟩, dkW_eq ht hW⟩, hS.F ht⟩) hS.2.2 dX5_suits_47
            ·
              exact (dkN_nil (show dkN [] v12 from dkN_ne1 (0) dv12 (dkN_lit (x := 0) (0) rfl) (dk_ne c14) rfl)).elim
          ·
            obtain ⟨dv12, a12_0, -⟩ := hc12
            have d15 : dkN [(0, 7)] p2 := dkN_eq1 (dkN_top p2) a12_0 rfl rfl
            refine lv_if_eq (tgt := 45) hx hb dX5_suits_20 (by decide) (fun c16 => ?_) (fun c16 => ?_)
            ·
              exact (dkN_nil (show dkN [] v12 from dkN_eq1 dv12 (dkN_lit (x := 0) (0) rfl) (congrArg Int32.toInt c16) rfl)).elim
            ·
              refine lv_iload hx hb dX5_suits_23 (lv_at hl 5 rfl) ?_
              refine lv_iconst (v := 1) hx hb dX5_suits_25 (by decide) ?_
              refine lv_icmp_lt (tgt := 45) hx hb dX5_suits_26 (by decide) (fun c17 => ?_) (fun c17 => ?_)
              ·
                have d18 : dkN [(-2147483648, 0)] p4 := dkN_le1 1 (dkN_top p4) (dkN_lit (x := 1) (1) rfl) (dkc_lt c17) rfl
                refine lv_ldc (v := (-1000001)) hx hb hown (hts (.constant RX5 70 (-1000001)) (List.mem_of_getElem? (i := 1) rfl)) dX5_suits_45 ?_
                exact W.iret (v := (-1000001)) hx hb hr (fun t ht hW9 => ⟨⟨(-1000001), I12, rfl, ⟨hF, hO, ⟨trivial, trivial⟩⟩, dkW_eq ht hW⟩, hS.F ht⟩) hS.2.2 dX5_suits_47
              ·
                have d19 : dkN [(1, 2147483647)] p4 := dkN_le2 0 (dkN_lit (x := 1) (1) rfl) (dkN_top p4) (dkc_nlt c17) rfl
                refine lv_iload hx hb dX5_suits_29 (lv_at hl 5 rfl) ?_
                refine lv_bipush (v := 12) hx hb dX5_suits_31 (by decide) ?_
                refine lv_icmp_gt (tgt := 45) hx hb dX5_suits_33 (by decide) (fun c20 => ?_) (fun c20 => ?_)
                ·
                  have d21 : dkN [(13, 2147483647)] p4 := dkN_le2 1 (dkN_lit (x := 12) (12) rfl) d19 (dkc_lt c20) rfl
                  refine lv_ldc (v := (-1000001)) hx hb hown (hts (.constant RX5 70 (-1000001)) (List.mem_of_getElem? (i := 1) rfl)) dX5_suits_45 ?_
                  exact W.iret (v := (-1000001)) hx hb hr (fun t ht hW9 => ⟨⟨(-1000001), I12, rfl, ⟨hF, hO, ⟨trivial, trivial⟩⟩, dkW_eq ht hW⟩, hS.F ht⟩) hS.2.2 dX5_suits_47
                ·
                  have d22 : dkN [(1, 12)] p4 := dkN_le1 0 d19 (dkN_lit (x := 12) (12) rfl) (dkc_nlt c20) rfl
                  refine lv_iload hx hb dX5_suits_36 (lv_at hl 6 rfl) ?_
                  refine lv_iconst (v := 1) hx hb dX5_suits_38 (by decide) ?_
                  refine dk_Si (As := [.int p5, .int 1]) (rest := []) ⟨hx, hb, hml, hown, hts⟩ (c_X5_isUpTo_5 l g z I12 p5 1 (dkN_lit (x := 1) (1) rfl) hO) (va_cwS 2 hts gX5_suits_X5_isUpTo rfl rfl rfl (by decide +kernel) ⟨Nat.le_of_ble_eq_true rfl, Nat.le_of_ble_eq_true rfl⟩) hK hT hW hS rfl hl.1 rfl (Nat.le_of_ble_eq_true rfl) dX5_suits_39 ⟨Nat.zero_le _, Nat.zero_le _⟩ (fun v23 I23 H23 L23 hp23 hW hS => ?_)
                  obtain ⟨hF23, hO, hc23⟩ := hp23
                  have hF := dkF_call hF hF23 rfl
                  rcases hc23 with ⟨dv23, a23_0, -⟩ | hc23
                  ·
                    have d24 : dkN [(-2147483648, -1), (2, 2147483647)] p5 := dkN_eq1 (dkN_top p5) a23_0 rfl rfl
                    refine lv_if_ne (tgt := 48) hx hb dX5_suits_42 (by decide) (fun c25 => ?_) (fun c25 => ?_)
                    ·
                      exact (dkN_nil (show dkN [] v23 from dkN_ne1 (0) dv23 (dkN_lit (x := 0) (0) rfl) (dk_ne c25) rfl)).elim
                    ·
                      refine lv_ldc (v := (-1000001)) hx hb hown (hts (.constant RX5 70 (-1000001)) (List.mem_of_getElem? (i := 1) rfl)) dX5_suits_45 ?_
                      exact W.iret (v := (-1000001)) hx hb hr (fun t ht hW9 => ⟨⟨(-1000001), I23, rfl, ⟨hF, hO, ⟨trivial, trivial⟩⟩, dkW_eq ht hW⟩, hS.F ht⟩) hS.2.2 dX5_suits_47
                  ·
                    obtain ⟨dv23, a23_0, -⟩ := hc23
                    have d26 : dkN [(0, 1)] p5 := dkN_eq1 (dkN_top p5) a23_0 rfl rfl
                    refine lv_if_ne (tgt := 48) hx hb dX5_suits_42 (by decide) (fun c27 => ?_) (fun c27 => ?_)
                    ·
                      refine lv_aload_n hx hb dX5_suits_48 rfl (lv_at hl 0 rfl) ?_
                      refine lv_iload_n hx hb dX5_suits_49 rfl (lv_at hl 3 rfl) ?_
                      refine lv_iload hx hb dX5_suits_50 (lv_at hl 4 rfl) ?_
                      refine lv_iload hx hb dX5_suits_52 (lv_at hl 5 rfl) ?_
                      refine dk_Vi (As := [.int p2, .int p3, .int p4]) (rest := []) ⟨hx, hb, hml, hown, hts⟩ (c_X5_troubleWith_0 l g z I23 p2 p3 p4 d15 d22 hO) (cwV 3 hts gX5_suits_X5_troubleWith rfl rfl rfl (by decide +kernel) ⟨Nat.le_of_ble_eq_true rfl, Nat.le_of_ble_eq_true rfl⟩) (dk_at0 hW) rfl hK hT hW hS rfl hl.1 rfl (Nat.le_of_ble_eq_true rfl) dX5_suits_54 ⟨Nat.zero_le _, Nat.zero_le _⟩ (fun v28 I28 H28 L28 hp28 hW hS => ?_)
                      obtain ⟨hF28, hO, hc28⟩ := hp28
                      have hF := dkF_call hF hF28 rfl
                      rcases hc28 with ⟨dv28, a28_1, -⟩ | hc28
                      ·
                        have d29 : dkN [(0, 39)] p3 := dkN_eq1 (dkN_top p3) a28_1 rfl rfl
                        refine lv_istore (lv' := [(7, .int v28), (0, .ref (z + 0)), (1, .int p0), (2, .int p1), (3, .int p2), (4, .int p3), (5, .int p4), (6, .int p5)]) hx hb dX5_suits_57 hl (by decide) rfl (fun ls hl => ?_)
                        refine lv_iload hx hb dX5_suits_59 (lv_at hl 0 rfl) ?_
                        refine lv_if_eq (tgt := 71) hx hb dX5_suits_61 (by decide) (fun c30 => ?_) (fun c30 => ?_)
                        ·
                          refine lv_aload_n hx hb dX5_suits_71 rfl (lv_at hl 1 rfl) ?_
                          refine lv_aload_n hx hb dX5_suits_72 rfl (lv_at hl 1 rfl) ?_
                          refine dk_get (k := 0) hx hb hts iX5_suits_5 hown hK (dk_at0 hW) rfl 8 (by decide) (hts (.fieldLink RX5 51 "DogKings" "seer" "LDogKings$Seer;") (List.mem_of_getElem? (i := 2) rfl)) rfl dX5_suits_73 ?_
                          refine lv_iload hx hb dX5_suits_76 (lv_at hl 7 rfl) ?_
                          refine lv_if_ne (tgt := 85) hx hb dX5_suits_78 (by decide) (fun c31 => ?_) (fun c31 => ?_)
                          ·
                            have d32 : dkN [(1, 1)] p5 := dkN_ne1 (0) d26 (dkN_lit (x := 0) (0) rfl) (dk_ne c31) rfl
                            refine lv_iconst (v := 3) hx hb dX5_suits_85 (by decide) ?_
                            exact C86 I28 _ _ ls v28 3 hW hS hF hO (dkN_sub dv28 rfl) (dkN_sub (dkN_lit (x := 3) (3) rfl) rfl) (dkN_sub d6 rfl) (dkN_sub d10 rfl) (dkN_sub d15 rfl) (dkN_sub d29 rfl) (dkN_sub d22 rfl) (dkN_sub d32 rfl) (show dkN [(1, 6)] (I28 25 11) from dkN_sub (by rw [hF28 25 11 rfl]; exact (by rw [hF23 25 11 rfl]; exact (by rw [hF12 25 11 rfl]; exact f8_25_11))) rfl) (show dkN [(1, 5)] (I28 25 4) from dkN_sub (by rw [hF28 25 4 rfl]; exact (by rw [hF23 25 4 rfl]; exact (by rw [hF12 25 4 rfl]; exact (by rw [hF8 25 4 rfl]; exact f4_25_4)))) rfl) (lv_sub hl [1, 2, 3, 4, 5, 6, 7, 0] rfl)
                          ·
                            have d33 : dkN [(0, 0)] p5 := dkN_eq1 d26 (dkN_lit (x := 0) (0) rfl) (congrArg Int32.toInt c31) rfl
                            refine lv_iconst (v := 2) hx hb dX5_suits_81 (by decide) ?_
                            refine lv_goto (tgt := 86) hx hb dX5_suits_82 (by decide) ?_
                            exact C86 I28 _ _ ls v28 2 hW hS hF hO (dkN_sub dv28 rfl) (dkN_sub (dkN_lit (x := 2) (2) rfl) rfl) (dkN_sub d6 rfl) (dkN_sub d10 rfl) (dkN_sub d15 rfl) (dkN_sub d29 rfl) (dkN_sub d22 rfl) (dkN_sub d33 rfl) (show dkN [(1, 6)] (I28 25 11) from dkN_sub (by rw [hF28 25 11 rfl]; exact (by rw [hF23 25 11 rfl]; exact (by rw [hF12 25 11 rfl]; exact f8_25_11))) rfl) (show dkN [(1, 5)] (I28 25 4) from dkN_sub (by rw [hF28 25 4 rfl]; exact (by rw [hF23 25 4 rfl]; exact (by rw [hF12 25 4 rfl]; exact (by rw [hF8 25 4 rfl]; exact f4_25_4)))) rfl) (lv_sub hl [1, 2, 3, 4, 5, 6, 7, 0] rfl)
                        ·
                          exact (dkN_nil (show dkN [] v28 from dkN_ne1 (0) dv28 (dkN_lit (x := 0) (0) rfl) (dk_ne c30) rfl)).elim
                      rcases hc28 with ⟨dv28, -⟩ | hc28
                      ·
                        refine lv_istore (lv' := [(7, .int v28), (0, .ref (z + 0)), (1, .int p0), (2, .int p1), (3, .int p2), (4, .int p3), (5, .int p4), (6, .int p5)]) hx hb dX5_suits_57 hl (by decide) rfl (fun ls hl => ?_)
                        refine lv_iload hx hb dX5_suits_59 (lv_at hl 0 rfl) ?_
                        refine lv_if_eq (tgt := 71) hx hb dX5_suits_61 (by decide) (fun c34 => ?_) (fun c34 => ?_)
                        ·
                          exact (dkN_nil (show dkN [] v28 from dkN_eq1 dv28 (dkN_lit (x := 0) (0) rfl) (congrArg Int32.toInt c34) rfl)).elim
                        ·
                          refine lv_aload_n hx hb dX5_suits_64 rfl (lv_at hl 1 rfl) ?_
                          refine lv_iload hx hb dX5_suits_65 (lv_at hl 0 rfl) ?_
                          refine dk_Vi (As := [.int v28]) (rest := []) ⟨hx, hb, hml, hown, hts⟩ (c_X5_found_1 l g z I28 v28 dv28 hO) (cwV 1 hts gX5_suits_X5_found rfl rfl rfl (by decide +kernel) ⟨Nat.le_of_ble_eq_true rfl, Nat.le_of_ble_eq_true rfl⟩) (dk_at0 hW) rfl hK hT hW hS rfl hl.1 rfl (Nat.le_of_ble_eq_true rfl) dX5_suits_67 ⟨Nat.zero_le _, Nat.zero_le _⟩ (fun v35 I35 H35 L35 hp35 hW hS => ?_)
                          obtain ⟨hF35, hO, hc35⟩ := hp35
                          have hF := dkF_call hF hF35 rfl
                          obtain ⟨dv35, f35_0_3, -⟩ := hc35
                          exact W.iret (v := v35) hx hb hr (fun t ht hW9 => ⟨⟨v35, I35, rfl, ⟨hF, hO, ⟨trivial, trivial⟩⟩, dkW_eq ht hW⟩, hS.F ht⟩) hS.2.2 dX5_suits_70
                      ·
                        obtain ⟨dv28, -⟩ := hc28
                        refine lv_istore (lv' := [(7, .int v28), (0, .ref (z + 0)), (1, .int p0), (2, .int p1), (3, .int p2), (4, .int p3), (5, .int p4), (6, .int p5)]) hx hb dX5_suits_57 hl (by decide) rfl (fun ls hl => ?_)
                        refine lv_iload hx hb dX5_suits_59 (lv_at hl 0 rfl) ?_
                        refine lv_if_eq (tgt := 71) hx hb dX5_suits_61 (by decide) (fun c36 => ?_) (fun c36 => ?_)
                        ·
                          exact (dkN_nil (show dkN [] v28 from dkN_eq1 dv28 (dkN_lit (x := 0) (0) rfl) (congrArg Int32.toInt c36) rfl)).elim
                        ·
                          refine lv_aload_n hx hb dX5_suits_64 rfl (lv_at hl 1 rfl) ?_
                          refine lv_iload hx hb dX5_suits_65 (lv_at hl 0 rfl) ?_
                          refine dk_Vi (As := [.int v28]) (rest := []) ⟨hx, hb, hml, hown, hts⟩ (c_X5_found_2 l g z I28 v28 dv28 hO) (cwV 1 hts gX5_suits_X5_found rfl rfl rfl (by decide +kernel) ⟨Nat.le_of_ble_eq_true rfl, Nat.le_of_ble_eq_true rfl⟩) (dk_at0 hW) rfl hK hT hW hS rfl hl.1 rfl (Nat.le_of_ble_eq_true rfl) dX5_suits_67 ⟨Nat.zero_le _, Nat.zero_le _⟩ (fun v37 I37 H37 L37 hp37 hW hS => ?_)
                          obtain ⟨hF37, hO, hc37⟩ := hp37
                          have hF := dkF_call hF hF37 rfl
                          obtain ⟨dv37, f37_0_3, -⟩ := hc37
                          exact W.iret (v := v37) hx hb hr (fun t ht hW9 => ⟨⟨v37, I37, rfl, ⟨hF, hO, ⟨trivial, trivial⟩⟩, dkW_eq ht hW⟩, hS.F ht⟩) hS.2.2 dX5_suits_70
                    ·
                      exact (dkN_nil (show dkN [] v23 from dkN_eq1 dv23 (dkN_lit (x := 0) (0) rfl) (congrArg Int32.toInt c27) rfl)).elim
set_option maxHeartbeats 4000000 in
set_option maxRecDepth 100000 in
theorem c_X6_seenBy_2 (l : Launch) (g : dkG) (z : Nat) (I0 : dkI) (p0 : Int32) (p1 : Int32) (p2 : Int32) (p3 : Int32) (p4 : Int32) (p5 : Int32) (dp0 : dkN [(0, 5)] p0) (dp1 : dkN [(0, 320)] p1) (dp2 : dkN [(1, 12)] p2) (dp3 : dkN [(8, 32)] p3) (dp4 : dkN [(0, 0)] p4) (dp5 : dkN [(2, 2)] p5)  (m0 : p1.toInt + p2.toInt ≤ 320) (hO : dkOk I0) : Met l yX6_seenBy wsX6_seenBy (dkR 7) (dkPc g z [.ref (z + 340), .int p0, .int p1, .int p2, .int p3, .int p4, .int p5] I0) (dkQi g z (fun r I1 => dkF [(348, 348, 0, 53)] I0 I1 ∧ dkOk I1 ∧ ((True ∧ True)))) 0 0 (dkA z) := by
  refine Met.ofW (cc := cX6_seenBy) (maxL := 9) (ret := (some .int)) (by decide) rfl ?_
  intro p e s m args below meth c s₁ B hml hv
  obtain ⟨ha, hW, hK, hT⟩ := hv
  have hx := B.exec
  have hb := B.bytes
  have hr := B.returns
  have hts := atoms_spec (ws := wsX6_seenBy) B.pre
  have hown : s.vm.findClass RX6 = some m.cls := findClass_of_methodNamed B.named
  have hlocks := B.notSynchronized
  have hS : va_S (dkA z) s.heap s.heap [] := va_S.rf
  have hF : dkF [(348, 348, 0, 53)] I0 I0 := dkF_rf _ _
  have hl := lv_entry ([.ref (z + 340), .int p0, .int p1, .int p2, .int p3, .int p4, .int p5]) (n := 9) (Nat.le_of_ble_eq_true rfl)
  have hgo : entryFrame m args 9 = entryFrame m ([.ref (z + 340), .int p0, .int p1, .int p2, .int p3, .int p4, .int p5] : List Value).toArray 9 := by rw [ha]
  rw [hgo, lg_entry_eq]
  generalize (lg_sl ([.ref (z + 340), .int p0, .int p1, .int p2, .int p3, .int p4, .int p5]) ++ List.replicate (9 - (lg_sl ([.ref (z + 340), .int p0, .int p1, .int p2, .int p3, .int p4, .int p5])).length) Slot.unset).toArray = ls at hl ⊢
  have hl : lv_has ls 9 [(0, .ref (z + 340)), (1, .int p0), (2, .int p1), (3, .int p2), (4, .int p3), (5, .int p4), (6, .int p5)] := hl
  have C7 : ∀ (n : Nat), ∀ (I : dkI) (H : Heap) (locs : List Loc) (ls : Array Slot) (x7_7 : Int32) (x7_8 : Int32), (3 - x7_8.toInt).toNat < n → dkW g z I H → va_S (dkA z) s.heap H locs → dkF [(348, 348, 0, 53)] I0 I → dkOk I → dkN [(0, 3)] x7_8 → p1.toInt + p2.toInt ≤ 320 → lv_has ls 9 [(0, .ref (z + 340)), (1, .int p0), (2, .int p1), (3, .int p2), (4, .int p3), (5, .int p4), (6, .int p5), (7, .int x7_7), (8, .int x7_8)] → W p l e (headSpec wsX6_seenBy (dkR 7)).room s m args below meth c H locs 0 0 (MQ below (dkQi g z (fun r I1 => dkF [(348, 348, 0, 53)] I0 I1 ∧ dkOk I1 ∧ ((True ∧ True)))) args s 0 0 (dkA z)) (F0 m 7 ls []) := by
    intro n
    induction n with
    | zero => intro I H locs ls x7_7 x7_8 hn; exact absurd hn (Nat.not_lt_zero _)
    | succ n ih7 =>
      intro I7_ H locs ls x7_7 x7_8 hn7 hW hS hF_7 hO k7_1 q7_0 hl
      have hF := hF_7
      have C56 : ∀ (I : dkI) (H : Heap) (locs : List Loc) (ls : Array Slot) (x56_s0 : Int32), dkW g z I H → va_S (dkA z) s.heap H locs → dkF [(348, 348, 0, 53)] I0 I → dkOk I → dkN [(0, 4)] x56_s0 → dkN [(0, 2)] x7_8 → p1.toInt + p2.toInt ≤ 320 → lv_has ls 9 [(0, .ref (z + 340)), (1, .int p0), (2, .int p1), (3, .int p2), (4, .int p3), (5, .int p4), (6, .int p5), (7, .int x7_7), (8, .int x7_8)] → W p l e (headSpec wsX6_seenBy (dkR 7)).room s m args below meth c H locs 0 0 (MQ below (dkQi g z (fun r I1 => dkF [(348, 348, 0, 53)] I0 I1 ∧ dkOk I1 ∧ ((True ∧ True)))) args s 0 0 (dkA z)) (F0 m 56 ls [.int x56_s0, .int x7_7]) := by
        intro I56_ H locs ls x56_s0 hW hS hF_56 hO k56_0 r56_0 q56_0 hl
        have hF := hF_56
        refine lv_ior hx hb dX6_seenBy_56 ?_
        refine lv_topi (fun v1 ev1 => ?_)
        refine lv_istore (lv' := [(7, .int v1), (0, .ref (z + 340)), (1, .int p0), (2, .int p1), (3, .int p2), (4, .int p3), (5, .int p4), (6, .int p5), (8, .int x7_8)]) hx hb dX6_seenBy_57 hl (by decide) rfl (fun ls hl => ?_)
        obtain ⟨v2, ev2⟩ : ∃ y : Int32, y = x7_8 + 1 := ⟨_, rfl⟩
        have dv2 : dkN [(1, 3)] v2 := by rw [ev2]; exact dkN_add r56_0 (dkN_lit (x := 1) (1) rfl) rfl
        refine lv_iinc (v := v2) (lv' := [(8, .int v2), (7, .int v1), (0, .ref (z + 340)), (1, .int p0), (2, .int p1), (3, .int p2), (4, .int p3), (5, .int p4), (6, .int p5)]) hx hb dX6_seenBy_59 hl (k := 8) rfl (by rw [ev2]; rfl) (by decide) rfl (fun ls hl => ?_)
        refine lv_goto (tgt := 7) hx hb dX6_seenBy_62 (by decide) ?_
        exact ih7 I56_ _ _ ls v1 v2 (dk_near hn7 (by rw [ev2]; exact dk_inc r56_0 rfl) (dkN_lt r56_0 rfl)) hW hS hF hO (dkN_sub dv2 rfl) q56_0 (lv_sub hl [2, 3, 4, 5, 6, 7, 8, 1, 0] rfl)
      refine lv_iload hx hb dX6_seenBy_7 (lv_at hl 8 rfl) ?_
      refine lv_iload hx hb dX6_seenBy_9 (lv_at hl 6 rfl) ?_
      refine lv_icmp_gt (tgt := 65) hx hb dX6_seenBy_11 (by decide) (fun c3 => ?_) (fun c3 => ?_)
      ·
        have d4 : dkN [(3, 3)] x7_8 := dkN_le2 1 dp5 k7_1 (dkc_lt c3) rfl
        refine lv_iload hx hb dX6_seenBy_65 (lv_at hl 7 rfl) ?_
        exact W.iret (v := x7_7) hx hb hr (fun t ht hW9 => ⟨⟨x7_7, I7_, rfl, ⟨hF, hO, ⟨trivial, trivial⟩⟩, dkW_eq ht hW⟩, hS.F ht⟩) hS.2.2 dX6_seenBy_67
      ·
        have d5 : dkN [(0, 2)] x7_8 := dkN_le1 0 k7_1 dp5 (dkc_nlt c3) rfl
        refine lv_aload_n hx hb dX6_seenBy_14 rfl (lv_at hl 0 rfl) ?_
        refine dk_get (k := 340) hx hb hts iX6_seenBy_6 hown hK (dk_at340 hW) rfl 13 (by decide) (hts (.fieldLink RX6 25 "DogKingsModel" "now" "[I") (List.mem_of_getElem? (i := 1) rfl)) rfl dX6_seenBy_15 ?_
        refine lv_iconst (v := 0) hx hb dX6_seenBy_18 (by decide) ?_
        refine lv_aload_n hx hb dX6_seenBy_19 rfl (lv_at hl 0 rfl) ?_
        refine dk_get (k := 340) hx hb hts iX6_seenBy_6 hown hK (dk_at340 hW) rfl 15 (by decide) (hts (.fieldLink RX6 31 "DogKingsModel" "tried" "[I") (List.mem_of_getElem? (i := 2) rfl)) rfl dX6_seenBy_20 ?_
        refine lv_iconst (v := 0) hx hb dX6_seenBy_23 (by decide) ?_
        refine dk_Sv (As := [.ref (z + 346), .int 0, .ref (z + 348), .int 0]) (rest := []) ⟨hx, hb, hml, hown, hts⟩ (c_X6_copies l g z I7_ (kf := 346) (kt := 348) (nf := 54) (nt := 54) 0 0 (A := 0) (B := 0) rfl rfl (by decide) (by decide) (by decide) (by decide) (by decide) (by decide) (fun _ => rfl) (fun _ => rfl)) (va_cwS 4 hts gX6_seenBy_X6_copies rfl rfl rfl (by decide +kernel) ⟨Nat.le_of_ble_eq_true rfl, Nat.le_of_ble_eq_true rfl⟩) hK hT hW hS rfl hl.1 rfl (Nat.le_of_ble_eq_true rfl) dX6_seenBy_24 ⟨Nat.zero_le _, Nat.zero_le _⟩ (fun I6 H6 L6 eI6 hW hS => ?_)
        have eI6 : I6 = dkCp I7_ 346 348 0 0 := eI6
        have hO := dkO_cp hO eI6 (by decide) (by decide) (by decide) (by decide)
        have hF := dkF_cp (lo := 0) (hi := 0) hF eI6 ⟨by decide, by decide⟩ rfl
        refine lv_aload_n hx hb dX6_seenBy_27 rfl (lv_at hl 0 rfl) ?_
        refine dk_get (k := 340) hx hb hts iX6_seenBy_6 hown hK (dk_at340 hW) rfl 15 (by decide) (hts (.fieldLink RX6 31 "DogKingsModel" "tried" "[I") (List.mem_of_getElem? (i := 2) rfl)) rfl dX6_seenBy_28 ?_
        refine lv_iload hx hb dX6_seenBy_31 (lv_at hl 4 rfl) ?_
        refine lv_iload hx hb dX6_seenBy_33 (lv_at hl 8 rfl) ?_
        refine dk_ist (k := 348) hx hb hK hW (fun _ => rfl) (by decide) hS (dkN_in (n := 54) dp3 rfl) dX6_seenBy_35 (fun I7 H7 L7 eI7 hW hS => ?_)
        have hO := dkO_set hO eI7 (by rw [dkB_w (k := 348) (B := [(-2147483648, 2147483647)]) (by decide) dp3 rfl]; exact dkN_top _)
        have hF := dkF_set hF eI7 (dkIn_v dp3 rfl)
        refine lv_iload hx hb dX6_seenBy_36 (lv_at hl 7 rfl) ?_
        refine lv_aload_n hx hb dX6_seenBy_38 rfl (lv_at hl 0 rfl) ?_
        refine lv_iload_n hx hb dX6_seenBy_39 rfl (lv_at hl 1 rfl) ?_
        refine lv_iload_n hx hb dX6_seenBy_40 rfl (lv_at hl 2 rfl) ?_
        refine lv_iload_n hx hb dX6_seenBy_41 rfl (lv_at hl 3 rfl) ?_
        refine dk_Vi (As := [.int p0, .int p1, .int p2]) (rest := [.int x7_7]) ⟨hx, hb, hml, hown, hts⟩ (c_X6_isSeen_0 l g z I7 p0 p1 p2 dp0 dp1 dp2 q7_0 hO) (cwV 3 hts gX6_seenBy_X6_isSeen rfl rfl rfl (by decide +kernel) ⟨Nat.le_of_ble_eq_true rfl, Nat.le_of_ble_eq_true rfl⟩) (dk_at340 hW) rfl hK hT hW hS rfl hl.1 rfl (Nat.le_of_ble_eq_true rfl) dX6_seenBy_42 ⟨Nat.zero_le _, Nat.zero_le _⟩ (fun v8 I8 H8 L8 hp8 hW hS => ?_)
        obtain ⟨hF8, hO, hc8⟩ := hp8
        have hF := dkF_call hF hF8 rfl
        obtain ⟨dv8, -⟩ := hc8
        refine lv_if_eq (tgt := 55) hx hb dX6_seenBy_45 (by decide) (fun c9 => ?_) (fun c9 => ?_)
        ·
          have d10 : dkN [(0, 0)] v8 := dkN_eq1 dv8 (dkN_lit (x := 0) (0) rfl) (congrArg Int32.toInt c9) rfl
          refine lv_iconst (v := 0) hx hb dX6_seenBy_55 (by decide) ?_
          exact C56 I8 _ _ ls 0 hW hS hF hO (dkN_sub (dkN_lit (x := 0) (0) rfl) rfl) (dkN_sub d5 rfl) q7_0 (lv_sub hl [0, 1, 2, 3, 4, 5, 6, 7, 8] rfl)
        ·
          have d11 : dkN [(1, 1)] v8 := dkN_ne1 (0) dv8 (dkN_lit (x := 0) (0) rfl) (dk_ne c9) rfl
          refine lv_iconst (v := 1) hx hb dX6_seenBy_48 (by decide) ?_
          refine lv_iload hx hb dX6_seenBy_49 (lv_at hl 8 rfl) ?_
          refine lv_ishl hx hb dX6_seenBy_51 ?_
          refine lv_topi (fun v12 ev12 => ?_)
          have dv12 : dkN [(1, 4)] v12 := by rw [ev12]; exact dkN_shl1 0 2 (by decide) d5 rfl
          refine lv_goto (tgt := 56) hx hb dX6_seenBy_52 (by decide) ?_
          exact C56 I8 _ _ ls v12 hW hS hF hO (dkN_sub dv12 rfl) (dkN_sub d5 rfl) q7_0 (lv_sub hl [0, 1, 2, 3, 4, 5, 6, 7, 8] rfl)
  refine lv_iconst (v := 0) hx hb dX6_seenBy_0 (by decide) ?_
  refine lv_istore (lv' := [(7, .int 0), (0, .ref (z + 340)), (1, .int p0), (2, .int p1), (3, .int p2), (4, .int p3), (5, .int p4), (6, .int p5)]) hx hb dX6_seenBy_1 hl (by decide) rfl (fun ls hl => ?_)
  refine lv_iload hx hb dX6_seenBy_3 (lv_at hl 6 rfl) ?_
  refine lv_istore (lv' := [(8, .int p4), (7, .int 0), (0, .ref (z + 340)), (1, .int p0), (2, .int p1), (3, .int p2), (4, .int p3), (5, .int p4), (6, .int p5)]) hx hb dX6_seenBy_5 hl (by decide) rfl (fun ls hl => ?_)
  exact C7 _ I0 _ _ ls 0 p4 (Nat.lt_succ_self _) hW hS hF hO (dkN_sub dp4 rfl) m0 (lv_sub hl [2, 3, 4, 5, 6, 7, 8, 1, 0] rfl)
set_option maxHeartbeats 4000000 in
set_option maxRecDepth 100000 in
theorem c_X6_seenBy_3 (l : Launch) (g : dkG) (z : Nat) (I0 : dkI) (p0 : Int32) (p1 : Int32) (p2 : Int32) (p3 : Int32) (p4 : Int32) (p5 : Int32) (dp0 : dkN [(0, 5)] p0) (dp1 : dkN [(0, 320)] p1) (dp2 : dkN [(1, 12)] p2) (dp3 : dkN [(7, 31)] p3) (dp4 : dkN [(0, 0)] p4) (dp5 : dkN [(9, 9)] p5)  (m0 : p1.toInt + p2.toInt ≤ 320) (hO : dkOk I0) : Met l yX6_seenBy wsX6_seenBy (dkR 7) (dkPc g z [.ref (z + 340), .int p0, .int p1, .int p2, .int p3, .int p4, .int p5] I0) (dkQi g z (fun r I1 => dkF [(348, 348, 0, 53)] I0 I1 ∧ dkOk I1 ∧ ((True ∧ True)))) 0 0 (dkA z) := by
  refine Met.ofW (cc := cX6_seenBy) (maxL := 9) (ret := (some .int)) (by decide) rfl ?_
  intro p e s m args below meth c s₁ B hml hv
  obtain ⟨ha, hW, hK, hT⟩ := hv
  have hx := B.exec
  have hb := B.bytes
  have hr := B.returns
  have hts := atoms_spec (ws := wsX6_seenBy) B.pre
  have hown : s.vm.findClass RX6 = some m.cls := findClass_of_methodNamed B.named
  have hlocks := B.notSynchronized
  have hS : va_S (dkA z) s.heap s.heap [] := va_S.rf
  have hF : dkF [(348, 348, 0, 53)] I0 I0 := dkF_rf _ _
  have hl := lv_entry ([.ref (z + 340), .int p0, .int p1, .int p2, .int p3, .int p4, .int p5]) (n := 9) (Nat.le_of_ble_eq_true rfl)
  have hgo : entryFrame m args 9 = entryFrame m ([.ref (z + 340), .int p0, .int p1, .int p2, .int p3, .int p4, .int p5] : List Value).toArray 9 := by rw [ha]
  rw [hgo, lg_entry_eq]
  generalize (lg_sl ([.ref (z + 340), .int p0, .int p1, .int p2, .int p3, .int p4, .int p5]) ++ List.replicate (9 - (lg_sl ([.ref (z + 340), .int p0, .int p1, .int p2, .int p3, .int p4, .int p5])).length) Slot.unset).toArray = ls at hl ⊢
  have hl : lv_has ls 9 [(0, .ref (z + 340)), (1, .int p0), (2, .int p1), (3, .int p2), (4, .int p3), (5, .int p4), (6, .int p5)] := hl
  have C7 : ∀ (n : Nat), ∀ (I : dkI) (H : Heap) (locs : List Loc) (ls : Array Slot) (x7_7 : Int32) (x7_8 : Int32), (10 - x7_8.toInt).toNat < n → dkW g z I H → va_S (dkA z) s.heap H locs → dkF [(348, 348, 0, 53)] I0 I → dkOk I → dkN [(0, 10)] x7_8 → p1.toInt + p2.toInt ≤ 320 → lv_has ls 9 [(0, .ref (z + 340)), (1, .int p0), (2, .int p1), (3, .int p2), (4, .int p3), (5, .int p4), (6, .int p5), (7, .int x7_7), (8, .int x7_8)] → W p l e (headSpec wsX6_seenBy (dkR 7)).room s m args below meth c H locs 0 0 (MQ below (dkQi g z (fun r I1 => dkF [(348, 348, 0, 53)] I0 I1 ∧ dkOk I1 ∧ ((True ∧ True)))) args s 0 0 (dkA z)) (F0 m 7 ls []) := by
    intro n
    induction n with
    | zero => intro I H locs ls x7_7 x7_8 hn; exact absurd hn (Nat.not_lt_zero _)
    | succ n ih7 =>
      intro I7_ H locs ls x7_7 x7_8 hn7 hW hS hF_7 hO k7_1 q7_0 hl
      have hF := hF_7
      have C56 : ∀ (I : dkI) (H : Heap) (locs : List Loc) (ls : Array Slot) (x56_s0 : Int32), dkW g z I H → va_S (dkA z) s.heap H locs → dkF [(348, 348, 0, 53)] I0 I → dkOk I → dkN [(0, 512)] x56_s0 → dkN [(0, 9)] x7_8 → p1.toInt + p2.toInt ≤ 320 → lv_has ls 9 [(0, .ref (z + 340)), (1, .int p0), (2, .int p1), (3, .int p2), (4, .int p3), (5, .int p4), (6, .int p5), (7, .int x7_7), (8, .int x7_8)] → W p l e (headSpec wsX6_seenBy (dkR 7)).room s m args below meth c H locs 0 0 (MQ below (dkQi g z (fun r I1 => dkF [(348, 348, 0, 53)] I0 I1 ∧ dkOk I1 ∧ ((True ∧ True)))) args s 0 0 (dkA z)) (F0 m 56 ls [.int x56_s0, .int x7_7]) := by
        intro I56_ H locs ls x56_s0 hW hS hF_56 hO k56_0 r56_0 q56_0 hl
        have hF := hF_56
        refine lv_ior hx hb dX6_seenBy_56 ?_
        refine lv_topi (fun v1 ev1 => ?_)
        refine lv_istore (lv' := [(7, .int v1), (0, .ref (z + 340)), (1, .int p0), (2, .int p1), (3, .int p2), (4, .int p3), (5, .int p4), (6, .int p5), (8, .int x7_8)]) hx hb dX6_seenBy_57 hl (by decide) rfl (fun ls hl => ?_)
        obtain ⟨v2, ev2⟩ : ∃ y : Int32, y = x7_8 + 1 := ⟨_, rfl⟩
        have dv2 : dkN [(1, 10)] v2 := by rw [ev2]; exact dkN_add r56_0 (dkN_lit (x := 1) (1) rfl) rfl
        refine lv_iinc (v := v2) (lv' := [(8, .int v2), (7, .int v1), (0, .ref (z + 340)), (1, .int p0), (2, .int p1), (3, .int p2), (4, .int p3), (5, .int p4), (6, .int p5)]) hx hb dX6_seenBy_59 hl (k := 8) rfl (by rw [ev2]; rfl) (by decide) rfl (fun ls hl => ?_)
        refine lv_goto (tgt := 7) hx hb dX6_seenBy_62 (by decide) ?_
        exact ih7 I56_ _ _ ls v1 v2 (dk_near hn7 (by rw [ev2]; exact dk_inc r56_0 rfl) (dkN_lt r56_0 rfl)) hW hS hF hO (dkN_sub dv2 rfl) q56_0 (lv_sub hl [2, 3, 4, 5, 6, 7, 8, 1, 0] rfl)
      refine lv_iload hx hb dX6_seenBy_7 (lv_at hl 8 rfl) ?_
      refine lv_iload hx hb dX6_seenBy_9 (lv_at hl 6 rfl) ?_
      refine lv_icmp_gt (tgt := 65) hx hb dX6_seenBy_11 (by decide) (fun c3 => ?_) (fun c3 => ?_)
      ·
        have d4 : dkN [(10, 10)] x7_8 := dkN_le2 1 dp5 k7_1 (dkc_lt c3) rfl
        refine lv_iload hx hb dX6_seenBy_65 (lv_at hl 7 rfl) ?_
        exact W.iret (v := x7_7) hx hb hr (fun t ht hW9 => ⟨⟨x7_7, I7_, rfl, ⟨hF, hO, ⟨trivial, trivial⟩⟩, dkW_eq ht hW⟩, hS.F ht⟩) hS.2.2 dX6_seenBy_67
      ·
        have d5 : dkN [(0, 9)] x7_8 := dkN_le1 0 k7_1 dp5 (dkc_nlt c3) rfl
        refine lv_aload_n hx hb dX6_seenBy_14 rfl (lv_at hl 0 rfl) ?_
        refine dk_get (k := 340) hx hb hts iX6_seenBy_6 hown hK (dk_at340 hW) rfl 13 (by decide) (hts (.fieldLink RX6 25 "DogKingsModel" "now" "[I") (List.mem_of_getElem? (i := 1) rfl)) rfl dX6_seenBy_15 ?_
        refine lv_iconst (v := 0) hx hb dX6_seenBy_18 (by decide) ?_
        refine lv_aload_n hx hb dX6_seenBy_19 rfl (lv_at hl 0 rfl) ?_
        refine dk_get (k := 340) hx hb hts iX6_seenBy_6 hown hK (dk_at340 hW) rfl 15 (by decide) (hts (.fieldLink RX6 31 "DogKingsModel" "tried" "[I") (List.mem_of_getElem? (i := 2) rfl)) rfl dX6_seenBy_20 ?_
        refine lv_iconst (v := 0) hx hb dX6_seenBy_23 (by decide) ?_
        refine dk_Sv (As := [.ref (z + 346), .int 0, .ref (z + 348), .int 0]) (rest := []) ⟨hx, hb, hml, hown, hts⟩ (c_X6_copies l g z I7_ (kf := 346) (kt := 348) (nf := 54) (nt := 54) 0 0 (A := 0) (B := 0) rfl rfl (by decide) (by decide) (by decide) (by decide) (by decide) (by decide) (fun _ => rfl) (fun _ => rfl)) (va_cwS 4 hts gX6_seenBy_X6_copies rfl rfl rfl (by decide +kernel) ⟨Nat.le_of_ble_eq_true rfl, Nat.le_of_ble_eq_true rfl⟩) hK hT hW hS rfl hl.1 rfl (Nat.le_of_ble_eq_true rfl) dX6_seenBy_24 ⟨Nat.zero_le _, Nat.zero_le _⟩ (fun I6 H6 L6 eI6 hW hS => ?_)
        have eI6 : I6 = dkCp I7_ 346 348 0 0 := eI6
        have hO := dkO_cp hO eI6 (by decide) (by decide) (by decide) (by decide)
        have hF := dkF_cp (lo := 0) (hi := 0) hF eI6 ⟨by decide, by decide⟩ rfl
        refine lv_aload_n hx hb dX6_seenBy_27 rfl (lv_at hl 0 rfl) ?_
        refine dk_get (k := 340) hx hb hts iX6_seenBy_6 hown hK (dk_at340 hW) rfl 15 (by decide) (hts (.fieldLink RX6 31 "DogKingsModel" "tried" "[I") (List.mem_of_getElem? (i := 2) rfl)) rfl dX6_seenBy_28 ?_
        refine lv_iload hx hb dX6_seenBy_31 (lv_at hl 4 rfl) ?_
        refine lv_iload hx hb dX6_seenBy_33 (lv_at hl 8 rfl) ?_
        refine dk_ist (k := 348) hx hb hK hW (fun _ => rfl) (by decide) hS (dkN_in (n := 54) dp3 rfl) dX6_seenBy_35 (fun I7 H7 L7 eI7 hW hS => ?_)
        have hO := dkO_set hO eI7 (by rw [dkB_w (k := 348) (B := [(-2147483648, 2147483647)]) (by decide) dp3 rfl]; exact dkN_top _)
        have hF := dkF_set hF eI7 (dkIn_v dp3 rfl)
        refine lv_iload hx hb dX6_seenBy_36 (lv_at hl 7 rfl) ?_
        refine lv_aload_n hx hb dX6_seenBy_38 rfl (lv_at hl 0 rfl) ?_
        refine lv_iload_n hx hb dX6_seenBy_39 rfl (lv_at hl 1 rfl) ?_
        refine lv_iload_n hx hb dX6_seenBy_40 rfl (lv_at hl 2 rfl) ?_
        refine lv_iload_n hx hb dX6_seenBy_41 rfl (lv_at hl 3 rfl) ?_
        refine dk_Vi (As := [.int p0, .int p1, .int p2]) (rest := [.int x7_7]) ⟨hx, hb, hml, hown, hts⟩ (c_X6_isSeen_0 l g z I7 p0 p1 p2 dp0 dp1 dp2 q7_0 hO) (cwV 3 hts gX6_seenBy_X6_isSeen rfl rfl rfl (by decide +kernel) ⟨Nat.le_of_ble_eq_true rfl, Nat.le_of_ble_eq_true rfl⟩) (dk_at340 hW) rfl hK hT hW hS rfl hl.1 rfl (Nat.le_of_ble_eq_true rfl) dX6_seenBy_42 ⟨Nat.zero_le _, Nat.zero_le _⟩ (fun v8 I8 H8 L8 hp8 hW hS => ?_)
        obtain ⟨hF8, hO, hc8⟩ := hp8
        have hF := dkF_call hF hF8 rfl
        obtain ⟨dv8, -⟩ := hc8
        refine lv_if_eq (tgt := 55) hx hb dX6_seenBy_45 (by decide) (fun c9 => ?_) (fun c9 => ?_)
        ·
          have d10 : dkN [(0, 0)] v8 := dkN_eq1 dv8 (dkN_lit (x := 0) (0) rfl) (congrArg Int32.toInt c9) rfl
          refine lv_iconst (v := 0) hx hb dX6_seenBy_55 (by decide) ?_
          exact C56 I8 _ _ ls 0 hW hS hF hO (dkN_sub (dkN_lit (x := 0) (0) rfl) rfl) (dkN_sub d5 rfl) q7_0 (lv_sub hl [0, 1, 2, 3, 4, 5, 6, 7, 8] rfl)
        ·
          have d11 : dkN [(1, 1)] v8 := dkN_ne1 (0) dv8 (dkN_lit (x := 0) (0) rfl) (dk_ne c9) rfl
          refine lv_iconst (v := 1) hx hb dX6_seenBy_48 (by decide) ?_
          refine lv_iload hx hb dX6_seenBy_49 (lv_at hl 8 rfl) ?_
          refine lv_ishl hx hb dX6_seenBy_51 ?_
          refine lv_topi (fun v12 ev12 => ?_)
          have dv12 : dkN [(1, 512)] v12 := by rw [ev12]; exact dkN_shl1 0 9 (by decide) d5 rfl
          refine lv_goto (tgt := 56) hx hb dX6_seenBy_52 (by decide) ?_
          exact C56 I8 _ _ ls v12 hW hS hF hO (dkN_sub dv12 rfl) (dkN_sub d5 rfl) q7_0 (lv_sub hl [0, 1, 2, 3, 4, 5, 6, 7, 8] rfl)
  refine lv_iconst (v := 0) hx hb dX6_seenBy_0 (by decide) ?_
  refine lv_istore (lv' := [(7, .int 0), (0, .ref (z + 340)), (1, .int p0), (2, .int p1), (3, .int p2), (4, .int p3), (5, .int p4), (6, .int p5)]) hx hb dX6_seenBy_1 hl (by decide) rfl (fun ls hl => ?_)
  refine lv_iload hx hb dX6_seenBy_3 (lv_at hl 6 rfl) ?_
  refine lv_istore (lv' := [(8, .int p4), (7, .int 0), (0, .ref (z + 340)), (1, .int p0), (2, .int p1), (3, .int p2), (4, .int p3), (5, .int p4), (6, .int p5)]) hx hb dX6_seenBy_5 hl (by decide) rfl (fun ls hl => ?_)
  exact C7 _ I0 _ _ ls 0 p4 (Nat.lt_succ_self _) hW hS hF hO (dkN_sub dp4 rfl) m0 (lv_sub hl [2, 3, 4, 5, 6, 7, 8, 1, 0] rfl)
set_option maxHeartbeats 4000000 in
set_option maxRecDepth 100000 in
theorem c_X6_suits_0 (l : Launch) (g : dkG) (z : Nat) (I0 : dkI) (p0 : Int32) (p1 : Int32) (p2 : Int32) (p3 : Int32) (p4 : Int32) (p5 : Int32)  (hO : dkOk I0) : Met l yX6_suits wsX6_suits (dkR 8) (dkPc g z [.ref (z + 340), .int p0, .int p1, .int p2, .int p3, .int p4, .int p5] I0) (dkQi g z (fun r I1 => dkF [(340, 340, 4, 4), (348, 348, 0, 53)] I0 I1 ∧ dkOk I1 ∧ ((True ∧ True)))) 0 0 (dkA z) := by
  refine Met.ofW (cc := cX6_suits) (maxL := 7) (ret := (some .int)) (by decide) rfl ?_
  intro p e s m args below meth c s₁ B hml hv
  obtain ⟨ha, hW, hK, hT⟩ := hv
  have hx := B.exec
  have hb := B.bytes
  have hr := B.returns
  have hts := atoms_spec (ws := wsX6_suits) B.pre
  have hown : s.vm.findClass RX6 = some m.cls := findClass_of_methodNamed B.named
  have hlocks := B.notSynchronized
  have hS : va_S (dkA z) s.heap s.heap [] := va_S.rf
  have hF : dkF [(340, 340, 4, 4), (348, 348, 0, 53)] I0 I0 := dkF_rf _ _
  have hl := lv_entry ([.ref (z + 340), .int p0, .int p1, .int p2, .int p3, .int p4, .int p5]) (n := 7) (Nat.le_of_ble_eq_true rfl)
  have hgo : entryFrame m args 7 = entryFrame m ([.ref (z + 340), .int p0, .int p1, .int p2, .int p3, .int p4, .int p5] : List Value).toArray 7 := by rw [ha]
  rw [hgo, lg_entry_eq]
  generalize (lg_sl ([.ref (z + 340), .int p0, .int p1, .int p2, .int p3, .int p4, .int p5]) ++ List.replicate (7 - (lg_sl ([.ref (z + 340), .int p0, .int p1, .int p2, .int p3, .int p4, .int p5])).length) Slot.unset).toArray = ls at hl ⊢
  have hl : lv_has ls 7 [(0, .ref (z + 340)), (1, .int p0), (2, .int p1), (3, .int p2), (4, .int p3), (5, .int p4), (6, .int p5)] := hl
  refine lv_aload_n hx hb dX6_suits_0 rfl (lv_at hl 0 rfl) ?_
  refine lv_iload_n hx hb dX6_suits_1 rfl (lv_at hl 1 rfl) ?_
  refine dk_Vi (As := [.int p0]) (rest := []) ⟨hx, hb, hml, hown, hts⟩ (c_X6_isPerson_0 l g z I0 p0 hO) (cwV 1 hts gX6_suits_X6_isPerson rfl rfl rfl (by decide +kernel) ⟨Nat.le_of_ble_eq_true rfl, Nat.le_of_ble_eq_true rfl⟩) (dk_at340 hW) rfl hK hT hW hS rfl hl.1 rfl (Nat.le_of_ble_eq_true rfl) dX6_suits_2 ⟨Nat.zero_le _, Nat.zero_le _⟩ (fun v1 I1 H1 L1 hp1 hW hS => ?_)
  obtain ⟨hF1, hO, hc1⟩ := hp1
  have hF := dkF_call hF hF1 rfl
  rcases hc1 with ⟨dv1, -⟩ | hc1
  ·
    refine lv_if_eq (tgt := 44) hx hb dX6_suits_5 (by decide) (fun c2 => ?_) (fun c2 => ?_)
    ·
      refine lv_ldc (v := (-1000001)) hx hb hown (hts (.constant RX6 64 (-1000001)) (List.mem_of_getElem? (i := 1) rfl)) dX6_suits_44 ?_
      exact W.iret (v := (-1000001)) hx hb hr (fun t ht hW9 => ⟨⟨(-1000001), I1, rfl, ⟨hF, hO, ⟨trivial, trivial⟩⟩, dkW_eq ht hW⟩, hS.F ht⟩) hS.2.2 dX6_suits_46
    ·
      exact (dkN_nil (show dkN [] v1 from dkN_ne1 (0) dv1 (dkN_lit (x := 0) (0) rfl) (dk_ne c2) rfl)).elim
  ·
    obtain ⟨dv1, a1_0, -⟩ := hc1
    have d3 : dkN [(0, 4)] p0 := dkN_eq1 (dkN_top p0) a1_0 rfl rfl
    refine lv_if_eq (tgt := 44) hx hb dX6_suits_5 (by decide) (fun c4 => ?_) (fun c4 => ?_)
    ·
      exact (dkN_nil (show dkN [] v1 from dkN_eq1 dv1 (dkN_lit (x := 0) (0) rfl) (congrArg Int32.toInt c4) rfl)).elim
    ·
      refine lv_aload_n hx hb dX6_suits_8 rfl (lv_at hl 0 rfl) ?_
      refine lv_iload_n hx hb dX6_suits_9 rfl (lv_at hl 2 rfl) ?_
      refine dk_Vi (As := [.int p1]) (rest := []) ⟨hx, hb, hml, hown, hts⟩ (c_X6_isDog_0 l g z I1 p1 hO) (cwV 1 hts gX6_suits_X6_isDog rfl rfl rfl (by decide +kernel) ⟨Nat.le_of_ble_eq_true rfl, Nat.le_of_ble_eq_true rfl⟩) (dk_at340 hW) rfl hK hT hW hS rfl hl.1 rfl (Nat.le_of_ble_eq_true rfl) dX6_suits_10 ⟨Nat.zero_le _, Nat.zero_le _⟩ (fun v5 I5 H5 L5 hp5 hW hS => ?_)
      obtain ⟨hF5, hO, hc5⟩ := hp5
      have hF := dkF_call hF hF5 rfl
      rcases hc5 with ⟨dv5, -⟩ | hc5
      ·
        refine lv_if_eq (tgt := 44) hx hb dX6_suits_13 (by decide) (fun c6 => ?_) (fun c6 => ?_)
        ·
          refine lv_ldc (v := (-1000001)) hx hb hown (hts (.constant RX6 64 (-1000001)) (List.mem_of_getElem? (i := 1) rfl)) dX6_suits_44 ?_
          exact W.iret (v := (-1000001)) hx hb hr (fun t ht hW9 => ⟨⟨(-1000001), I5, rfl, ⟨hF, hO, ⟨trivial, trivial⟩⟩, dkW_eq ht hW⟩, hS.F ht⟩) hS.2.2 dX6_suits_46
        ·
          exact (dkN_nil (show dkN [] v5 from dkN_ne1 (0) dv5 (dkN_lit (x := 0) (0) rfl) (dk_ne c6) rfl)).elim
      ·
        obtain ⟨dv5, a5_0, -⟩ := hc5
        have d7 : dkN [(0, 5)] p1 := dkN_eq1 (dkN_top p1) a5_0 rfl rfl
        refine lv_if_eq (tgt := 44) hx hb dX6_suits_13 (by decide) (fun c8 => ?_) (fun c8 => ?_)
        ·
          exact (dkN_nil (show dkN [] v5 from dkN_eq1 dv5 (dkN_lit (x := 0) (0) rfl) (congrArg Int32.toInt c8) rfl)).elim
        ·
          refine lv_iload_n hx hb dX6_suits_16 rfl (lv_at hl 3 rfl) ?_
          refine dk_Si (As := [.int p2]) (rest := []) ⟨hx, hb, hml, hown, hts⟩ (c_X6_isRow_0 l g z I5 p2 hO) (va_cwS 1 hts gX6_suits_X6_isRow rfl rfl rfl (by decide +kernel) ⟨Nat.le_of_ble_eq_true rfl, Nat.le_of_ble_eq_true rfl⟩) hK hT hW hS rfl hl.1 rfl (Nat.le_of_ble_eq_true rfl) dX6_suits_17 ⟨Nat.zero_le _, Nat.zero_le _⟩ (fun v9 I9 H9 L9 hp9 hW hS => ?_)
          obtain ⟨hF9, hO, hc9⟩ := hp9
          have hF := dkF_call hF hF9 rfl
          rcases hc9 with ⟨dv9, a9_0, -⟩ | hc9
          ·
            have d10 : dkN [(-2147483648, -1), (8, 2147483647)] p2 := dkN_eq1 (dkN_top p2) a9_0 rfl rfl
            refine lv_if_eq (tgt := 44) hx hb dX6_suits_20 (by decide) (fun c11 => ?_) (fun c11 => ?_)
            ·
              refine lv_ldc (v := (-1000001)) hx hb hown (hts (.constant RX6 64 (-1000001)) (List.mem_of_getElem? (i := 1) rfl)) dX6_suits_44 ?_
              exact W.iret (v := (-1000001)) hx hb hr (fun t ht hW9 => ⟨⟨(-1000001), I9, rfl, ⟨hF, hO, ⟨trivial, trivial⟩⟩, dkW_eq ht hW⟩, hS.F ht⟩) hS.2.2 dX6_suits_46
            ·
              exact (dkN_nil (show dkN [] v9 from dkN_ne1 (0) dv9 (dkN_lit (x := 0) (0) rfl) (dk_ne c11) rfl)).elim
          ·
            obtain ⟨dv9, a9_0, -⟩ := hc9
            have d12 : dkN [(0, 7)] p2 := dkN_eq1 (dkN_top p2) a9_0 rfl rfl
            refine lv_if_eq (tgt := 44) hx hb dX6_suits_20 (by decide) (fun c13 => ?_) (fun c13 => ?_)
            ·
              exact (dkN_nil (show dkN [] v9 from dkN_eq1 dv9 (dkN_lit (x := 0) (0) rfl) (congrArg Int32.toInt c13) rfl)).elim
            ·
              refine lv_iload hx hb dX6_suits_23 (lv_at hl 5 rfl) ?_
              refine lv_iconst (v := 1) hx hb dX6_suits_25 (by decide) ?_
              refine lv_bipush (v := 12) hx hb dX6_suits_26 (by decide) ?_
              refine dk_Si (As := [.int p4, .int 1, .int 12]) (rest := []) ⟨hx, hb, hml, hown, hts⟩ (c_X6_in_17 l g z I9 p4 1 12 (dkN_lit (x := 1) (1) rfl) (dkN_lit (x := 12) (12) rfl) hO) (va_cwS 3 hts gX6_suits_X6_in rfl rfl rfl (by decide +kernel) ⟨Nat.le_of_ble_eq_true rfl, Nat.le_of_ble_eq_true rfl⟩) hK hT hW hS rfl hl.1 rfl (Nat.le_of_ble_eq_true rfl) dX6_suits_28 ⟨Nat.zero_le _, Nat.zero_le _⟩ (fun v14 I14 H14 L14 hp14 hW hS => ?_)
              obtain ⟨hF14, hO, hc14⟩ := hp14
              have hF := dkF_call hF hF14 rfl
              rcases hc14 with ⟨dv14, a14_0, -⟩ | hc14
              ·
                have d15 : dkN [(-2147483648, 0), (13, 2147483647)] p4 := dkN_eq1 (dkN_top p4) a14_0 rfl rfl
                refine lv_if_eq (tgt := 44) hx hb dX6_suits_31 (by decide) (fun c16 => ?_) (fun c16 => ?_)
                ·
                  refine lv_ldc (v := (-1000001)) hx hb hown (hts (.constant RX6 64 (-1000001)) (List.mem_of_getElem? (i := 1) rfl)) dX6_suits_44 ?_
                  exact W.iret (v := (-1000001)) hx hb hr (fun t ht hW9 => ⟨⟨(-1000001), I14, rfl, ⟨hF, hO, ⟨trivial, trivial⟩⟩, dkW_eq ht hW⟩, hS.F ht⟩) hS.2.2 dX6_suits_46
                ·
                  exact (dkN_nil (show dkN [] v14 from dkN_ne1 (0) dv14 (dkN_lit (x := 0) (0) rfl) (dk_ne c16) rfl)).elim
              ·
                obtain ⟨dv14, a14_0, -⟩ := hc14
                have d17 : dkN [(1, 12)] p4 := dkN_eq1 (dkN_top p4) a14_0 rfl rfl
                refine lv_if_eq (tgt := 44) hx hb dX6_suits_31 (by decide) (fun c18 => ?_) (fun c18 => ?_)
                ·
                  exact (dkN_nil (show dkN [] v14 from dkN_eq1 dv14 (dkN_lit (x := 0) (0) rfl) (congrArg Int32.toInt c18) rfl)).elim
                ·
                  refine lv_iload hx hb dX6_suits_34 (lv_at hl 6 rfl) ?_
                  refine lv_iconst (v := 0) hx hb dX6_suits_36 (by decide) ?_
                  refine lv_iconst (v := 1) hx hb dX6_suits_37 (by decide) ?_
                  refine dk_Si (As := [.int p5, .int 0, .int 1]) (rest := []) ⟨hx, hb, hml, hown, hts⟩ (c_X6_in_16 l g z I14 p5 0 1 (dkN_lit (x := 0) (0) rfl) (dkN_lit (x := 1) (1) rfl) hO) (va_cwS 3 hts gX6_suits_X6_in rfl rfl rfl (by decide +kernel) ⟨Nat.le_of_ble_eq_true rfl, Nat.le_of_ble_eq_true rfl⟩) hK hT hW hS rfl hl.1 rfl (Nat.le_of_ble_eq_true rfl) dX6_suits_38 ⟨Nat.zero_le _, Nat.zero_le _⟩ (fun v19 I19 H19 L19 hp19 hW hS => ?_)
                  obtain ⟨hF19, hO, hc19⟩ := hp19
                  have hF := dkF_call hF hF19 rfl
                  rcases hc19 with ⟨dv19, a19_0, -⟩ | hc19
                  ·
                    have d20 : dkN [(-2147483648, -1), (2, 2147483647)] p5 := dkN_eq1 (dkN_top p5) a19_0 rfl rfl
                    refine lv_if_ne (tgt := 47) hx hb dX6_suits_41 (by decide) (fun c21 => ?_) (fun c21 => ?_)
                    ·
                      exact (dkN_nil (show dkN [] v19 from dkN_ne1 (0) dv19 (dkN_lit (x := 0) (0) rfl) (dk_ne c21) rfl)).elim
                    ·
                      refine lv_ldc (v := (-1000001)) hx hb hown (hts (.constant RX6 64 (-1000001)) (List.mem_of_getElem? (i := 1) rfl)) dX6_suits_44 ?_
                      exact W.iret (v := (-1000001)) hx hb hr (fun t ht hW9 => ⟨⟨(-1000001), I19, rfl, ⟨hF, hO, ⟨trivial, trivial⟩⟩, dkW_eq ht hW⟩, hS.F ht⟩) hS.2.2 dX6_suits_46
                  ·
                    obtain ⟨dv19, a19_0, -⟩ := hc19
                    have d22 : dkN [(0, 1)] p5 := dkN_eq1 (dkN_top p5) a19_0 rfl rfl
                    refine lv_if_ne (tgt := 47) hx hb dX6_suits_41 (by decide) (fun c23 => ?_) (fun c23 => ?_)
                    ·
                      refine lv_aload_n hx hb dX6_suits_47 rfl (lv_at hl 0 rfl) ?_
                      refine lv_iload_n hx hb dX6_suits_48 rfl (lv_at hl 3 rfl) ?_
                      refine dk_Vi (As := [.int p2]) (rest := []) ⟨hx, hb, hml, hown, hts⟩ (c_X6_isMissing_0 l g z I19 p2 d12 hO) (cwV 1 hts gX6_suits_X6_isMissing rfl rfl rfl (by decide +kernel) ⟨Nat.le_of_ble_eq_true rfl, Nat.le_of_ble_eq_true rfl⟩) (dk_at340 hW) rfl hK hT hW hS rfl hl.1 rfl (Nat.le_of_ble_eq_true rfl) dX6_suits_49 ⟨Nat.zero_le _, Nat.zero_le _⟩ (fun v24 I24 H24 L24 hp24 hW hS => ?_)
                      obtain ⟨hF24, hO, hc24⟩ := hp24
                      have hF := dkF_call hF hF24 rfl
                      obtain ⟨dv24, -⟩ := hc24
                      refine lv_if_eq (tgt := 61) hx hb dX6_suits_52 (by decide) (fun c25 => ?_) (fun c25 => ?_)
                      ·
                        have d26 : dkN [(0, 0)] v24 := dkN_eq1 dv24 (dkN_lit (x := 0) (0) rfl) (congrArg Int32.toInt c25) rfl
                        refine lv_aload_n hx hb dX6_suits_61 rfl (lv_at hl 0 rfl) ?_
                        refine lv_iload_n hx hb dX6_suits_62 rfl (lv_at hl 3 rfl) ?_
                        refine lv_iload hx hb dX6_suits_63 (lv_at hl 4 rfl) ?_
                        refine lv_iload hx hb dX6_suits_65 (lv_at hl 5 rfl) ?_
                        refine dk_Vi (As := [.int p2, .int p3, .int p4]) (rest := []) ⟨hx, hb, hml, hown, hts⟩ (c_X6_isPart_2 l g z I24 p2 p3 p4 d12 d17 hO) (cwV 3 hts gX6_suits_X6_isPart rfl rfl rfl (by decide +kernel) ⟨Nat.le_of_ble_eq_true rfl, Nat.le_of_ble_eq_true rfl⟩) (dk_at340 hW) rfl hK hT hW hS rfl hl.1 rfl (Nat.le_of_ble_eq_true rfl) dX6_suits_67 ⟨Nat.zero_le _, Nat.zero_le _⟩ (fun v27 I27 H27 L27 hp27 hW hS => ?_)
                        obtain ⟨hF27, hO, hc27⟩ := hp27
                        have hF := dkF_call hF hF27 rfl
                        rcases hc27 with ⟨dv27, -⟩ | hc27
                        ·
                          refine lv_if_ne (tgt := 79) hx hb dX6_suits_70 (by decide) (fun c28 => ?_) (fun c28 => ?_)
                          ·
                            exact (dkN_nil (show dkN [] v27 from dkN_ne1 (0) dv27 (dkN_lit (x := 0) (0) rfl) (dk_ne c28) rfl)).elim
                          ·
                            refine lv_aload_n hx hb dX6_suits_73 rfl (lv_at hl 0 rfl) ?_
                            refine lv_iconst (v := 2) hx hb dX6_suits_74 (by decide) ?_
                            refine dk_Vi (As := [.int 2]) (rest := []) ⟨hx, hb, hml, hown, hts⟩ (c_X6_found_1 l g z I27 2 (dkN_lit (x := 2) (2) rfl) hO) (cwV 1 hts gX6_suits_X6_found rfl rfl rfl (by decide +kernel) ⟨Nat.le_of_ble_eq_true rfl, Nat.le_of_ble_eq_true rfl⟩) (dk_at340 hW) rfl hK hT hW hS rfl hl.1 rfl (Nat.le_of_ble_eq_true rfl) dX6_suits_75 ⟨Nat.zero_le _, Nat.zero_le _⟩ (fun v29 I29 H29 L29 hp29 hW hS => ?_)
                            obtain ⟨hF29, hO, hc29⟩ := hp29
                            have hF := dkF_call hF hF29 rfl
                            obtain ⟨dv29, f29_340_4, -⟩ := hc29
                            exact W.iret (v := v29) hx hb hr (fun t ht hW9 => ⟨⟨v29, I29, rfl, ⟨hF, hO, ⟨trivial, trivial⟩⟩, dkW_eq ht hW⟩, hS.F ht⟩) hS.2.2 dX6_suits_78
                        ·
                          obtain ⟨dv27, a27_1, q27_0, -⟩ := hc27
                          have d30 : dkN [(0, 40)] p3 := dkN_eq1 (dkN_top p3) a27_1 rfl rfl
                          refine lv_if_ne (tgt := 79) hx hb dX6_suits_70 (by decide) (fun c31 => ?_) (fun c31 => ?_)
                          ·
                            refine lv_aload_n hx hb dX6_suits_79 rfl (lv_at hl 0 rfl) ?_
                            refine lv_aload_n hx hb dX6_suits_80 rfl (lv_at hl 0 rfl) ?_
                            refine lv_iload_n hx hb dX6_suits_81 rfl (lv_at hl 2 rfl) ?_
                            refine lv_bipush (v := 40) hx hb dX6_suits_82 (by decide) ?_
                            refine lv_iload_n hx hb dX6_suits_84 rfl (lv_at hl 3 rfl) ?_
                            refine lv_imul hx hb dX6_suits_85 ?_
                            refine lv_topi (fun v32 ev32 => ?_)
                            have dv32 : dkN [(0, 280)] v32 := by rw [ev32]; exact dkN_mulL 40 (by decide) (dkN_lit (x := 40) (40) rfl) d12 rfl
                            refine lv_iload hx hb dX6_suits_86 (lv_at hl 4 rfl) ?_
                            refine lv_iadd hx hb dX6_suits_88 ?_
                            refine lv_topi (fun v33 ev33 => ?_)
                            have dv33 : dkN [(0, 320)] v33 := by rw [ev33]; exact dkN_add dv32 d30 rfl
                            refine lv_iload hx hb dX6_suits_89 (lv_at hl 5 rfl) ?_
                            refine lv_bipush (v := 6) hx hb dX6_suits_91 (by decide) ?_
                            refine lv_bipush (v := 6) hx hb dX6_suits_93 (by decide) ?_
                            refine lv_iload_n hx hb dX6_suits_95 rfl (lv_at hl 1 rfl) ?_
                            refine lv_imul hx hb dX6_suits_96 ?_
                            refine lv_topi (fun v34 ev34 => ?_)
                            have dv34 : dkN [(0, 24)] v34 := by rw [ev34]; exact dkN_mulL 6 (by decide) (dkN_lit (x := 6) (6) rfl) d3 rfl
                            refine lv_iadd hx hb dX6_suits_97 ?_
                            refine lv_topi (fun v35 ev35 => ?_)
                            have dv35 : dkN [(6, 30)] v35 := by rw [ev35]; exact dkN_add (dkN_lit (x := 6) (6) rfl) dv34 rfl
                            refine lv_iload hx hb dX6_suits_98 (lv_at hl 6 rfl) ?_
                            refine lv_if_ne (tgt := 107) hx hb dX6_suits_100 (by decide) (fun c36 => ?_) (fun c36 => ?_)
                            ·
                              have d37 : dkN [(1, 1)] p5 := dkN_ne1 (0) d22 (dkN_lit (x := 0) (0) rfl) (dk_ne c36) rfl
                              refine lv_iconst (v := 2) hx hb dX6_suits_107 (by decide) ?_
                              refine lv_iadd hx hb dX6_suits_108 ?_
                              refine lv_topi (fun v38 ev38 => ?_)
                              have dv38 : dkN [(8, 32)] v38 := by rw [ev38]; exact dkN_add dv35 (dkN_lit (x := 2) (2) rfl) rfl
                              refine lv_iconst (v := 0) hx hb dX6_suits_109 (by decide) ?_
                              refine lv_iload hx hb dX6_suits_110 (lv_at hl 6 rfl) ?_
                              refine lv_if_ne (tgt := 120) hx hb dX6_suits_112 (by decide) (fun c39 => ?_) (fun c39 => ?_)
                              ·
                                refine lv_iconst (v := 2) hx hb dX6_suits_120 (by decide) ?_
                                refine dk_Vi (As := [.int p1, .int v33, .int p4, .int v38, .int 0, .int 2]) (rest := [.ref (z + 340)]) ⟨hx, hb, hml, hown, hts⟩ (c_X6_seenBy_2 l g z I27 p1 v33 p4 v38 0 2 d7 dv33 d17 dv38 (dkN_lit (x := 0) (0) rfl) (dkN_lit (x := 2) (2) rfl) (dk_rel320 ev32 ev33 d12 d30 q27_0 rfl) hO) (cwV 6 hts gX6_suits_X6_seenBy rfl rfl rfl (by decide +kernel) ⟨Nat.le_of_ble_eq_true rfl, Nat.le_of_ble_eq_true rfl⟩) (dk_at340 hW) rfl hK hT hW hS rfl hl.1 rfl (Nat.le_of_ble_eq_true rfl) dX6_suits_121 ⟨Nat.zero_le _, Nat.zero_le _⟩ (fun v40 I40 H40 L40 hp40 hW hS => ?_)
                                obtain ⟨hF40, hO, hc40⟩ := hp40
                                have hF := dkF_call hF hF40 rfl
                                obtain ⟨_, -⟩ := hc40
                                refine dk_Vi (As := [.int v40]) (rest := []) ⟨hx, hb, hml, hown, hts⟩ (c_X6_well_0 l g z I40 v40 hO) (cwV 1 hts gX6_suits_X6_well rfl rfl rfl (by decide +kernel) ⟨Nat.le_of_ble_eq_true rfl, Nat.le_of_ble_eq_true rfl⟩) (dk_at340 hW) rfl hK hT hW hS rfl hl.1 rfl (Nat.le_of_ble_eq_true rfl) dX6_suits_124 ⟨Nat.zero_le _, Nat.zero_le _⟩ (fun v41 I41 H41 L41 hp41 hW hS => ?_)
                                obtain ⟨hF41, hO, ev41, hc41⟩ := hp41
                                have hF := dkF_call hF hF41 rfl
                                obtain ⟨_, f41_340_4, -⟩ := hc41
                                rw [ev41]
                                exact W.iret (v := v40) hx hb hr (fun t ht hW9 => ⟨⟨v40, I41, rfl, ⟨hF, hO, ⟨trivial, trivial⟩⟩, dkW_eq ht hW⟩, hS.F ht⟩) hS.2.2 dX6_suits_127
                              ·
                                exact (dkN_nil (show dkN [] p5 from dkN_eq1 d37 (dkN_lit (x := 0) (0) rfl) (congrArg Int32.toInt c39) rfl)).elim
                            ·
                              have d42 : dkN [(0, 0)] p5 := dkN_eq1 d22 (dkN_lit (x := 0) (0) rfl) (congrArg Int32.toInt c36) rfl
                              refine lv_iconst (v := 1) hx hb dX6_suits_103 (by decide) ?_
                              refine lv_goto (tgt := 108) hx hb dX6_suits_104 (by decide) ?_
                              refine lv_iadd hx hb dX6_suits_108 ?_
                              refine lv_topi (fun v43 ev43 => ?_)
                              have dv43 : dkN [(7, 31)] v43 := by rw [ev43]; exact dkN_add dv35 (dkN_lit (x := 1) (1) rfl) rfl
                              refine lv_iconst (v := 0) hx hb dX6_suits_109 (by decide) ?_
                              refine lv_iload hx hb dX6_suits_110 (lv_at hl 6 rfl) ?_
                              refine lv_if_ne (tgt := 120) hx hb dX6_suits_112 (by decide) (fun c44 => ?_) (fun c44 => ?_)
                              ·
                                exact (dkN_nil (show dkN [] p5 from dkN_ne1 (0) d42 (dkN_lit (x := 0) (0) rfl) (dk_ne c44) rfl)).elim
                              ·
                                refine lv_bipush (v := 9) hx hb dX6_suits_115 (by decide) ?_
                                refine lv_goto (tgt := 121) hx hb dX6_suits_117 (by decide) ?_
                                refine dk_Vi (As := [.int p1, .int v33, .int p4, .int v43, .int 0, .int 9]) (rest := [.ref (z + 340)]) ⟨hx, hb, hml, hown, hts⟩ (c_X6_seenBy_3 l g z I27 p1 v33 p4 v43 0 9 d7 dv33 d17 dv43 (dkN_lit (x := 0) (0) rfl) (dkN_lit (x := 9) (9) rfl) (dk_rel320 ev32 ev33 d12 d30 q27_0 rfl) hO) (cwV 6 hts gX6_suits_X6_seenBy rfl rfl rfl (by decide +kernel) ⟨Nat.le_of_ble_eq_true rfl, Nat.le_of_ble_eq_true rfl⟩) (dk_at340 hW) rfl hK hT hW hS rfl hl.1 rfl (Nat.le_of_ble_eq_true rfl) dX6_suits_121 ⟨Nat.zero_le _, Nat.zero_le _⟩ (fun v45 I45 H45 L45 hp45 hW hS => ?_)
                                obtain ⟨hF45, hO, hc45⟩ := hp45
                                have hF := dkF_call hF hF45 rfl
                                obtain ⟨_, -⟩ := hc45
                                refine dk_Vi (As := [.int v45]) (rest := []) ⟨hx, hb, hml, hown, hts⟩ (c_X6_well_0 l g z I45 v45 hO) (cwV 1 hts gX6_suits_X6_well rfl rfl rfl (by decide +kernel) ⟨Nat.le_of_ble_eq_true rfl, Nat.le_of_ble_eq_true rfl⟩) (dk_at340 hW) rfl hK hT hW hS rfl hl.1 rfl (Nat.le_of_ble_eq_true rfl) dX6_suits_124 ⟨Nat.zero_le _, Nat.zero_le _⟩ (fun v46 I46 H46 L46 hp46 hW hS => ?_)
                                obtain ⟨hF46, hO, ev46, hc46⟩ := hp46
                                have hF := dkF_call hF hF46 rfl
                                obtain ⟨_, f46_340_4, -⟩ := hc46
                                rw [ev46]
                                exact W.iret (v := v45) hx hb hr (fun t ht hW9 => ⟨⟨v45, I46, rfl, ⟨hF, hO, ⟨trivial, trivial⟩⟩, dkW_eq ht hW⟩, hS.F ht⟩) hS.2.2 dX6_suits_127
                          ·
                            exact (dkN_nil (show dkN [] v27 from dkN_eq1 dv27 (dkN_lit (x := 0) (0) rfl) (congrArg Int32.toInt c31) rfl)).elim
                      ·
                        have d47 : dkN [(1, 1)] v24 := dkN_ne1 (0) dv24 (dkN_lit (x := 0) (0) rfl) (dk_ne c25) rfl
                        refine lv_aload_n hx hb dX6_suits_55 rfl (lv_at hl 0 rfl) ?_
                        refine lv_iconst (v := 1) hx hb dX6_suits_56 (by decide) ?_
                        refine dk_Vi (As := [.int 1]) (rest := []) ⟨hx, hb, hml, hown, hts⟩ (c_X6_found_2 l g z I24 1 (dkN_lit (x := 1) (1) rfl) hO) (cwV 1 hts gX6_suits_X6_found rfl rfl rfl (by decide +kernel) ⟨Nat.le_of_ble_eq_true rfl, Nat.le_of_ble_eq_true rfl⟩) (dk_at340 hW) rfl hK hT hW hS rfl hl.1 rfl (Nat.le_of_ble_eq_true rfl) dX6_suits_57 ⟨Nat.zero_le _, Nat.zero_le _⟩ (fun v48 I48 H48 L48 hp48 hW hS => ?_)
                        obtain ⟨hF48, hO, hc48⟩ := hp48
                        have hF := dkF_call hF hF48 rfl
                        obtain ⟨dv48, f48_340_4, -⟩ := hc48
                        exact W.iret (v := v48) hx hb hr (fun t ht hW9 => ⟨⟨v48, I48, rfl, ⟨hF, hO, ⟨trivial, trivial⟩⟩, dkW_eq ht hW⟩, hS.F ht⟩) hS.2.2 dX6_suits_60
                    ·
                      exact (dkN_nil (show dkN [] v19 from dkN_eq1 dv19 (dkN_lit (x := 0) (0) rfl) (congrArg Int32.toInt c23) rfl)).elim
set_option maxHeartbeats 4000000 in
set_option maxRecDepth 100000 in
theorem c_X5_isUpTo_6 (l : Launch) (g : dkG) (z : Nat) (I0 : dkI) (p0 : Int32) (p1 : Int32) (dp1 : dkN [(10, 10)] p1)  (hO : dkOk I0) : Met l yX5_isUpTo wsX5_isUpTo (dkR 0) (dkPc g z [.int p0, .int p1] I0) (dkQi g z (fun r I1 => dkF [] I0 I1 ∧ dkOk I1 ∧ ((dkN [(0, 0)] r ∧ dkN [(-2147483648, -1), (11, 2147483647)] p0 ∧ True) ∨ (dkN [(1, 1)] r ∧ dkN [(0, 10)] p0 ∧ True)))) 0 0 (dkA z) := by
  refine Met.ofW (cc := cX5_isUpTo) (maxL := 2) (ret := (some .boolean)) (by decide) rfl ?_
  intro p e s m args below meth c s₁ B hml hv
  obtain ⟨ha, hW, hK, hT⟩ := hv
  have hx := B.exec
  have hb := B.bytes
  have hr := B.returns
  have hts := atoms_spec (ws := wsX5_isUpTo) B.pre
  have hown : s.vm.findClass RX5 = some m.cls := findClass_of_methodNamed B.named
  have hlocks := B.notSynchronized
  have hS : va_S (dkA z) s.heap s.heap [] := va_S.rf
  have hF : dkF [] I0 I0 := dkF_rf _ _
  have hl := lv_entry ([.int p0, .int p1]) (n := 2) (Nat.le_of_ble_eq_true rfl)
  have hgo : entryFrame m args 2 = entryFrame m ([.int p0, .int p1] : List Value).toArray 2 := by rw [ha]
  rw [hgo, lg_entry_eq]
  generalize (lg_sl ([.int p0, .int p1]) ++ List.replicate (2 - (lg_sl ([.int p0, .int p1])).length) Slot.unset).toArray = ls at hl ⊢
  have hl : lv_has ls 2 [(0, .int p0), (1, .int p1)] := hl
  refine lv_iload_n hx hb dX5_isUpTo_0 rfl (lv_at hl 0 rfl) ?_
  refine lv_if_lt (tgt := 13) hx hb dX5_isUpTo_1 (by decide) (fun c1 => ?_) (fun c1 => ?_)
  ·
    have d2 : dkN [(-2147483648, -1)] p0 := dkN_le1 1 (dkN_top p0) (dkN_lit (x := 0) (0) rfl) (dkc_lt c1) rfl
    refine lv_iconst (v := 0) hx hb dX5_isUpTo_13 (by decide) ?_
    exact W.zret (v := 0) (ty := .boolean) hx hb hr rfl (fun t ht hW9 => ⟨⟨0, I0, rfl, ⟨hF, hO, Or.inl ⟨dkN_sub (dkN_lit (x := 0) (0) rfl) rfl, dkN_sub d2 rfl, trivial⟩⟩, dkW_eq ht hW⟩, hS.F ht⟩) hS.2.2 dX5_isUpTo_14
  ·
    have d3 : dkN [(0, 2147483647)] p0 := dkN_le2 0 (dkN_lit (x := 0) (0) rfl) (dkN_top p0) (dkc_nlt c1) rfl
    refine lv_iload_n hx hb dX5_isUpTo_4 rfl (lv_at hl 0 rfl) ?_
    refine lv_iload_n hx hb dX5_isUpTo_5 rfl (lv_at hl 1 rfl) ?_
    refine lv_icmp_gt (tgt := 13) hx hb dX5_isUpTo_6 (by decide) (fun c4 => ?_) (fun c4 => ?_)
    ·
      have d5 : dkN [(11, 2147483647)] p0 := dkN_le2 1 dp1 d3 (dkc_lt c4) rfl
      refine lv_iconst (v := 0) hx hb dX5_isUpTo_13 (by decide) ?_
      exact W.zret (v := 0) (ty := .boolean) hx hb hr rfl (fun t ht hW9 => ⟨⟨0, I0, rfl, ⟨hF, hO, Or.inl ⟨dkN_sub (dkN_lit (x := 0) (0) rfl) rfl, dkN_sub d5 rfl, trivial⟩⟩, dkW_eq ht hW⟩, hS.F ht⟩) hS.2.2 dX5_isUpTo_14
    ·
      have d6 : dkN [(0, 10)] p0 := dkN_le1 0 d3 dp1 (dkc_nlt c4) rfl
      refine lv_iconst (v := 1) hx hb dX5_isUpTo_9 (by decide) ?_
      refine lv_goto (tgt := 14) hx hb dX5_isUpTo_10 (by decide) ?_
      exact W.zret (v := 1) (ty := .boolean) hx hb hr rfl (fun t ht hW9 => ⟨⟨1, I0, rfl, ⟨hF, hO, Or.inr (⟨dkN_sub (dkN_lit (x := 1) (1) rfl) rfl, dkN_sub d6 rfl, trivial⟩)⟩, dkW_eq ht hW⟩, hS.F ht⟩) hS.2.2 dX5_isUpTo_14
set_option maxHeartbeats 4000000 in
set_option maxRecDepth 100000 in
theorem c_X5_power_0 (l : Launch) (g : dkG) (z : Nat) (I0 : dkI) (p0 : Int32) (p1 : Int32) (dp0 : dkN [(0, 10)] p0) (dp1 : dkN [(0, 63)] p1)  (hO : dkOk I0) : Met l yX5_power wsX5_power (dkR 0) (dkPc g z [.int p0, .int p1] I0) (dkQi g z (fun r I1 => dkF [] I0 I1 ∧ dkOk I1 ∧ ((True ∧ True)))) 0 0 (dkA z) := by
  refine Met.ofW (cc := cX5_power) (maxL := 4) (ret := (some .int)) (by decide) rfl ?_
  intro p e s m args below meth c s₁ B hml hv
  obtain ⟨ha, hW, hK, hT⟩ := hv
  have hx := B.exec
  have hb := B.bytes
  have hr := B.returns
  have hts := atoms_spec (ws := wsX5_power) B.pre
  have hown : s.vm.findClass RX5 = some m.cls := findClass_of_methodNamed B.named
  have hlocks := B.notSynchronized
  have hS : va_S (dkA z) s.heap s.heap [] := va_S.rf
  have hF : dkF [] I0 I0 := dkF_rf _ _
  have hl := lv_entry ([.int p0, .int p1]) (n := 4) (Nat.le_of_ble_eq_true rfl)
  have hgo : entryFrame m args 4 = entryFrame m ([.int p0, .int p1] : List Value).toArray 4 := by rw [ha]
  rw [hgo, lg_entry_eq]
  generalize (lg_sl ([.int p0, .int p1]) ++ List.replicate (4 - (lg_sl ([.int p0, .int p1])).length) Slot.unset).toArray = ls at hl ⊢
  have hl : lv_has ls 4 [(0, .int p0), (1, .int p1)] := hl
  have C4 : ∀ (n : Nat), ∀ (I : dkI) (H : Heap) (locs : List Loc) (ls : Array Slot) (x4_2 : Int32) (x4_3 : Int32), (63 - x4_3.toInt).toNat < n → dkW g z I H → va_S (dkA z) s.heap H locs → dkF [] I0 I → dkOk I → dkN [(0, 63)] x4_3 → lv_has ls 4 [(0, .int p0), (1, .int p1), (2, .int x4_2), (3, .int x4_3)] → W p l e (headSpec wsX5_power (dkR 0)).room s m args below meth c H locs 0 0 (MQ below (dkQi g z (fun r I1 => dkF [] I0 I1 ∧ dkOk I1 ∧ ((True ∧ True)))) args s 0 0 (dkA z)) (F0 m 4 ls []) := by
    intro n
    induction n with
    | zero => intro I H locs ls x4_2 x4_3 hn; exact absurd hn (Nat.not_lt_zero _)
    | succ n ih4 =>
      intro I4_ H locs ls x4_2 x4_3 hn4 hW hS hF_4 hO k4_1 hl
      have hF := hF_4
      refine lv_iload_n hx hb dX5_power_4 rfl (lv_at hl 3 rfl) ?_
      refine lv_iload_n hx hb dX5_power_5 rfl (lv_at hl 1 rfl) ?_
      refine lv_icmp_ge (tgt := 19) hx hb dX5_power_6 (by decide) (fun c1 => ?_) (fun c1 => ?_)
      ·
        refine lv_iload_n hx hb dX5_power_19 rfl (lv_at hl 2 rfl) ?_
        exact W.iret (v := x4_2) hx hb hr (fun t ht hW9 => ⟨⟨x4_2, I4_, rfl, ⟨hF, hO, ⟨trivial, trivial⟩⟩, dkW_eq ht hW⟩, hS.F ht⟩) hS.2.2 dX5_power_20
      ·
        have d2 : dkN [(1, 63)] p1 := dkN_le2 1 k4_1 dp1 (dkc_nle c1) rfl
        have d3 : dkN [(0, 62)] x4_3 := dkN_le1 1 k4_1 dp1 (dkc_nle c1) rfl
        refine lv_iload_n hx hb dX5_power_9 rfl (lv_at hl 2 rfl) ?_
        refine lv_iload_n hx hb dX5_power_10 rfl (lv_at hl 0 rfl) ?_
        refine lv_imul hx hb dX5_power_11 ?_
        refine lv_topi (fun v4 ev4 => ?_)
        refine lv_istore_n (lv' := [(2, .int v4), (0, .int p0), (1, .int p1), (3, .int x4_3)]) hx hb dX5_power_12 rfl hl (by decide) rfl (fun ls hl => ?_)
        obtain ⟨v5, ev5⟩ : ∃ y : Int32, y = x4_3 + 1 := ⟨_, rfl⟩
        have dv5 : dkN [(1, 63)] v5 := by rw [ev5]; exact dkN_add d3 (dkN_lit (x := 1) (1) rfl) rfl
        refine lv_iinc (v := v5) (lv' := [(3, .int v5), (2, .int v4), (0, .int p0), (1, .int p1)]) hx hb dX5_power_13 hl (k := 3) rfl (by rw [ev5]; rfl) (by decide) rfl (fun ls hl => ?_)
        refine lv_goto (tgt := 4) hx hb dX5_power_16 (by decide) ?_
        exact ih4 I4_ _ _ ls v4 v5 (dk_near hn4 (by rw [ev5]; exact dk_inc d3 rfl) (dkN_lt d3 rfl)) hW hS hF hO (dkN_sub dv5 rfl) (lv_sub hl [2, 3, 1, 0] rfl)
  refine lv_iconst (v := 1) hx hb dX5_power_0 (by decide) ?_
  refine lv_istore_n (lv' := [(2, .int 1), (0, .int p0), (1, .int p1)]) hx hb dX5_power_1 rfl hl (by decide) rfl (fun ls hl => ?_)
  refine lv_iconst (v := 0) hx hb dX5_power_2 (by decide) ?_
  refine lv_istore_n (lv' := [(3, .int 0), (2, .int 1), (0, .int p0), (1, .int p1)]) hx hb dX5_power_3 rfl hl (by decide) rfl (fun ls hl => ?_)
  exact C4 _ I0 _ _ ls 1 0 (Nat.lt_succ_self _) hW hS hF hO (dkN_sub (dkN_lit (x := 0) (0) rfl) rfl) (lv_sub hl [2, 3, 1, 0] rfl)
