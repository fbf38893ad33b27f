set_option maxHeartbeats 4000000 in
set_option maxRecDepth 100000 in
theorem c_X6_showing_1 (l : Launch) (g : dkG) (z : Nat) (I0 : dkI) (p0 : Int32) (p1 : Int32) (p2 : Int32) (p3 : Int32) (dp0 : dkN [(0, 4)] p0) (dp1 : dkN [(0, 4)] p1) (dp2 : dkN [(1, 2)] p2)  (hO : dkOk I0) : Met l yX6_showing wsX6_showing (dkR 6) (dkPc g z [.ref (z + 340), .int p0, .int p1, .int p2, .int p3] I0) (dkQi g z (fun r I1 => dkF [(340, 340, 20, 22), (348, 348, 0, 53)] I0 I1 ∧ dkOk I1 ∧ ((True ∧ dkN [(0, 0)] (I1 340 20) ∧ dkN [(0, 0)] (I1 340 21) ∧ dkN [(0, 0)] (I1 340 22) ∧ dkN [(0, 2147483647)] (I1 348 3) ∧ True)))) 0 0 (dkA z) := by
  refine Met.ofW (cc := cX6_showing) (maxL := 7) (ret := (some .int)) (by decide) rfl ?_
  intro p e s m args below meth c s₁ B hml hv
  obtain ⟨ha, hW, hK, hT⟩ := hv
  have hx := B.exec
  have hb := B.bytes
  have hr := B.returns
  have hts := atoms_spec (ws := wsX6_showing) B.pre
  have hown : s.vm.findClass RX6 = some m.cls := findClass_of_methodNamed B.named
  have hlocks := B.notSynchronized
  have hS : va_S (dkA z) s.heap s.heap [] := va_S.rf
  have hF : dkF [(340, 340, 20, 22), (348, 348, 0, 53)] I0 I0 := dkF_rf _ _
  have hl := lv_entry ([.ref (z + 340), .int p0, .int p1, .int p2, .int p3]) (n := 7) (Nat.le_of_ble_eq_true rfl)
  have hgo : entryFrame m args 7 = entryFrame m ([.ref (z + 340), .int p0, .int p1, .int p2, .int p3] : List Value).toArray 7 := by rw [ha]
  rw [hgo, lg_entry_eq]
  generalize (lg_sl ([.ref (z + 340), .int p0, .int p1, .int p2, .int p3]) ++ List.replicate (7 - (lg_sl ([.ref (z + 340), .int p0, .int p1, .int p2, .int p3])).length) Slot.unset).toArray = ls at hl ⊢
  have hl : lv_has ls 7 [(0, .ref (z + 340)), (1, .int p0), (2, .int p1), (3, .int p2), (4, .int p3)] := hl
  have C7 : ∀ (n : Nat), ∀ (I : dkI) (H : Heap) (locs : List Loc) (ls : Array Slot) (x7_5 : Int32), (4 - x7_5.toInt).toNat < n → dkW g z I H → va_S (dkA z) s.heap H locs → dkF [(340, 340, 20, 22), (348, 348, 0, 53)] I0 I → dkOk I → dkN [(0, 4)] x7_5 → dkN [(0, 0)] (I 340 20) → dkN [(0, 0)] (I 340 21) → dkN [(0, 0)] (I 340 22) → lv_has ls 7 [(0, .ref (z + 340)), (1, .int p0), (2, .int p1), (3, .int p2), (4, .int p3), (5, .int x7_5)] → W p l e (headSpec wsX6_showing (dkR 6)).room s m args below meth c H locs 0 0 (MQ below (dkQi g z (fun r I1 => dkF [(340, 340, 20, 22), (348, 348, 0, 53)] I0 I1 ∧ dkOk I1 ∧ ((True ∧ dkN [(0, 0)] (I1 340 20) ∧ dkN [(0, 0)] (I1 340 21) ∧ dkN [(0, 0)] (I1 340 22) ∧ dkN [(0, 2147483647)] (I1 348 3) ∧ True)))) args s 0 0 (dkA z)) (F0 m 7 ls []) := by
    intro n
    induction n with
    | zero => intro I H locs ls x7_5 hn; exact absurd hn (Nat.not_lt_zero _)
    | succ n ih7 =>
      intro I7_ H locs ls x7_5 hn7 hW hS hF_7 hO k7_0 f7_0 f7_1 f7_2 hl
      have hF := hF_7
      have C72 : ∀ (I : dkI) (H : Heap) (locs : List Loc) (ls : Array Slot) (x72_6 : Int32) (x72_s0 : Int32) (x72_s1 : Int32) (x72_s2 : Int32), dkW g z I H → va_S (dkA z) s.heap H locs → dkF [(340, 340, 20, 22), (348, 348, 0, 53)] I0 I → dkOk I → dkN [(9, 33)] x72_6 → dkN [(0, 1)] x72_s0 → dkN [(9, 33)] x72_s2 → dkN [(0, 3)] x7_5 → dkN [(0, 0)] (I 340 20) → dkN [(0, 0)] (I 340 21) → dkN [(0, 0)] (I 340 22) → lv_has ls 7 [(0, .ref (z + 340)), (1, .int p0), (2, .int p1), (3, .int p2), (4, .int p3), (5, .int x7_5), (6, .int x72_6)] → W p l e (headSpec wsX6_showing (dkR 6)).room s m args below meth c H locs 0 0 (MQ below (dkQi g z (fun r I1 => dkF [(340, 340, 20, 22), (348, 348, 0, 53)] I0 I1 ∧ dkOk I1 ∧ ((True ∧ dkN [(0, 0)] (I1 340 20) ∧ dkN [(0, 0)] (I1 340 21) ∧ dkN [(0, 0)] (I1 340 22) ∧ dkN [(0, 2147483647)] (I1 348 3) ∧ True)))) args s 0 0 (dkA z)) (F0 m 72 ls [.int x72_s0, .int x72_s1, .int x72_s2, .ref (z + 348)]) := by
        intro I72_ H locs ls x72_6 x72_s0 x72_s1 x72_s2 hW hS hF_72 hO k72_0 k72_1 k72_3 r72_0 f72_0 f72_1 f72_2 hl
        have hF := hF_72
        refine lv_iadd hx hb dX6_showing_72 ?_
        refine lv_topi (fun v1 ev1 => ?_)
        refine dk_ist (k := 348) hx hb hK hW (fun _ => rfl) (by decide) hS (dkN_in (n := 54) k72_3 rfl) dX6_showing_73 (fun I2 H2 L2 eI2 hW hS => ?_)
        have hO := dkO_set hO eI2 (by rw [dkB_w (k := 348) (B := [(-2147483648, 2147483647)]) (by decide) k72_3 rfl]; exact dkN_top _)
        have hF := dkF_set hF eI2 (dkIn_v k72_3 rfl)
        obtain ⟨v3, ev3⟩ : ∃ y : Int32, y = x7_5 + 1 := ⟨_, rfl⟩
        have dv3 : dkN [(1, 4)] v3 := by rw [ev3]; exact dkN_add r72_0 (dkN_lit (x := 1) (1) rfl) rfl
        refine lv_iinc (v := v3) (lv' := [(5, .int v3), (0, .ref (z + 340)), (1, .int p0), (2, .int p1), (3, .int p2), (4, .int p3), (6, .int x72_6)]) hx hb dX6_showing_74 hl (k := 5) rfl (by rw [ev3]; rfl) (by decide) rfl (fun ls hl => ?_)
        refine lv_goto (tgt := 7) hx hb dX6_showing_77 (by decide) ?_
        exact ih7 I2 _ _ ls v3 (dk_near hn7 (by rw [ev3]; exact dk_inc r72_0 rfl) (dkN_lt r72_0 rfl)) hW hS hF hO (dkN_sub dv3 rfl) (show dkN [(0, 0)] (I2 340 20) from dkN_sub (by rw [eI2, dkU_n (by decide)]; exact f72_0) rfl) (show dkN [(0, 0)] (I2 340 21) from dkN_sub (by rw [eI2, dkU_n (by decide)]; exact f72_1) rfl) (show dkN [(0, 0)] (I2 340 22) from dkN_sub (by rw [eI2, dkU_n (by decide)]; exact f72_2) rfl) (lv_sub hl [1, 2, 3, 4, 5, 0] rfl)
      have C71 : ∀ (I : dkI) (H : Heap) (locs : List Loc) (ls : Array Slot) (x71_6 : Int32) (x71_s0 : Int32) (x71_s1 : Int32), dkW g z I H → va_S (dkA z) s.heap H locs → dkF [(340, 340, 20, 22), (348, 348, 0, 53)] I0 I → dkOk I → dkN [(9, 33)] x71_6 → dkN [(9, 33)] x71_s1 → dkN [(0, 3)] x7_5 → dkN [(0, 0)] (I 340 20) → dkN [(0, 0)] (I 340 21) → dkN [(0, 0)] (I 340 22) → lv_has ls 7 [(0, .ref (z + 340)), (1, .int p0), (2, .int p1), (3, .int p2), (4, .int p3), (5, .int x7_5), (6, .int x71_6)] → W p l e (headSpec wsX6_showing (dkR 6)).room s m args below meth c H locs 0 0 (MQ below (dkQi g z (fun r I1 => dkF [(340, 340, 20, 22), (348, 348, 0, 53)] I0 I1 ∧ dkOk I1 ∧ ((True ∧ dkN [(0, 0)] (I1 340 20) ∧ dkN [(0, 0)] (I1 340 21) ∧ dkN [(0, 0)] (I1 340 22) ∧ dkN [(0, 2147483647)] (I1 348 3) ∧ True)))) args s 0 0 (dkA z)) (F0 m 71 ls [.int x71_s0, .int x71_s1, .ref (z + 348)]) := by
        intro I71_ H locs ls x71_6 x71_s0 x71_s1 hW hS hF_71 hO k71_0 k71_2 r71_0 f71_0 f71_1 f71_2 hl
        have hF := hF_71
        refine lv_iconst (v := 0) hx hb dX6_showing_71 (by decide) ?_
        exact C72 I71_ _ _ ls x71_6 0 x71_s0 x71_s1 hW hS hF hO (dkN_sub k71_0 rfl) (dkN_sub (dkN_lit (x := 0) (0) rfl) rfl) (dkN_sub k71_2 rfl) (dkN_sub r71_0 rfl) (show dkN [(0, 0)] (I71_ 340 20) from dkN_sub f71_0 rfl) (show dkN [(0, 0)] (I71_ 340 21) from dkN_sub f71_1 rfl) (show dkN [(0, 0)] (I71_ 340 22) from dkN_sub f71_2 rfl) (lv_sub hl [0, 1, 2, 3, 4, 5, 6] rfl)
      have C31 : ∀ (I : dkI) (H : Heap) (locs : List Loc) (ls : Array Slot) (x31_s0 : Int32) (x31_s1 : Int32) (x31_s2 : Int32), dkW g z I H → va_S (dkA z) s.heap H locs → dkF [(340, 340, 20, 22), (348, 348, 0, 53)] I0 I → dkOk I → dkN [(0, 4)] x31_s0 → dkN [(6, 6)] x31_s1 → dkN [(6, 6)] x31_s2 → dkN [(0, 3)] x7_5 → dkN [(0, 0)] (I 340 20) → dkN [(0, 0)] (I 340 21) → dkN [(0, 0)] (I 340 22) → lv_has ls 7 [(0, .ref (z + 340)), (1, .int p0), (2, .int p1), (3, .int p2), (4, .int p3), (5, .int x7_5)] → W p l e (headSpec wsX6_showing (dkR 6)).room s m args below meth c H locs 0 0 (MQ below (dkQi g z (fun r I1 => dkF [(340, 340, 20, 22), (348, 348, 0, 53)] I0 I1 ∧ dkOk I1 ∧ ((True ∧ dkN [(0, 0)] (I1 340 20) ∧ dkN [(0, 0)] (I1 340 21) ∧ dkN [(0, 0)] (I1 340 22) ∧ dkN [(0, 2147483647)] (I1 348 3) ∧ True)))) args s 0 0 (dkA z)) (F0 m 31 ls [.int x31_s0, .int x31_s1, .int x31_s2]) := by
        intro I31_ H locs ls x31_s0 x31_s1 x31_s2 hW hS hF_31 hO k31_0 k31_1 k31_2 r31_0 f31_0 f31_1 f31_2 hl
        have hF := hF_31
        refine lv_imul hx hb dX6_showing_31 ?_
        refine lv_topi (fun v4 ev4 => ?_)
        have dv4 : dkN [(0, 24)] v4 := by rw [ev4]; exact dkN_mulL 6 (by decide) k31_1 k31_0 rfl
        refine lv_iadd hx hb dX6_showing_32 ?_
        refine lv_topi (fun v5 ev5 => ?_)
        have dv5 : dkN [(6, 30)] v5 := by rw [ev5]; exact dkN_add k31_2 dv4 rfl
        refine lv_iconst (v := 3) hx hb dX6_showing_33 (by decide) ?_
        refine lv_iadd hx hb dX6_showing_34 ?_
        refine lv_topi (fun v6 ev6 => ?_)
        have dv6 : dkN [(9, 33)] v6 := by rw [ev6]; exact dkN_add dv5 (dkN_lit (x := 3) (3) rfl) rfl
        refine lv_istore (lv' := [(6, .int v6), (0, .ref (z + 340)), (1, .int p0), (2, .int p1), (3, .int p2), (4, .int p3), (5, .int x7_5)]) hx hb dX6_showing_35 hl (by decide) rfl (fun ls hl => ?_)
        refine lv_aload_n hx hb dX6_showing_37 rfl (lv_at hl 1 rfl) ?_
        refine dk_get (k := 340) hx hb hts iX6_showing_6 hown hK (dk_at340 hW) rfl 15 (by decide) (hts (.fieldLink RX6 31 "DogKingsModel" "tried" "[I") (List.mem_of_getElem? (i := 1) rfl)) rfl dX6_showing_38 ?_
        refine lv_iload hx hb dX6_showing_41 (lv_at hl 0 rfl) ?_
        refine lv_dup2_11 hx hb dX6_showing_43 rfl rfl ?_
        refine dk_ild (k := 348) hx hb hK (dk_at348 hW) (dkN_in (n := 54) dv6 rfl) dX6_showing_44 ?_
        refine lv_topi (fun v7 ev7 => ?_)
        refine lv_iload hx hb dX6_showing_45 (lv_at hl 5 rfl) ?_
        refine lv_iload hx hb dX6_showing_47 (lv_at hl 6 rfl) ?_
        refine dk_Si (As := [.int p3, .int x7_5]) (rest := [.int v7, .int v6, .ref (z + 348)]) ⟨hx, hb, hml, hown, hts⟩ (c_X6_has_0 l g z I31_ p3 x7_5 hO) (va_cwS 2 hts gX6_showing_X6_has rfl rfl rfl (by decide +kernel) ⟨Nat.le_of_ble_eq_true rfl, Nat.le_of_ble_eq_true rfl⟩) hK hT hW hS rfl hl.1 rfl (Nat.le_of_ble_eq_true rfl) dX6_showing_49 ⟨Nat.zero_le _, Nat.zero_le _⟩ (fun v8 I8 H8 L8 hp8 hW hS => ?_)
        obtain ⟨hF8, hO, hc8⟩ := hp8
        have hF := dkF_call hF hF8 rfl
        obtain ⟨dv8, -⟩ := hc8
        refine lv_if_eq (tgt := 71) hx hb dX6_showing_52 (by decide) (fun c9 => ?_) (fun c9 => ?_)
        ·
          have d10 : dkN [(0, 0)] v8 := dkN_eq1 dv8 (dkN_lit (x := 0) (0) rfl) (congrArg Int32.toInt c9) rfl
          exact C71 I8 _ _ ls v6 v7 v6 hW hS hF hO (dkN_sub dv6 rfl) (dkN_sub dv6 rfl) (dkN_sub r31_0 rfl) (show dkN [(0, 0)] (I8 340 20) from dkN_sub (by rw [hF8 340 20 rfl]; exact f31_0) rfl) (show dkN [(0, 0)] (I8 340 21) from dkN_sub (by rw [hF8 340 21 rfl]; exact f31_1) rfl) (show dkN [(0, 0)] (I8 340 22) from dkN_sub (by rw [hF8 340 22 rfl]; exact f31_2) rfl) (lv_sub hl [1, 2, 3, 4, 5, 6, 0] rfl)
        ·
          have d11 : dkN [(1, 1)] v8 := dkN_ne1 (0) dv8 (dkN_lit (x := 0) (0) rfl) (dk_ne c9) rfl
          refine lv_aload_n hx hb dX6_showing_55 rfl (lv_at hl 1 rfl) ?_
          refine dk_get (k := 340) hx hb hts iX6_showing_6 hown hK (dk_at340 hW) rfl 15 (by decide) (hts (.fieldLink RX6 31 "DogKingsModel" "tried" "[I") (List.mem_of_getElem? (i := 1) rfl)) rfl dX6_showing_56 ?_
          refine lv_iload hx hb dX6_showing_59 (lv_at hl 0 rfl) ?_
          refine dk_ild (k := 348) hx hb hK (dk_at348 hW) (dkN_in (n := 54) dv6 rfl) dX6_showing_61 ?_
          refine lv_topi (fun v12 ev12 => ?_)
          refine lv_bipush (v := 9) hx hb dX6_showing_62 (by decide) ?_
          refine lv_icmp_ge (tgt := 71) hx hb dX6_showing_64 (by decide) (fun c13 => ?_) (fun c13 => ?_)
          ·
            have d14 : dkN [(9, 2147483647)] v12 := dkN_le2 0 (dkN_lit (x := 9) (9) rfl) (dkN_top v12) (dkc_le c13) rfl
            exact C71 I8 _ _ ls v6 v7 v6 hW hS hF hO (dkN_sub dv6 rfl) (dkN_sub dv6 rfl) (dkN_sub r31_0 rfl) (show dkN [(0, 0)] (I8 340 20) from dkN_sub (by rw [hF8 340 20 rfl]; exact f31_0) rfl) (show dkN [(0, 0)] (I8 340 21) from dkN_sub (by rw [hF8 340 21 rfl]; exact f31_1) rfl) (show dkN [(0, 0)] (I8 340 22) from dkN_sub (by rw [hF8 340 22 rfl]; exact f31_2) rfl) (lv_sub hl [1, 2, 3, 4, 5, 6, 0] rfl)
          ·
            have d15 : dkN [(-2147483648, 8)] v12 := dkN_le1 1 (dkN_top v12) (dkN_lit (x := 9) (9) rfl) (dkc_nle c13) rfl
            refine lv_iconst (v := 1) hx hb dX6_showing_67 (by decide) ?_
            refine lv_goto (tgt := 72) hx hb dX6_showing_68 (by decide) ?_
            exact C72 I8 _ _ ls v6 1 v7 v6 hW hS hF hO (dkN_sub dv6 rfl) (dkN_sub (dkN_lit (x := 1) (1) rfl) rfl) (dkN_sub dv6 rfl) (dkN_sub r31_0 rfl) (show dkN [(0, 0)] (I8 340 20) from dkN_sub (by rw [hF8 340 20 rfl]; exact f31_0) rfl) (show dkN [(0, 0)] (I8 340 21) from dkN_sub (by rw [hF8 340 21 rfl]; exact f31_1) rfl) (show dkN [(0, 0)] (I8 340 22) from dkN_sub (by rw [hF8 340 22 rfl]; exact f31_2) rfl) (lv_sub hl [1, 2, 3, 4, 5, 6, 0] rfl)
      refine lv_iload hx hb dX6_showing_7 (lv_at hl 5 rfl) ?_
      refine lv_iconst (v := 2) hx hb dX6_showing_9 (by decide) ?_
      refine lv_iload_n hx hb dX6_showing_10 rfl (lv_at hl 3 rfl) ?_
      refine lv_imul hx hb dX6_showing_11 ?_
      refine lv_topi (fun v16 ev16 => ?_)
      have dv16 : dkN [(2, 4)] v16 := by rw [ev16]; exact dkN_mulL 2 (by decide) (dkN_lit (x := 2) (2) rfl) dp2 rfl
      refine lv_icmp_ge (tgt := 80) hx hb dX6_showing_12 (by decide) (fun c17 => ?_) (fun c17 => ?_)
      ·
        have d18 : dkN [(2, 4)] x7_5 := dkN_le2 0 dv16 k7_0 (dkc_le c17) rfl
        refine lv_aload_n hx hb dX6_showing_80 rfl (lv_at hl 0 rfl) ?_
        refine dk_Vv (As := []) (rest := []) ⟨hx, hb, hml, hown, hts⟩ (c_X6_toBell_0 l g z I7_ hO) (cwV 0 hts gX6_showing_X6_toBell rfl rfl rfl (by decide +kernel) ⟨Nat.le_of_ble_eq_true rfl, Nat.le_of_ble_eq_true rfl⟩) (dk_at340 hW) rfl hK hT hW hS rfl hl.1 rfl (Nat.le_of_ble_eq_true rfl) dX6_showing_81 ⟨Nat.zero_le _, Nat.zero_le _⟩ (fun I19 H19 L19 hp19 hW hS => ?_)
        obtain ⟨hF19, hO, hc19⟩ := hp19
        have hF := dkF_call hF hF19 rfl
        obtain ⟨f19_348_3, -⟩ := hc19
        refine lv_aload_n hx hb dX6_showing_84 rfl (lv_at hl 0 rfl) ?_
        refine dk_get (k := 340) hx hb hts iX6_showing_6 hown hK (dk_at340 hW) rfl 15 (by decide) (hts (.fieldLink RX6 31 "DogKingsModel" "tried" "[I") (List.mem_of_getElem? (i := 1) rfl)) rfl dX6_showing_85 ?_
        refine lv_aload_n hx hb dX6_showing_88 rfl (lv_at hl 0 rfl) ?_
        refine dk_get (k := 340) hx hb hts iX6_showing_6 hown hK (dk_at340 hW) rfl 15 (by decide) (hts (.fieldLink RX6 31 "DogKingsModel" "tried" "[I") (List.mem_of_getElem? (i := 1) rfl)) rfl dX6_showing_89 ?_
        refine lv_bipush (v := 6) hx hb dX6_showing_92 (by decide) ?_
        refine lv_bipush (v := 6) hx hb dX6_showing_94 (by decide) ?_
        refine lv_iload_n hx hb dX6_showing_96 rfl (lv_at hl 1 rfl) ?_
        refine lv_imul hx hb dX6_showing_97 ?_
        refine lv_topi (fun v20 ev20 => ?_)
        have dv20 : dkN [(0, 24)] v20 := by rw [ev20]; exact dkN_mulL 6 (by decide) (dkN_lit (x := 6) (6) rfl) dp0 rfl
        refine lv_iadd hx hb dX6_showing_98 ?_
        refine lv_topi (fun v21 ev21 => ?_)
        have dv21 : dkN [(6, 30)] v21 := by rw [ev21]; exact dkN_add (dkN_lit (x := 6) (6) rfl) dv20 rfl
        refine lv_iconst (v := 4) hx hb dX6_showing_99 (by decide) ?_
        refine lv_iadd hx hb dX6_showing_100 ?_
        refine lv_topi (fun v22 ev22 => ?_)
        have dv22 : dkN [(10, 34)] v22 := by rw [ev22]; exact dkN_add dv21 (dkN_lit (x := 4) (4) rfl) rfl
        refine dk_ild (k := 348) hx hb hK (dk_at348 hW) (dkN_in (n := 54) dv22 rfl) dX6_showing_101 ?_
        refine lv_topi (fun v23 ev23 => ?_)
        refine lv_ldc (v := (-1000000)) hx hb hown (hts (.constant RX6 50 (-1000000)) (List.mem_of_getElem? (i := 2) rfl)) dX6_showing_102 ?_
        refine lv_iconst (v := 0) hx hb dX6_showing_104 (by decide) ?_
        refine dk_Si (As := [.ref (z + 348), .int v23, .int ((-1000000)), .int 0]) (rest := []) ⟨hx, hb, hml, hown, hts⟩ (c_X6_othersIn_1 l g z I19 v23 ((-1000000)) 0 (dkN_sub (dkN_lit (x := (-1000000)) (-1000000) rfl) rfl) hO) (va_cwS 4 hts gX6_showing_X6_othersIn rfl rfl rfl (by decide +kernel) ⟨Nat.le_of_ble_eq_true rfl, Nat.le_of_ble_eq_true rfl⟩) hK hT hW hS rfl hl.1 rfl (Nat.le_of_ble_eq_true rfl) dX6_showing_105 ⟨Nat.zero_le _, Nat.zero_le _⟩ (fun v24 I24 H24 L24 hp24 hW hS => ?_)
        obtain ⟨hF24, hO, hc24⟩ := hp24
        have hF := dkF_call hF hF24 rfl
        obtain ⟨_, -⟩ := hc24
        refine lv_aload_n hx hb dX6_showing_108 rfl (lv_at hl 0 rfl) ?_
        refine dk_get (k := 340) hx hb hts iX6_showing_6 hown hK (dk_at340 hW) rfl 15 (by decide) (hts (.fieldLink RX6 31 "DogKingsModel" "tried" "[I") (List.mem_of_getElem? (i := 1) rfl)) rfl dX6_showing_109 ?_
        refine lv_aload_n hx hb dX6_showing_112 rfl (lv_at hl 0 rfl) ?_
        refine dk_get (k := 340) hx hb hts iX6_showing_6 hown hK (dk_at340 hW) rfl 15 (by decide) (hts (.fieldLink RX6 31 "DogKingsModel" "tried" "[I") (List.mem_of_getElem? (i := 1) rfl)) rfl dX6_showing_113 ?_
        refine lv_bipush (v := 6) hx hb dX6_showing_116 (by decide) ?_
        refine lv_bipush (v := 6) hx hb dX6_showing_118 (by decide) ?_
        refine lv_iload_n hx hb dX6_showing_120 rfl (lv_at hl 2 rfl) ?_
        refine lv_imul hx hb dX6_showing_121 ?_
        refine lv_topi (fun v25 ev25 => ?_)
        have dv25 : dkN [(0, 24)] v25 := by rw [ev25]; exact dkN_mulL 6 (by decide) (dkN_lit (x := 6) (6) rfl) dp1 rfl
        refine lv_iadd hx hb dX6_showing_122 ?_
        refine lv_topi (fun v26 ev26 => ?_)
        have dv26 : dkN [(6, 30)] v26 := by rw [ev26]; exact dkN_add (dkN_lit (x := 6) (6) rfl) dv25 rfl
        refine lv_iconst (v := 4) hx hb dX6_showing_123 (by decide) ?_
        refine lv_iadd hx hb dX6_showing_124 ?_
        refine lv_topi (fun v27 ev27 => ?_)
        have dv27 : dkN [(10, 34)] v27 := by rw [ev27]; exact dkN_add dv26 (dkN_lit (x := 4) (4) rfl) rfl
        refine dk_ild (k := 348) hx hb hK (dk_at348 hW) (dkN_in (n := 54) dv27 rfl) dX6_showing_125 ?_
        refine lv_topi (fun v28 ev28 => ?_)
        refine lv_ldc (v := (-1000000)) hx hb hown (hts (.constant RX6 50 (-1000000)) (List.mem_of_getElem? (i := 2) rfl)) dX6_showing_126 ?_
        refine lv_iconst (v := 0) hx hb dX6_showing_128 (by decide) ?_
        refine dk_Si (As := [.ref (z + 348), .int v28, .int ((-1000000)), .int 0]) (rest := [.int v24]) ⟨hx, hb, hml, hown, hts⟩ (c_X6_othersIn_1 l g z I24 v28 ((-1000000)) 0 (dkN_sub (dkN_lit (x := (-1000000)) (-1000000) rfl) rfl) hO) (va_cwS 4 hts gX6_showing_X6_othersIn rfl rfl rfl (by decide +kernel) ⟨Nat.le_of_ble_eq_true rfl, Nat.le_of_ble_eq_true rfl⟩) hK hT hW hS rfl hl.1 rfl (Nat.le_of_ble_eq_true rfl) dX6_showing_129 ⟨Nat.zero_le _, Nat.zero_le _⟩ (fun v29 I29 H29 L29 hp29 hW hS => ?_)
        obtain ⟨hF29, hO, hc29⟩ := hp29
        have hF := dkF_call hF hF29 rfl
        obtain ⟨_, -⟩ := hc29
        refine lv_isub hx hb dX6_showing_132 ?_
        refine lv_topi (fun v30 ev30 => ?_)
        exact W.iret (v := v30) hx hb hr (fun t ht hW9 => ⟨⟨v30, I29, rfl, ⟨hF, hO, ⟨trivial, (show dkN [(0, 0)] (I29 340 20) from dkN_sub (by rw [hF29 340 20 rfl]; exact (by rw [hF24 340 20 rfl]; exact (by rw [hF19 340 20 rfl]; exact f7_0))) rfl), (show dkN [(0, 0)] (I29 340 21) from dkN_sub (by rw [hF29 340 21 rfl]; exact (by rw [hF24 340 21 rfl]; exact (by rw [hF19 340 21 rfl]; exact f7_1))) rfl), (show dkN [(0, 0)] (I29 340 22) from dkN_sub (by rw [hF29 340 22 rfl]; exact (by rw [hF24 340 22 rfl]; exact (by rw [hF19 340 22 rfl]; exact f7_2))) rfl), (show dkN [(0, 2147483647)] (I29 348 3) from dkN_sub (by rw [hF29 348 3 rfl]; exact (by rw [hF24 348 3 rfl]; exact f19_348_3)) rfl), trivial⟩⟩, dkW_eq ht hW⟩, hS.F ht⟩) hS.2.2 dX6_showing_133
      ·
        have d31 : dkN [(0, 3)] x7_5 := dkN_le1 1 k7_0 dv16 (dkc_nle c17) rfl
        refine lv_bipush (v := 6) hx hb dX6_showing_15 (by decide) ?_
        refine lv_bipush (v := 6) hx hb dX6_showing_17 (by decide) ?_
        refine lv_iload hx hb dX6_showing_19 (lv_at hl 5 rfl) ?_
        refine lv_iconst (v := 2) hx hb dX6_showing_21 (by decide) ?_
        refine lv_irem hx hb dX6_showing_22 (dkN_ne0 (dkN_lit (x := 2) (2) rfl) rfl) ?_
        refine lv_topi (fun v32 ev32 => ?_)
        have dv32 : dkN [(0, 1)] v32 := by rw [ev32]; exact dkN_rem 2 (by decide) d31 (dkN_lit (x := 2) (2) rfl) rfl
        refine lv_if_ne (tgt := 30) hx hb dX6_showing_23 (by decide) (fun c33 => ?_) (fun c33 => ?_)
        ·
          have d34 : dkN [(1, 1)] v32 := dkN_ne1 (0) dv32 (dkN_lit (x := 0) (0) rfl) (dk_ne c33) rfl
          refine lv_iload_n hx hb dX6_showing_30 rfl (lv_at hl 2 rfl) ?_
          exact C31 I7_ _ _ ls p1 6 6 hW hS hF hO (dkN_sub dp1 rfl) (dkN_sub (dkN_lit (x := 6) (6) rfl) rfl) (dkN_sub (dkN_lit (x := 6) (6) rfl) rfl) (dkN_sub d31 rfl) (show dkN [(0, 0)] (I7_ 340 20) from dkN_sub f7_0 rfl) (show dkN [(0, 0)] (I7_ 340 21) from dkN_sub f7_1 rfl) (show dkN [(0, 0)] (I7_ 340 22) from dkN_sub f7_2 rfl) (lv_sub hl [0, 1, 2, 3, 4, 5] rfl)
        ·
          have d35 : dkN [(0, 0)] v32 := dkN_eq1 dv32 (dkN_lit (x := 0) (0) rfl) (congrArg Int32.toInt c33) rfl
          refine lv_iload_n hx hb dX6_showing_26 rfl (lv_at hl 1 rfl) ?_
          refine lv_goto (tgt := 31) hx hb dX6_showing_27 (by decide) ?_
          exact C31 I7_ _ _ ls p0 6 6 hW hS hF hO (dkN_sub dp0 rfl) (dkN_sub (dkN_lit (x := 6) (6) rfl) rfl) (dkN_sub (dkN_lit (x := 6) (6) rfl) rfl) (dkN_sub d31 rfl) (show dkN [(0, 0)] (I7_ 340 20) from dkN_sub f7_0 rfl) (show dkN [(0, 0)] (I7_ 340 21) from dkN_sub f7_1 rfl) (show dkN [(0, 0)] (I7_ 340 22) from dkN_sub f7_2 rfl) (lv_sub hl [0, 1, 2, 3, 4, 5] rfl)
  refine lv_aload_n hx hb dX6_showing_0 rfl (lv_at hl 0 rfl) ?_
  refine dk_Vv (As := []) (rest := []) ⟨hx, hb, hml, hown, hts⟩ (c_X6_tries_0 l g z I0 hO) (cwV 0 hts gX6_showing_X6_tries rfl rfl rfl (by decide +kernel) ⟨Nat.le_of_ble_eq_true rfl, Nat.le_of_ble_eq_true rfl⟩) (dk_at340 hW) rfl hK hT hW hS rfl hl.1 rfl (Nat.le_of_ble_eq_true rfl) dX6_showing_1 ⟨Nat.zero_le _, Nat.zero_le _⟩ (fun I36 H36 L36 hp36 hW hS => ?_)
  obtain ⟨hF36, hO, hc36⟩ := hp36
  have hF := dkF_call hF hF36 rfl
  obtain ⟨f36_340_20, f36_340_21, f36_340_22, -⟩ := hc36
  refine lv_iconst (v := 0) hx hb dX6_showing_4 (by decide) ?_
  refine lv_istore (lv' := [(5, .int 0), (0, .ref (z + 340)), (1, .int p0), (2, .int p1), (3, .int p2), (4, .int p3)]) hx hb dX6_showing_5 hl (by decide) rfl (fun ls hl => ?_)
  exact C7 _ I36 _ _ ls 0 (Nat.lt_succ_self _) hW hS hF hO (dkN_sub (dkN_lit (x := 0) (0) rfl) rfl) (show dkN [(0, 0)] (I36 340 20) from dkN_sub f36_340_20 rfl) (show dkN [(0, 0)] (I36 340 21) from dkN_sub f36_340_21 rfl) (show dkN [(0, 0)] (I36 340 22) from dkN_sub f36_340_22 rfl) (lv_sub hl [1, 2, 3, 4, 5, 0] rfl)
set_option maxHeartbeats 4000000 in
set_option maxRecDepth 100000 in
theorem c_X6_shows_0 (l : Launch) (g : dkG) (z : Nat) (I0 : dkI) (p0 : Int32) (p1 : Int32) (p2 : Int32)  (hO : dkOk I0) : Met l yX6_shows wsX6_shows (dkR 7) (dkPc g z [.ref (z + 340), .int p0, .int p1, .int p2] I0) (dkQi g z (fun r I1 => dkF [(340, 340, 20, 22), (348, 348, 0, 53)] I0 I1 ∧ dkOk I1 ∧ ((True ∧ True)))) 0 0 (dkA z) := by
  refine Met.ofW (cc := cX6_shows) (maxL := 14) (ret := (some .int)) (by decide) rfl ?_
  intro p e s m args below meth c s₁ B hml hv
  obtain ⟨ha, hW, hK, hT⟩ := hv
  have hx := B.exec
  have hb := B.bytes
  have hr := B.returns
  have hts := atoms_spec (ws := wsX6_shows) B.pre
  have hown : s.vm.findClass RX6 = some m.cls := findClass_of_methodNamed B.named
  have hlocks := B.notSynchronized
  have hS : va_S (dkA z) s.heap s.heap [] := va_S.rf
  have hF : dkF [(340, 340, 20, 22), (348, 348, 0, 53)] I0 I0 := dkF_rf _ _
  have hl := lv_entry ([.ref (z + 340), .int p0, .int p1, .int p2]) (n := 14) (Nat.le_of_ble_eq_true rfl)
  have hgo : entryFrame m args 14 = entryFrame m ([.ref (z + 340), .int p0, .int p1, .int p2] : List Value).toArray 14 := by rw [ha]
  rw [hgo, lg_entry_eq]
  generalize (lg_sl ([.ref (z + 340), .int p0, .int p1, .int p2]) ++ List.replicate (14 - (lg_sl ([.ref (z + 340), .int p0, .int p1, .int p2])).length) Slot.unset).toArray = ls at hl ⊢
  have hl : lv_has ls 14 [(0, .ref (z + 340)), (1, .int p0), (2, .int p1), (3, .int p2)] := hl
  have C61 : ∀ (n : Nat), ∀ (I : dkI) (H : Heap) (locs : List Loc) (ls : Array Slot) (x61_4 : Int32) (x61_5 : Int32) (x61_6 : Int32), (2 - x61_6.toInt).toNat < n → dkW g z I H → va_S (dkA z) s.heap H locs → dkF [(340, 340, 20, 22), (348, 348, 0, 53)] I0 I → dkOk I → dkN [(1, 4)] x61_4 → dkN [(0, 2)] x61_6 → dkN [(0, 4)] p0 → dkN [(0, 4)] p1 → dkN [(1, 2)] p2 → lv_has ls 14 [(0, .ref (z + 340)), (1, .int p0), (2, .int p1), (3, .int p2), (4, .int x61_4), (5, .int x61_5), (6, .int x61_6)] → W p l e (headSpec wsX6_shows (dkR 7)).room s m args below meth c H locs 0 0 (MQ below (dkQi g z (fun r I1 => dkF [(340, 340, 20, 22), (348, 348, 0, 53)] I0 I1 ∧ dkOk I1 ∧ ((True ∧ True)))) args s 0 0 (dkA z)) (F0 m 61 ls []) := by
    intro n
    induction n with
    | zero => intro I H locs ls x61_4 x61_5 x61_6 hn; exact absurd hn (Nat.not_lt_zero _)
    | succ n ih61 =>
      intro I61_ H locs ls x61_4 x61_5 x61_6 hn61 hW hS hF_61 hO k61_0 k61_2 r61_0 r61_1 r61_2 hl
      have hF := hF_61
      have C249 : ∀ (I : dkI) (H : Heap) (locs : List Loc) (ls : Array Slot) (x249_7 : Int32) (x249_8 : Int32) (x249_s0 : Int32), dkW g z I H → va_S (dkA z) s.heap H locs → dkF [(340, 340, 20, 22), (348, 348, 0, 53)] I0 I → dkOk I → dkN [(2, 2)] x249_8 → dkN [(0, 4)] p0 → dkN [(0, 4)] p1 → dkN [(1, 2)] p2 → dkN [(1, 4)] x61_4 → dkN [(0, 1)] x61_6 → lv_has ls 14 [(0, .ref (z + 340)), (1, .int p0), (2, .int p1), (3, .int p2), (4, .int x61_4), (5, .int x61_5), (6, .int x61_6), (7, .int x249_7), (8, .int x249_8)] → W p l e (headSpec wsX6_shows (dkR 7)).room s m args below meth c H locs 0 0 (MQ below (dkQi g z (fun r I1 => dkF [(340, 340, 20, 22), (348, 348, 0, 53)] I0 I1 ∧ dkOk I1 ∧ ((True ∧ True)))) args s 0 0 (dkA z)) (F0 m 249 ls [.int x249_s0]) := by
        intro I249_ H locs ls x249_7 x249_8 x249_s0 hW hS hF_249 hO k249_1 r249_0 r249_1 r249_2 r249_3 r249_4 hl
        have hF := hF_249
        refine lv_istore (lv' := [(5, .int x249_s0), (0, .ref (z + 340)), (1, .int p0), (2, .int p1), (3, .int p2), (4, .int x61_4), (6, .int x61_6), (7, .int x249_7), (8, .int x249_8)]) hx hb dX6_shows_249 hl (by decide) rfl (fun ls hl => ?_)
        obtain ⟨v1, ev1⟩ : ∃ y : Int32, y = x61_6 + 1 := ⟨_, rfl⟩
        have dv1 : dkN [(1, 2)] v1 := by rw [ev1]; exact dkN_add r249_4 (dkN_lit (x := 1) (1) rfl) rfl
        refine lv_iinc (v := v1) (lv' := [(6, .int v1), (5, .int x249_s0), (0, .ref (z + 340)), (1, .int p0), (2, .int p1), (3, .int p2), (4, .int x61_4), (7, .int x249_7), (8, .int x249_8)]) hx hb dX6_shows_251 hl (k := 6) rfl (by rw [ev1]; rfl) (by decide) rfl (fun ls hl => ?_)
        refine lv_goto (tgt := 61) hx hb dX6_shows_254 (by decide) ?_
        exact ih61 I249_ _ _ ls x61_4 x249_s0 v1 (dk_near hn61 (by rw [ev1]; exact dk_inc r249_4 rfl) (dkN_lt r249_4 rfl)) hW hS hF hO (dkN_sub r249_3 rfl) (dkN_sub dv1 rfl) (dkN_sub r249_0 rfl) (dkN_sub r249_1 rfl) (dkN_sub r249_2 rfl) (lv_sub hl [2, 3, 4, 5, 6, 1, 0] rfl)
      have C242 : ∀ (I : dkI) (H : Heap) (locs : List Loc) (ls : Array Slot) (x242_7 : Int32) (x242_8 : Int32), dkW g z I H → va_S (dkA z) s.heap H locs → dkF [(340, 340, 20, 22), (348, 348, 0, 53)] I0 I → dkOk I → dkN [(2, 2)] x242_8 → dkN [(0, 4)] p0 → dkN [(0, 4)] p1 → dkN [(1, 2)] p2 → dkN [(1, 4)] x61_4 → dkN [(0, 1)] x61_6 → lv_has ls 14 [(0, .ref (z + 340)), (1, .int p0), (2, .int p1), (3, .int p2), (4, .int x61_4), (5, .int x61_5), (6, .int x61_6), (7, .int x242_7), (8, .int x242_8)] → W p l e (headSpec wsX6_shows (dkR 7)).room s m args below meth c H locs 0 0 (MQ below (dkQi g z (fun r I1 => dkF [(340, 340, 20, 22), (348, 348, 0, 53)] I0 I1 ∧ dkOk I1 ∧ ((True ∧ True)))) args s 0 0 (dkA z)) (F0 m 242 ls []) := by
        intro I242_ H locs ls x242_7 x242_8 hW hS hF_242 hO k242_1 r242_0 r242_1 r242_2 r242_3 r242_4 hl
        have hF := hF_242
        refine lv_iload hx hb dX6_shows_242 (lv_at hl 7 rfl) ?_
        refine lv_goto (tgt := 249) hx hb dX6_shows_244 (by decide) ?_
        exact C249 I242_ _ _ ls x242_7 x242_8 x242_7 hW hS hF hO (dkN_sub k242_1 rfl) (dkN_sub r242_0 rfl) (dkN_sub r242_1 rfl) (dkN_sub r242_2 rfl) (dkN_sub r242_3 rfl) (dkN_sub r242_4 rfl) (lv_sub hl [0, 1, 2, 3, 4, 5, 6, 7, 8] rfl)
      have C73 : ∀ (n : Nat), ∀ (I : dkI) (H : Heap) (locs : List Loc) (ls : Array Slot) (x73_7 : Int32) (x73_8 : Int32), (2 - x73_8.toInt).toNat < n → dkW g z I H → va_S (dkA z) s.heap H locs → dkF [(340, 340, 20, 22), (348, 348, 0, 53)] I0 I → dkOk I → dkN [(0, 2)] x73_8 → dkN [(0, 4)] p0 → dkN [(0, 4)] p1 → dkN [(1, 2)] p2 → dkN [(1, 4)] x61_4 → dkN [(0, 1)] x61_6 → lv_has ls 14 [(0, .ref (z + 340)), (1, .int p0), (2, .int p1), (3, .int p2), (4, .int x61_4), (5, .int x61_5), (6, .int x61_6), (7, .int x73_7), (8, .int x73_8)] → W p l e (headSpec wsX6_shows (dkR 7)).room s m args below meth c H locs 0 0 (MQ below (dkQi g z (fun r I1 => dkF [(340, 340, 20, 22), (348, 348, 0, 53)] I0 I1 ∧ dkOk I1 ∧ ((True ∧ True)))) args s 0 0 (dkA z)) (F0 m 73 ls []) := by
        intro n
        induction n with
        | zero => intro I H locs ls x73_7 x73_8 hn; exact absurd hn (Nat.not_lt_zero _)
        | succ n ih73 =>
          intro I73_ H locs ls x73_7 x73_8 hn73 hW hS hF_73 hO k73_1 r73_0 r73_1 r73_2 r73_3 r73_4 hl
          have hF := hF_73
          have C222 : ∀ (I : dkI) (H : Heap) (locs : List Loc) (ls : Array Slot) (x222_9 : Int32) (x222_10 : Int32) (x222_s0 : Int32), dkW g z I H → va_S (dkA z) s.heap H locs → dkF [(340, 340, 20, 22), (348, 348, 0, 53)] I0 I → dkOk I → dkN [(1, 2)] x222_10 → dkN [(0, 4)] p0 → dkN [(0, 4)] p1 → dkN [(1, 2)] p2 → dkN [(1, 4)] x61_4 → dkN [(0, 1)] x61_6 → dkN [(0, 1)] x73_8 → lv_has ls 14 [(0, .ref (z + 340)), (1, .int p0), (2, .int p1), (3, .int p2), (4, .int x61_4), (5, .int x61_5), (6, .int x61_6), (7, .int x73_7), (8, .int x73_8), (9, .int x222_9), (10, .int x222_10)] → W p l e (headSpec wsX6_shows (dkR 7)).room s m args below meth c H locs 0 0 (MQ below (dkQi g z (fun r I1 => dkF [(340, 340, 20, 22), (348, 348, 0, 53)] I0 I1 ∧ dkOk I1 ∧ ((True ∧ True)))) args s 0 0 (dkA z)) (F0 m 222 ls [.int x222_s0]) := by
            intro I222_ H locs ls x222_9 x222_10 x222_s0 hW hS hF_222 hO k222_1 r222_0 r222_1 r222_2 r222_3 r222_4 r222_5 hl
            have hF := hF_222
            refine lv_istore (lv' := [(7, .int x222_s0), (0, .ref (z + 340)), (1, .int p0), (2, .int p1), (3, .int p2), (4, .int x61_4), (5, .int x61_5), (6, .int x61_6), (8, .int x73_8), (9, .int x222_9), (10, .int x222_10)]) hx hb dX6_shows_222 hl (by decide) rfl (fun ls hl => ?_)
            obtain ⟨v2, ev2⟩ : ∃ y : Int32, y = x73_8 + 1 := ⟨_, rfl⟩
            have dv2 : dkN [(1, 2)] v2 := by rw [ev2]; exact dkN_add r222_5 (dkN_lit (x := 1) (1) rfl) rfl
            refine lv_iinc (v := v2) (lv' := [(8, .int v2), (7, .int x222_s0), (0, .ref (z + 340)), (1, .int p0), (2, .int p1), (3, .int p2), (4, .int x61_4), (5, .int x61_5), (6, .int x61_6), (9, .int x222_9), (10, .int x222_10)]) hx hb dX6_shows_224 hl (k := 8) rfl (by rw [ev2]; rfl) (by decide) rfl (fun ls hl => ?_)
            refine lv_goto (tgt := 73) hx hb dX6_shows_227 (by decide) ?_
            exact ih73 I222_ _ _ ls x222_s0 v2 (dk_near hn73 (by rw [ev2]; exact dk_inc r222_5 rfl) (dkN_lt r222_5 rfl)) hW hS hF hO (dkN_sub dv2 rfl) (dkN_sub r222_0 rfl) (dkN_sub r222_1 rfl) (dkN_sub r222_2 rfl) (dkN_sub r222_3 rfl) (dkN_sub r222_4 rfl) (lv_sub hl [2, 3, 4, 5, 6, 7, 8, 1, 0] rfl)
          have C215 : ∀ (I : dkI) (H : Heap) (locs : List Loc) (ls : Array Slot) (x215_9 : Int32) (x215_10 : Int32), dkW g z I H → va_S (dkA z) s.heap H locs → dkF [(340, 340, 20, 22), (348, 348, 0, 53)] I0 I → dkOk I → dkN [(1, 2)] x215_10 → dkN [(0, 4)] p0 → dkN [(0, 4)] p1 → dkN [(1, 2)] p2 → dkN [(1, 4)] x61_4 → dkN [(0, 1)] x61_6 → dkN [(0, 1)] x73_8 → lv_has ls 14 [(0, .ref (z + 340)), (1, .int p0), (2, .int p1), (3, .int p2), (4, .int x61_4), (5, .int x61_5), (6, .int x61_6), (7, .int x73_7), (8, .int x73_8), (9, .int x215_9), (10, .int x215_10)] → W p l e (headSpec wsX6_shows (dkR 7)).room s m args below meth c H locs 0 0 (MQ below (dkQi g z (fun r I1 => dkF [(340, 340, 20, 22), (348, 348, 0, 53)] I0 I1 ∧ dkOk I1 ∧ ((True ∧ True)))) args s 0 0 (dkA z)) (F0 m 215 ls []) := by
            intro I215_ H locs ls x215_9 x215_10 hW hS hF_215 hO k215_1 r215_0 r215_1 r215_2 r215_3 r215_4 r215_5 hl
            have hF := hF_215
            refine lv_iload hx hb dX6_shows_215 (lv_at hl 9 rfl) ?_
            refine lv_goto (tgt := 222) hx hb dX6_shows_217 (by decide) ?_
            exact C222 I215_ _ _ ls x215_9 x215_10 x215_9 hW hS hF hO (dkN_sub k215_1 rfl) (dkN_sub r215_0 rfl) (dkN_sub r215_1 rfl) (dkN_sub r215_2 rfl) (dkN_sub r215_3 rfl) (dkN_sub r215_4 rfl) (dkN_sub r215_5 rfl) (lv_sub hl [0, 1, 2, 3, 4, 5, 6, 7, 8, 9, 10] rfl)
          have C85 : ∀ (n : Nat), ∀ (I : dkI) (H : Heap) (locs : List Loc) (ls : Array Slot) (x85_9 : Int32) (x85_10 : Int32), (2 - x85_10.toInt).toNat < n → dkW g z I H → va_S (dkA z) s.heap H locs → dkF [(340, 340, 20, 22), (348, 348, 0, 53)] I0 I → dkOk I → dkN [(0, 2)] x85_10 → dkN [(0, 4)] p0 → dkN [(0, 4)] p1 → dkN [(1, 2)] p2 → dkN [(1, 4)] x61_4 → dkN [(0, 1)] x61_6 → dkN [(0, 1)] x73_8 → lv_has ls 14 [(0, .ref (z + 340)), (1, .int p0), (2, .int p1), (3, .int p2), (4, .int x61_4), (5, .int x61_5), (6, .int x61_6), (7, .int x73_7), (8, .int x73_8), (9, .int x85_9), (10, .int x85_10)] → W p l e (headSpec wsX6_shows (dkR 7)).room s m args below meth c H locs 0 0 (MQ below (dkQi g z (fun r I1 => dkF [(340, 340, 20, 22), (348, 348, 0, 53)] I0 I1 ∧ dkOk I1 ∧ ((True ∧ True)))) args s 0 0 (dkA z)) (F0 m 85 ls []) := by
            intro n
            induction n with
            | zero => intro I H locs ls x85_9 x85_10 hn; exact absurd hn (Nat.not_lt_zero _)
            | succ n ih85 =>
              intro I85_ H locs ls x85_9 x85_10 hn85 hW hS hF_85 hO k85_1 r85_0 r85_1 r85_2 r85_3 r85_4 r85_5 hl
              have hF := hF_85
              have C195 : ∀ (I : dkI) (H : Heap) (locs : List Loc) (ls : Array Slot) (x195_11 : Int32) (x195_12 : Int32) (x195_s0 : Int32), dkW g z I H → va_S (dkA z) s.heap H locs → dkF [(340, 340, 20, 22), (348, 348, 0, 53)] I0 I → dkOk I → dkN [(1, 2)] x195_12 → dkN [(0, 4)] p0 → dkN [(0, 4)] p1 → dkN [(1, 2)] p2 → dkN [(1, 4)] x61_4 → dkN [(0, 1)] x61_6 → dkN [(0, 1)] x73_8 → dkN [(0, 1)] x85_10 → lv_has ls 14 [(0, .ref (z + 340)), (1, .int p0), (2, .int p1), (3, .int p2), (4, .int x61_4), (5, .int x61_5), (6, .int x61_6), (7, .int x73_7), (8, .int x73_8), (9, .int x85_9), (10, .int x85_10), (11, .int x195_11), (12, .int x195_12)] → W p l e (headSpec wsX6_shows (dkR 7)).room s m args below meth c H locs 0 0 (MQ below (dkQi g z (fun r I1 => dkF [(340, 340, 20, 22), (348, 348, 0, 53)] I0 I1 ∧ dkOk I1 ∧ ((True ∧ True)))) args s 0 0 (dkA z)) (F0 m 195 ls [.int x195_s0]) := by
                intro I195_ H locs ls x195_11 x195_12 x195_s0 hW hS hF_195 hO k195_1 r195_0 r195_1 r195_2 r195_3 r195_4 r195_5 r195_6 hl
                have hF := hF_195
                refine lv_istore (lv' := [(9, .int x195_s0), (0, .ref (z + 340)), (1, .int p0), (2, .int p1), (3, .int p2), (4, .int x61_4), (5, .int x61_5), (6, .int x61_6), (7, .int x73_7), (8, .int x73_8), (10, .int x85_10), (11, .int x195_11), (12, .int x195_12)]) hx hb dX6_shows_195 hl (by decide) rfl (fun ls hl => ?_)
                obtain ⟨v3, ev3⟩ : ∃ y : Int32, y = x85_10 + 1 := ⟨_, rfl⟩
                have dv3 : dkN [(1, 2)] v3 := by rw [ev3]; exact dkN_add r195_6 (dkN_lit (x := 1) (1) rfl) rfl
                refine lv_iinc (v := v3) (lv' := [(10, .int v3), (9, .int x195_s0), (0, .ref (z + 340)), (1, .int p0), (2, .int p1), (3, .int p2), (4, .int x61_4), (5, .int x61_5), (6, .int x61_6), (7, .int x73_7), (8, .int x73_8), (11, .int x195_11), (12, .int x195_12)]) hx hb dX6_shows_197 hl (k := 10) rfl (by rw [ev3]; rfl) (by decide) rfl (fun ls hl => ?_)
                refine lv_goto (tgt := 85) hx hb dX6_shows_200 (by decide) ?_
                exact ih85 I195_ _ _ ls x195_s0 v3 (dk_near hn85 (by rw [ev3]; exact dk_inc r195_6 rfl) (dkN_lt r195_6 rfl)) hW hS hF hO (dkN_sub dv3 rfl) (dkN_sub r195_0 rfl) (dkN_sub r195_1 rfl) (dkN_sub r195_2 rfl) (dkN_sub r195_3 rfl) (dkN_sub r195_4 rfl) (dkN_sub r195_5 rfl) (lv_sub hl [2, 3, 4, 5, 6, 7, 8, 9, 10, 1, 0] rfl)
              have C188 : ∀ (I : dkI) (H : Heap) (locs : List Loc) (ls : Array Slot) (x188_11 : Int32) (x188_12 : Int32), dkW g z I H → va_S (dkA z) s.heap H locs → dkF [(340, 340, 20, 22), (348, 348, 0, 53)] I0 I → dkOk I → dkN [(1, 2)] x188_12 → dkN [(0, 4)] p0 → dkN [(0, 4)] p1 → dkN [(1, 2)] p2 → dkN [(1, 4)] x61_4 → dkN [(0, 1)] x61_6 → dkN [(0, 1)] x73_8 → dkN [(0, 1)] x85_10 → lv_has ls 14 [(0, .ref (z + 340)), (1, .int p0), (2, .int p1), (3, .int p2), (4, .int x61_4), (5, .int x61_5), (6, .int x61_6), (7, .int x73_7), (8, .int x73_8), (9, .int x85_9), (10, .int x85_10), (11, .int x188_11), (12, .int x188_12)] → W p l e (headSpec wsX6_shows (dkR 7)).room s m args below meth c H locs 0 0 (MQ below (dkQi g z (fun r I1 => dkF [(340, 340, 20, 22), (348, 348, 0, 53)] I0 I1 ∧ dkOk I1 ∧ ((True ∧ True)))) args s 0 0 (dkA z)) (F0 m 188 ls []) := by
                intro I188_ H locs ls x188_11 x188_12 hW hS hF_188 hO k188_1 r188_0 r188_1 r188_2 r188_3 r188_4 r188_5 r188_6 hl
                have hF := hF_188
                refine lv_iload hx hb dX6_shows_188 (lv_at hl 11 rfl) ?_
                refine lv_goto (tgt := 195) hx hb dX6_shows_190 (by decide) ?_
                exact C195 I188_ _ _ ls x188_11 x188_12 x188_11 hW hS hF hO (dkN_sub k188_1 rfl) (dkN_sub r188_0 rfl) (dkN_sub r188_1 rfl) (dkN_sub r188_2 rfl) (dkN_sub r188_3 rfl) (dkN_sub r188_4 rfl) (dkN_sub r188_5 rfl) (dkN_sub r188_6 rfl) (lv_sub hl [0, 1, 2, 3, 4, 5, 6, 7, 8, 9, 10, 11, 12] rfl)
              have C107 : ∀ (n : Nat), ∀ (I : dkI) (H : Heap) (locs : List Loc) (ls : Array Slot) (x107_11 : Int32) (x107_12 : Int32), (2 - x107_12.toInt).toNat < n → dkW g z I H → va_S (dkA z) s.heap H locs → dkF [(340, 340, 20, 22), (348, 348, 0, 53)] I0 I → dkOk I → dkN [(0, 2)] x107_12 → dkN [(0, 4)] p0 → dkN [(0, 4)] p1 → dkN [(1, 2)] p2 → dkN [(1, 4)] x61_4 → dkN [(0, 1)] x61_6 → dkN [(0, 1)] x73_8 → dkN [(0, 1)] x85_10 → lv_has ls 14 [(0, .ref (z + 340)), (1, .int p0), (2, .int p1), (3, .int p2), (4, .int x61_4), (5, .int x61_5), (6, .int x61_6), (7, .int x73_7), (8, .int x73_8), (9, .int x85_9), (10, .int x85_10), (11, .int x107_11), (12, .int x107_12)] → W p l e (headSpec wsX6_shows (dkR 7)).room s m args below meth c H locs 0 0 (MQ below (dkQi g z (fun r I1 => dkF [(340, 340, 20, 22), (348, 348, 0, 53)] I0 I1 ∧ dkOk I1 ∧ ((True ∧ True)))) args s 0 0 (dkA z)) (F0 m 107 ls []) := by
                intro n
                induction n with
                | zero => intro I H locs ls x107_11 x107_12 hn; exact absurd hn (Nat.not_lt_zero _)
                | succ n ih107 =>
                  intro I107_ H locs ls x107_11 x107_12 hn107 hW hS hF_107 hO k107_1 r107_0 r107_1 r107_2 r107_3 r107_4 r107_5 r107_6 hl
                  have hF := hF_107
                  have C168 : ∀ (I : dkI) (H : Heap) (locs : List Loc) (ls : Array Slot) (x168_13 : Int32) (x168_s0 : Int32), dkW g z I H → va_S (dkA z) s.heap H locs → dkF [(340, 340, 20, 22), (348, 348, 0, 53)] I0 I → dkOk I → dkN [(0, 4)] p0 → dkN [(0, 4)] p1 → dkN [(1, 2)] p2 → dkN [(1, 4)] x61_4 → dkN [(0, 1)] x61_6 → dkN [(0, 1)] x73_8 → dkN [(0, 1)] x85_10 → dkN [(0, 1)] x107_12 → dkN [(0, 0)] (I 340 20) → dkN [(0, 0)] (I 340 21) → dkN [(0, 0)] (I 340 22) → dkN [(0, 2147483647)] (I 348 3) → lv_has ls 14 [(0, .ref (z + 340)), (1, .int p0), (2, .int p1), (3, .int p2), (4, .int x61_4), (5, .int x61_5), (6, .int x61_6), (7, .int x73_7), (8, .int x73_8), (9, .int x85_9), (10, .int x85_10), (11, .int x107_11), (12, .int x107_12), (13, .int x168_13)] → W p l e (headSpec wsX6_shows (dkR 7)).room s m args below meth c H locs 0 0 (MQ below (dkQi g z (fun r I1 => dkF [(340, 340, 20, 22), (348, 348, 0, 53)] I0 I1 ∧ dkOk I1 ∧ ((True ∧ True)))) args s 0 0 (dkA z)) (F0 m 168 ls [.int x168_s0]) := by
                    intro I168_ H locs ls x168_13 x168_s0 hW hS hF_168 hO r168_0 r168_1 r168_2 r168_3 r168_4 r168_5 r168_6 r168_7 f168_0 f168_1 f168_2 f168_3 hl
                    have hF := hF_168
                    refine lv_istore (lv' := [(11, .int x168_s0), (0, .ref (z + 340)), (1, .int p0), (2, .int p1), (3, .int p2), (4, .int x61_4), (5, .int x61_5), (6, .int x61_6), (7, .int x73_7), (8, .int x73_8), (9, .int x85_9), (10, .int x85_10), (12, .int x107_12), (13, .int x168_13)]) hx hb dX6_shows_168 hl (by decide) rfl (fun ls hl => ?_)
                    obtain ⟨v4, ev4⟩ : ∃ y : Int32, y = x107_12 + 1 := ⟨_, rfl⟩
                    have dv4 : dkN [(1, 2)] v4 := by rw [ev4]; exact dkN_add r168_7 (dkN_lit (x := 1) (1) rfl) rfl
                    refine lv_iinc (v := v4) (lv' := [(12, .int v4), (11, .int x168_s0), (0, .ref (z + 340)), (1, .int p0), (2, .int p1), (3, .int p2), (4, .int x61_4), (5, .int x61_5), (6, .int x61_6), (7, .int x73_7), (8, .int x73_8), (9, .int x85_9), (10, .int x85_10), (13, .int x168_13)]) hx hb dX6_shows_170 hl (k := 12) rfl (by rw [ev4]; rfl) (by decide) rfl (fun ls hl => ?_)
                    refine lv_goto (tgt := 107) hx hb dX6_shows_173 (by decide) ?_
                    exact ih107 I168_ _ _ ls x168_s0 v4 (dk_near hn107 (by rw [ev4]; exact dk_inc r168_7 rfl) (dkN_lt r168_7 rfl)) hW hS hF hO (dkN_sub dv4 rfl) (dkN_sub r168_0 rfl) (dkN_sub r168_1 rfl) (dkN_sub r168_2 rfl) (dkN_sub r168_3 rfl) (dkN_sub r168_4 rfl) (dkN_sub r168_5 rfl) (dkN_sub r168_6 rfl) (lv_sub hl [2, 3, 4, 5, 6, 7, 8, 9, 10, 11, 12, 1, 0] rfl)
                  have C161 : ∀ (I : dkI) (H : Heap) (locs : List Loc) (ls : Array Slot) (x161_13 : Int32), dkW g z I H → va_S (dkA z) s.heap H locs → dkF [(340, 340, 20, 22), (348, 348, 0, 53)] I0 I → dkOk I → dkN [(0, 4)] p0 → dkN [(0, 4)] p1 → dkN [(1, 2)] p2 → dkN [(1, 4)] x61_4 → dkN [(0, 1)] x61_6 → dkN [(0, 1)] x73_8 → dkN [(0, 1)] x85_10 → dkN [(0, 1)] x107_12 → dkN [(0, 0)] (I 340 20) → dkN [(0, 0)] (I 340 21) → dkN [(0, 0)] (I 340 22) → dkN [(0, 2147483647)] (I 348 3) → lv_has ls 14 [(0, .ref (z + 340)), (1, .int p0), (2, .int p1), (3, .int p2), (4, .int x61_4), (5, .int x61_5), (6, .int x61_6), (7, .int x73_7), (8, .int x73_8), (9, .int x85_9), (10, .int x85_10), (11, .int x107_11), (12, .int x107_12), (13, .int x161_13)] → W p l e (headSpec wsX6_shows (dkR 7)).room s m args below meth c H locs 0 0 (MQ below (dkQi g z (fun r I1 => dkF [(340, 340, 20, 22), (348, 348, 0, 53)] I0 I1 ∧ dkOk I1 ∧ ((True ∧ True)))) args s 0 0 (dkA z)) (F0 m 161 ls []) := by
                    intro I161_ H locs ls x161_13 hW hS hF_161 hO r161_0 r161_1 r161_2 r161_3 r161_4 r161_5 r161_6 r161_7 f161_0 f161_1 f161_2 f161_3 hl
                    have hF := hF_161
                    refine lv_iload hx hb dX6_shows_161 (lv_at hl 13 rfl) ?_
                    refine lv_goto (tgt := 168) hx hb dX6_shows_163 (by decide) ?_
                    exact C168 I161_ _ _ ls x161_13 x161_13 hW hS hF hO (dkN_sub r161_0 rfl) (dkN_sub r161_1 rfl) (dkN_sub r161_2 rfl) (dkN_sub r161_3 rfl) (dkN_sub r161_4 rfl) (dkN_sub r161_5 rfl) (dkN_sub r161_6 rfl) (dkN_sub r161_7 rfl) (show dkN [(0, 0)] (I161_ 340 20) from dkN_sub f161_0 rfl) (show dkN [(0, 0)] (I161_ 340 21) from dkN_sub f161_1 rfl) (show dkN [(0, 0)] (I161_ 340 22) from dkN_sub f161_2 rfl) (show dkN [(0, 2147483647)] (I161_ 348 3) from dkN_sub f161_3 rfl) (lv_sub hl [0, 1, 2, 3, 4, 5, 6, 7, 8, 9, 10, 11, 12, 13] rfl)
                  have C120 : ∀ (I : dkI) (H : Heap) (locs : List Loc) (ls : Array Slot) (x120_s0 : Int32), dkW g z I H → va_S (dkA z) s.heap H locs → dkF [(340, 340, 20, 22), (348, 348, 0, 53)] I0 I → dkOk I → dkN [(1, 2)] x120_s0 → dkN [(0, 4)] p0 → dkN [(0, 4)] p1 → dkN [(1, 2)] p2 → dkN [(1, 4)] x61_4 → dkN [(0, 1)] x61_6 → dkN [(0, 1)] x73_8 → dkN [(0, 1)] x85_10 → dkN [(0, 2)] x107_12 → lv_has ls 14 [(0, .ref (z + 340)), (1, .int p0), (2, .int p1), (3, .int p2), (4, .int x61_4), (5, .int x61_5), (6, .int x61_6), (7, .int x73_7), (8, .int x73_8), (9, .int x85_9), (10, .int x85_10), (11, .int x107_11), (12, .int x107_12)] → W p l e (headSpec wsX6_shows (dkR 7)).room s m args below meth c H locs 0 0 (MQ below (dkQi g z (fun r I1 => dkF [(340, 340, 20, 22), (348, 348, 0, 53)] I0 I1 ∧ dkOk I1 ∧ ((True ∧ True)))) args s 0 0 (dkA z)) (F0 m 120 ls [.int x120_s0, .int x107_12]) := by
                    intro I120_ H locs ls x120_s0 hW hS hF_120 hO k120_0 r120_0 r120_1 r120_2 r120_3 r120_4 r120_5 r120_6 r120_7 hl
                    have hF := hF_120
                    refine lv_icmp_ge (tgt := 176) hx hb dX6_shows_120 (by decide) (fun c5 => ?_) (fun c5 => ?_)
                    ·
                      have d6 : dkN [(1, 2)] x107_12 := dkN_le2 0 k120_0 r120_7 (dkc_le c5) rfl
                      refine lv_iload hx hb dX6_shows_176 (lv_at hl 10 rfl) ?_
                      refine lv_if_eq (tgt := 188) hx hb dX6_shows_178 (by decide) (fun c7 => ?_) (fun c7 => ?_)
                      ·
                        have d8 : dkN [(0, 0)] x85_10 := dkN_eq1 r120_6 (dkN_lit (x := 0) (0) rfl) (congrArg Int32.toInt c7) rfl
                        exact C188 I120_ _ _ ls x107_11 x107_12 hW hS hF hO (dkN_sub d6 rfl) (dkN_sub r120_0 rfl) (dkN_sub r120_1 rfl) (dkN_sub r120_2 rfl) (dkN_sub r120_3 rfl) (dkN_sub r120_4 rfl) (dkN_sub r120_5 rfl) (dkN_sub d8 rfl) (lv_sub hl [0, 1, 2, 3, 4, 5, 6, 7, 8, 9, 10, 11, 12] rfl)
                      ·
                        have d9 : dkN [(1, 1)] x85_10 := dkN_ne1 (0) r120_6 (dkN_lit (x := 0) (0) rfl) (dk_ne c7) rfl
                        refine lv_iload hx hb dX6_shows_181 (lv_at hl 11 rfl) ?_
                        refine lv_iload hx hb dX6_shows_183 (lv_at hl 9 rfl) ?_
                        refine lv_icmp_le (tgt := 193) hx hb dX6_shows_185 (by decide) (fun c10 => ?_) (fun c10 => ?_)
                        ·
                          refine lv_iload hx hb dX6_shows_193 (lv_at hl 9 rfl) ?_
                          exact C195 I120_ _ _ ls x107_11 x107_12 x85_9 hW hS hF hO (dkN_sub d6 rfl) (dkN_sub r120_0 rfl) (dkN_sub r120_1 rfl) (dkN_sub r120_2 rfl) (dkN_sub r120_3 rfl) (dkN_sub r120_4 rfl) (dkN_sub r120_5 rfl) (dkN_sub d9 rfl) (lv_sub hl [0, 1, 2, 3, 4, 5, 6, 7, 8, 9, 10, 11, 12] rfl)
                        ·
                          have d11 : dkN [(-2147483647, 2147483647)] x107_11 := dkN_le2 1 (dkN_top x85_9) (dkN_top x107_11) (dkc_nle c10) rfl
                          have d12 : dkN [(-2147483648, 2147483646)] x85_9 := dkN_le1 1 (dkN_top x85_9) (dkN_top x107_11) (dkc_nle c10) rfl
                          exact C188 I120_ _ _ ls x107_11 x107_12 hW hS hF hO (dkN_sub d6 rfl) (dkN_sub r120_0 rfl) (dkN_sub r120_1 rfl) (dkN_sub r120_2 rfl) (dkN_sub r120_3 rfl) (dkN_sub r120_4 rfl) (dkN_sub r120_5 rfl) (dkN_sub d9 rfl) (lv_sub hl [0, 1, 2, 3, 4, 5, 6, 7, 8, 9, 10, 11, 12] rfl)
                    ·
                      have d13 : dkN [(0, 1)] x107_12 := dkN_le1 1 r120_7 k120_0 (dkc_nle c5) rfl
                      refine lv_aload_n hx hb dX6_shows_123 rfl (lv_at hl 0 rfl) ?_
                      refine lv_iload_n hx hb dX6_shows_124 rfl (lv_at hl 1 rfl) ?_
                      refine lv_iload_n hx hb dX6_shows_125 rfl (lv_at hl 2 rfl) ?_
                      refine lv_iload_n hx hb dX6_shows_126 rfl (lv_at hl 3 rfl) ?_
                      refine lv_iload hx hb dX6_shows_127 (lv_at hl 6 rfl) ?_
                      refine lv_iload hx hb dX6_shows_129 (lv_at hl 8 rfl) ?_
                      refine lv_iconst (v := 1) hx hb dX6_shows_131 (by decide) ?_
                      refine lv_ishl hx hb dX6_shows_132 ?_
                      refine lv_topi (fun v14 ev14 => ?_)
                      refine lv_ior hx hb dX6_shows_133 ?_
                      refine lv_topi (fun v15 ev15 => ?_)
                      refine lv_iload hx hb dX6_shows_134 (lv_at hl 10 rfl) ?_
                      refine lv_iconst (v := 2) hx hb dX6_shows_136 (by decide) ?_
                      refine lv_ishl hx hb dX6_shows_137 ?_
                      refine lv_topi (fun v16 ev16 => ?_)
                      refine lv_ior hx hb dX6_shows_138 ?_
                      refine lv_topi (fun v17 ev17 => ?_)
                      refine lv_iload hx hb dX6_shows_139 (lv_at hl 12 rfl) ?_
                      refine lv_iconst (v := 3) hx hb dX6_shows_141 (by decide) ?_
                      refine lv_ishl hx hb dX6_shows_142 ?_
                      refine lv_topi (fun v18 ev18 => ?_)
                      refine lv_ior hx hb dX6_shows_143 ?_
                      refine lv_topi (fun v19 ev19 => ?_)
                      refine dk_Vi (As := [.int p0, .int p1, .int p2, .int v19]) (rest := []) ⟨hx, hb, hml, hown, hts⟩ (c_X6_showing_1 l g z I120_ p0 p1 p2 v19 r120_0 r120_1 r120_2 hO) (cwV 4 hts gX6_shows_X6_showing rfl rfl rfl (by decide +kernel) ⟨Nat.le_of_ble_eq_true rfl, Nat.le_of_ble_eq_true rfl⟩) (dk_at340 hW) rfl hK hT hW hS rfl hl.1 rfl (Nat.le_of_ble_eq_true rfl) dX6_shows_144 ⟨Nat.zero_le _, Nat.zero_le _⟩ (fun v20 I20 H20 L20 hp20 hW hS => ?_)
                      obtain ⟨hF20, hO, hc20⟩ := hp20
                      have hF := dkF_call hF hF20 rfl
                      obtain ⟨_, f20_340_20, f20_340_21, f20_340_22, f20_348_3, -⟩ := hc20
                      refine lv_istore (lv' := [(13, .int v20), (0, .ref (z + 340)), (1, .int p0), (2, .int p1), (3, .int p2), (4, .int x61_4), (5, .int x61_5), (6, .int x61_6), (7, .int x73_7), (8, .int x73_8), (9, .int x85_9), (10, .int x85_10), (11, .int x107_11), (12, .int x107_12)]) hx hb dX6_shows_147 hl (by decide) rfl (fun ls hl => ?_)
                      refine lv_iload hx hb dX6_shows_149 (lv_at hl 13 rfl) ?_
                      refine lv_if_eq (tgt := 161) hx hb dX6_shows_151 (by decide) (fun c21 => ?_) (fun c21 => ?_)
                      ·
                        have d22 : dkN [(0, 0)] x107_12 := dkN_eq1 d13 (dkN_lit (x := 0) (0) rfl) (congrArg Int32.toInt c21) rfl
                        exact C161 I20 _ _ ls v20 hW hS hF hO (dkN_sub r120_0 rfl) (dkN_sub r120_1 rfl) (dkN_sub r120_2 rfl) (dkN_sub r120_3 rfl) (dkN_sub r120_4 rfl) (dkN_sub r120_5 rfl) (dkN_sub r120_6 rfl) (dkN_sub d22 rfl) (show dkN [(0, 0)] (I20 340 20) from dkN_sub f20_340_20 rfl) (show dkN [(0, 0)] (I20 340 21) from dkN_sub f20_340_21 rfl) (show dkN [(0, 0)] (I20 340 22) from dkN_sub f20_340_22 rfl) (show dkN [(0, 2147483647)] (I20 348 3) from dkN_sub f20_348_3 rfl) (lv_sub hl [1, 2, 3, 4, 5, 6, 7, 8, 9, 10, 11, 12, 13, 0] rfl)
                      ·
                        have d23 : dkN [(1, 1)] x107_12 := dkN_ne1 (0) d13 (dkN_lit (x := 0) (0) rfl) (dk_ne c21) rfl
                        refine lv_iload hx hb dX6_shows_154 (lv_at hl 0 rfl) ?_
                        refine lv_iload hx hb dX6_shows_156 (lv_at hl 12 rfl) ?_
                        refine lv_icmp_ge (tgt := 166) hx hb dX6_shows_158 (by decide) (fun c24 => ?_) (fun c24 => ?_)
                        ·
                          refine lv_iload hx hb dX6_shows_166 (lv_at hl 12 rfl) ?_
                          exact C168 I20 _ _ ls v20 x107_11 hW hS hF hO (dkN_sub r120_0 rfl) (dkN_sub r120_1 rfl) (dkN_sub r120_2 rfl) (dkN_sub r120_3 rfl) (dkN_sub r120_4 rfl) (dkN_sub r120_5 rfl) (dkN_sub r120_6 rfl) (dkN_sub d23 rfl) (show dkN [(0, 0)] (I20 340 20) from dkN_sub f20_340_20 rfl) (show dkN [(0, 0)] (I20 340 21) from dkN_sub f20_340_21 rfl) (show dkN [(0, 0)] (I20 340 22) from dkN_sub f20_340_22 rfl) (show dkN [(0, 2147483647)] (I20 348 3) from dkN_sub f20_348_3 rfl) (lv_sub hl [1, 2, 3, 4, 5, 6, 7, 8, 9, 10, 11, 12, 13, 0] rfl)
                        ·
                          have d25 : dkN [(-2147483647, 2147483647)] x107_11 := dkN_le2 1 (dkN_top v20) (dkN_top x107_11) (dkc_nle c24) rfl
                          have d26 : dkN [(-2147483648, 2147483646)] v20 := dkN_le1 1 (dkN_top v20) (dkN_top x107_11) (dkc_nle c24) rfl
                          exact C161 I20 _ _ ls v20 hW hS hF hO (dkN_sub r120_0 rfl) (dkN_sub r120_1 rfl) (dkN_sub r120_2 rfl) (dkN_sub r120_3 rfl) (dkN_sub r120_4 rfl) (dkN_sub r120_5 rfl) (dkN_sub r120_6 rfl) (dkN_sub d23 rfl) (show dkN [(0, 0)] (I20 340 20) from dkN_sub f20_340_20 rfl) (show dkN [(0, 0)] (I20 340 21) from dkN_sub f20_340_21 rfl) (show dkN [(0, 0)] (I20 340 22) from dkN_sub f20_340_22 rfl) (show dkN [(0, 2147483647)] (I20 348 3) from dkN_sub f20_348_3 rfl) (lv_sub hl [1, 2, 3, 4, 5, 6, 7, 8, 9, 10, 11, 12, 13, 0] rfl)
                  refine lv_iload hx hb dX6_shows_107 (lv_at hl 12 rfl) ?_
                  refine lv_iload hx hb dX6_shows_109 (lv_at hl 4 rfl) ?_
                  refine lv_iconst (v := 1) hx hb dX6_shows_111 (by decide) ?_
                  refine lv_icmp_le (tgt := 119) hx hb dX6_shows_112 (by decide) (fun c27 => ?_) (fun c27 => ?_)
                  ·
                    have d28 : dkN [(1, 1)] x61_4 := dkN_le1 0 r107_3 (dkN_lit (x := 1) (1) rfl) (dkc_le c27) rfl
                    refine lv_iconst (v := 1) hx hb dX6_shows_119 (by decide) ?_
                    exact C120 I107_ _ _ ls 1 hW hS hF hO (dkN_sub (dkN_lit (x := 1) (1) rfl) rfl) (dkN_sub r107_0 rfl) (dkN_sub r107_1 rfl) (dkN_sub r107_2 rfl) (dkN_sub d28 rfl) (dkN_sub r107_4 rfl) (dkN_sub r107_5 rfl) (dkN_sub r107_6 rfl) (dkN_sub k107_1 rfl) (lv_sub hl [0, 1, 2, 3, 4, 5, 6, 7, 8, 9, 10, 11, 12] rfl)
                  ·
                    have d29 : dkN [(2, 4)] x61_4 := dkN_le2 1 (dkN_lit (x := 1) (1) rfl) r107_3 (dkc_nle c27) rfl
                    refine lv_iconst (v := 2) hx hb dX6_shows_115 (by decide) ?_
                    refine lv_goto (tgt := 120) hx hb dX6_shows_116 (by decide) ?_
                    exact C120 I107_ _ _ ls 2 hW hS hF hO (dkN_sub (dkN_lit (x := 2) (2) rfl) rfl) (dkN_sub r107_0 rfl) (dkN_sub r107_1 rfl) (dkN_sub r107_2 rfl) (dkN_sub d29 rfl) (dkN_sub r107_4 rfl) (dkN_sub r107_5 rfl) (dkN_sub r107_6 rfl) (dkN_sub k107_1 rfl) (lv_sub hl [0, 1, 2, 3, 4, 5, 6, 7, 8, 9, 10, 11, 12] rfl)
              have C98 : ∀ (I : dkI) (H : Heap) (locs : List Loc) (ls : Array Slot) (x98_s0 : Int32), dkW g z I H → va_S (dkA z) s.heap H locs → dkF [(340, 340, 20, 22), (348, 348, 0, 53)] I0 I → dkOk I → dkN [(1, 2)] x98_s0 → dkN [(0, 4)] p0 → dkN [(0, 4)] p1 → dkN [(1, 2)] p2 → dkN [(1, 4)] x61_4 → dkN [(0, 1)] x61_6 → dkN [(0, 1)] x73_8 → dkN [(0, 2)] x85_10 → lv_has ls 14 [(0, .ref (z + 340)), (1, .int p0), (2, .int p1), (3, .int p2), (4, .int x61_4), (5, .int x61_5), (6, .int x61_6), (7, .int x73_7), (8, .int x73_8), (9, .int x85_9), (10, .int x85_10)] → W p l e (headSpec wsX6_shows (dkR 7)).room s m args below meth c H locs 0 0 (MQ below (dkQi g z (fun r I1 => dkF [(340, 340, 20, 22), (348, 348, 0, 53)] I0 I1 ∧ dkOk I1 ∧ ((True ∧ True)))) args s 0 0 (dkA z)) (F0 m 98 ls [.int x98_s0, .int x85_10]) := by
                intro I98_ H locs ls x98_s0 hW hS hF_98 hO k98_0 r98_0 r98_1 r98_2 r98_3 r98_4 r98_5 r98_6 hl
                have hF := hF_98
                refine lv_icmp_ge (tgt := 203) hx hb dX6_shows_98 (by decide) (fun c30 => ?_) (fun c30 => ?_)
                ·
                  have d31 : dkN [(1, 2)] x85_10 := dkN_le2 0 k98_0 r98_6 (dkc_le c30) rfl
                  refine lv_iload hx hb dX6_shows_203 (lv_at hl 8 rfl) ?_
                  refine lv_if_eq (tgt := 215) hx hb dX6_shows_205 (by decide) (fun c32 => ?_) (fun c32 => ?_)
                  ·
                    have d33 : dkN [(0, 0)] x73_8 := dkN_eq1 r98_5 (dkN_lit (x := 0) (0) rfl) (congrArg Int32.toInt c32) rfl
                    exact C215 I98_ _ _ ls x85_9 x85_10 hW hS hF hO (dkN_sub d31 rfl) (dkN_sub r98_0 rfl) (dkN_sub r98_1 rfl) (dkN_sub r98_2 rfl) (dkN_sub r98_3 rfl) (dkN_sub r98_4 rfl) (dkN_sub d33 rfl) (lv_sub hl [0, 1, 2, 3, 4, 5, 6, 7, 8, 9, 10] rfl)
                  ·
                    have d34 : dkN [(1, 1)] x73_8 := dkN_ne1 (0) r98_5 (dkN_lit (x := 0) (0) rfl) (dk_ne c32) rfl
                    refine lv_iload hx hb dX6_shows_208 (lv_at hl 9 rfl) ?_
                    refine lv_iload hx hb dX6_shows_210 (lv_at hl 7 rfl) ?_
                    refine lv_icmp_ge (tgt := 220) hx hb dX6_shows_212 (by decide) (fun c35 => ?_) (fun c35 => ?_)
                    ·
                      refine lv_iload hx hb dX6_shows_220 (lv_at hl 7 rfl) ?_
                      exact C222 I98_ _ _ ls x85_9 x85_10 x73_7 hW hS hF hO (dkN_sub d31 rfl) (dkN_sub r98_0 rfl) (dkN_sub r98_1 rfl) (dkN_sub r98_2 rfl) (dkN_sub r98_3 rfl) (dkN_sub r98_4 rfl) (dkN_sub d34 rfl) (lv_sub hl [0, 1, 2, 3, 4, 5, 6, 7, 8, 9, 10] rfl)
                    ·
                      have d36 : dkN [(-2147483647, 2147483647)] x73_7 := dkN_le2 1 (dkN_top x85_9) (dkN_top x73_7) (dkc_nle c35) rfl
                      have d37 : dkN [(-2147483648, 2147483646)] x85_9 := dkN_le1 1 (dkN_top x85_9) (dkN_top x73_7) (dkc_nle c35) rfl
                      exact C215 I98_ _ _ ls x85_9 x85_10 hW hS hF hO (dkN_sub d31 rfl) (dkN_sub r98_0 rfl) (dkN_sub r98_1 rfl) (dkN_sub r98_2 rfl) (dkN_sub r98_3 rfl) (dkN_sub r98_4 rfl) (dkN_sub d34 rfl) (lv_sub hl [0, 1, 2, 3, 4, 5, 6, 7, 8, 9, 10] rfl)
                ·
                  have d38 : dkN [(0, 1)] x85_10 := dkN_le1 1 r98_6 k98_0 (dkc_nle c30) rfl
                  refine lv_iconst (v := 0) hx hb dX6_shows_101 (by decide) ?_
                  refine lv_istore (lv' := [(11, .int 0), (0, .ref (z + 340)), (1, .int p0), (2, .int p1), (3, .int p2), (4, .int x61_4), (5, .int x61_5), (6, .int x61_6), (7, .int x73_7), (8, .int x73_8), (9, .int x85_9), (10, .int x85_10)]) hx hb dX6_shows_102 hl (by decide) rfl (fun ls hl => ?_)
                  refine lv_iconst (v := 0) hx hb dX6_shows_104 (by decide) ?_
                  refine lv_istore (lv' := [(12, .int 0), (11, .int 0), (0, .ref (z + 340)), (1, .int p0), (2, .int p1), (3, .int p2), (4, .int x61_4), (5, .int x61_5), (6, .int x61_6), (7, .int x73_7), (8, .int x73_8), (9, .int x85_9), (10, .int x85_10)]) hx hb dX6_shows_105 hl (by decide) rfl (fun ls hl => ?_)
                  exact C107 _ I98_ _ _ ls 0 0 (Nat.lt_succ_self _) hW hS hF hO (dkN_sub (dkN_lit (x := 0) (0) rfl) rfl) (dkN_sub r98_0 rfl) (dkN_sub r98_1 rfl) (dkN_sub r98_2 rfl) (dkN_sub r98_3 rfl) (dkN_sub r98_4 rfl) (dkN_sub r98_5 rfl) (dkN_sub d38 rfl) (lv_sub hl [2, 3, 4, 5, 6, 7, 8, 9, 10, 11, 12, 1, 0] rfl)
              refine lv_iload hx hb dX6_shows_85 (lv_at hl 10 rfl) ?_
              refine lv_iload hx hb dX6_shows_87 (lv_at hl 4 rfl) ?_
              refine lv_iconst (v := 1) hx hb dX6_shows_89 (by decide) ?_
              refine lv_icmp_le (tgt := 97) hx hb dX6_shows_90 (by decide) (fun c39 => ?_) (fun c39 => ?_)
              ·
                have d40 : dkN [(1, 1)] x61_4 := dkN_le1 0 r85_3 (dkN_lit (x := 1) (1) rfl) (dkc_le c39) rfl
                refine lv_iconst (v := 1) hx hb dX6_shows_97 (by decide) ?_
                exact C98 I85_ _ _ ls 1 hW hS hF hO (dkN_sub (dkN_lit (x := 1) (1) rfl) rfl) (dkN_sub r85_0 rfl) (dkN_sub r85_1 rfl) (dkN_sub r85_2 rfl) (dkN_sub d40 rfl) (dkN_sub r85_4 rfl) (dkN_sub r85_5 rfl) (dkN_sub k85_1 rfl) (lv_sub hl [0, 1, 2, 3, 4, 5, 6, 7, 8, 9, 10] rfl)
              ·
                have d41 : dkN [(2, 4)] x61_4 := dkN_le2 1 (dkN_lit (x := 1) (1) rfl) r85_3 (dkc_nle c39) rfl
                refine lv_iconst (v := 2) hx hb dX6_shows_93 (by decide) ?_
                refine lv_goto (tgt := 98) hx hb dX6_shows_94 (by decide) ?_
                exact C98 I85_ _ _ ls 2 hW hS hF hO (dkN_sub (dkN_lit (x := 2) (2) rfl) rfl) (dkN_sub r85_0 rfl) (dkN_sub r85_1 rfl) (dkN_sub r85_2 rfl) (dkN_sub d41 rfl) (dkN_sub r85_4 rfl) (dkN_sub r85_5 rfl) (dkN_sub k85_1 rfl) (lv_sub hl [0, 1, 2, 3, 4, 5, 6, 7, 8, 9, 10] rfl)
          refine lv_iload hx hb dX6_shows_73 (lv_at hl 8 rfl) ?_
          refine lv_iconst (v := 2) hx hb dX6_shows_75 (by decide) ?_
          refine lv_icmp_ge (tgt := 230) hx hb dX6_shows_76 (by decide) (fun c42 => ?_) (fun c42 => ?_)
          ·
            have d43 : dkN [(2, 2)] x73_8 := dkN_le2 0 (dkN_lit (x := 2) (2) rfl) k73_1 (dkc_le c42) rfl
            refine lv_iload hx hb dX6_shows_230 (lv_at hl 6 rfl) ?_
            refine lv_if_eq (tgt := 242) hx hb dX6_shows_232 (by decide) (fun c44 => ?_) (fun c44 => ?_)
            ·
              have d45 : dkN [(0, 0)] x61_6 := dkN_eq1 r73_4 (dkN_lit (x := 0) (0) rfl) (congrArg Int32.toInt c44) rfl
              exact C242 I73_ _ _ ls x73_7 x73_8 hW hS hF hO (dkN_sub d43 rfl) (dkN_sub r73_0 rfl) (dkN_sub r73_1 rfl) (dkN_sub r73_2 rfl) (dkN_sub r73_3 rfl) (dkN_sub d45 rfl) (lv_sub hl [0, 1, 2, 3, 4, 5, 6, 7, 8] rfl)
            ·
              have d46 : dkN [(1, 1)] x61_6 := dkN_ne1 (0) r73_4 (dkN_lit (x := 0) (0) rfl) (dk_ne c44) rfl
              refine lv_iload hx hb dX6_shows_235 (lv_at hl 7 rfl) ?_
              refine lv_iload hx hb dX6_shows_237 (lv_at hl 5 rfl) ?_
              refine lv_icmp_le (tgt := 247) hx hb dX6_shows_239 (by decide) (fun c47 => ?_) (fun c47 => ?_)
              ·
                refine lv_iload hx hb dX6_shows_247 (lv_at hl 5 rfl) ?_
                exact C249 I73_ _ _ ls x73_7 x73_8 x61_5 hW hS hF hO (dkN_sub d43 rfl) (dkN_sub r73_0 rfl) (dkN_sub r73_1 rfl) (dkN_sub r73_2 rfl) (dkN_sub r73_3 rfl) (dkN_sub d46 rfl) (lv_sub hl [0, 1, 2, 3, 4, 5, 6, 7, 8] rfl)
              ·
                have d48 : dkN [(-2147483647, 2147483647)] x73_7 := dkN_le2 1 (dkN_top x61_5) (dkN_top x73_7) (dkc_nle c47) rfl
                have d49 : dkN [(-2147483648, 2147483646)] x61_5 := dkN_le1 1 (dkN_top x61_5) (dkN_top x73_7) (dkc_nle c47) rfl
                exact C242 I73_ _ _ ls x73_7 x73_8 hW hS hF hO (dkN_sub d43 rfl) (dkN_sub r73_0 rfl) (dkN_sub r73_1 rfl) (dkN_sub r73_2 rfl) (dkN_sub r73_3 rfl) (dkN_sub d46 rfl) (lv_sub hl [0, 1, 2, 3, 4, 5, 6, 7, 8] rfl)
          ·
            have d50 : dkN [(0, 1)] x73_8 := dkN_le1 1 k73_1 (dkN_lit (x := 2) (2) rfl) (dkc_nle c42) rfl
            refine lv_iconst (v := 0) hx hb dX6_shows_79 (by decide) ?_
            refine lv_istore (lv' := [(9, .int 0), (0, .ref (z + 340)), (1, .int p0), (2, .int p1), (3, .int p2), (4, .int x61_4), (5, .int x61_5), (6, .int x61_6), (7, .int x73_7), (8, .int x73_8)]) hx hb dX6_shows_80 hl (by decide) rfl (fun ls hl => ?_)
            refine lv_iconst (v := 0) hx hb dX6_shows_82 (by decide) ?_
            refine lv_istore (lv' := [(10, .int 0), (9, .int 0), (0, .ref (z + 340)), (1, .int p0), (2, .int p1), (3, .int p2), (4, .int x61_4), (5, .int x61_5), (6, .int x61_6), (7, .int x73_7), (8, .int x73_8)]) hx hb dX6_shows_83 hl (by decide) rfl (fun ls hl => ?_)
            exact C85 _ I73_ _ _ ls 0 0 (Nat.lt_succ_self _) hW hS hF hO (dkN_sub (dkN_lit (x := 0) (0) rfl) rfl) (dkN_sub r73_0 rfl) (dkN_sub r73_1 rfl) (dkN_sub r73_2 rfl) (dkN_sub r73_3 rfl) (dkN_sub r73_4 rfl) (dkN_sub d50 rfl) (lv_sub hl [2, 3, 4, 5, 6, 7, 8, 9, 10, 1, 0] rfl)
      refine lv_iload hx hb dX6_shows_61 (lv_at hl 6 rfl) ?_
      refine lv_iconst (v := 2) hx hb dX6_shows_63 (by decide) ?_
      refine lv_icmp_ge (tgt := 257) hx hb dX6_shows_64 (by decide) (fun c51 => ?_) (fun c51 => ?_)
      ·
        have d52 : dkN [(2, 2)] x61_6 := dkN_le2 0 (dkN_lit (x := 2) (2) rfl) k61_2 (dkc_le c51) rfl
        refine lv_iload hx hb dX6_shows_257 (lv_at hl 5 rfl) ?_
        exact W.iret (v := x61_5) hx hb hr (fun t ht hW9 => ⟨⟨x61_5, I61_, rfl, ⟨hF, hO, ⟨trivial, trivial⟩⟩, dkW_eq ht hW⟩, hS.F ht⟩) hS.2.2 dX6_shows_259
      ·
        have d53 : dkN [(0, 1)] x61_6 := dkN_le1 1 k61_2 (dkN_lit (x := 2) (2) rfl) (dkc_nle c51) rfl
        refine lv_iconst (v := 0) hx hb dX6_shows_67 (by decide) ?_
        refine lv_istore (lv' := [(7, .int 0), (0, .ref (z + 340)), (1, .int p0), (2, .int p1), (3, .int p2), (4, .int x61_4), (5, .int x61_5), (6, .int x61_6)]) hx hb dX6_shows_68 hl (by decide) rfl (fun ls hl => ?_)
        refine lv_iconst (v := 0) hx hb dX6_shows_70 (by decide) ?_
        refine lv_istore (lv' := [(8, .int 0), (7, .int 0), (0, .ref (z + 340)), (1, .int p0), (2, .int p1), (3, .int p2), (4, .int x61_4), (5, .int x61_5), (6, .int x61_6)]) hx hb dX6_shows_71 hl (by decide) rfl (fun ls hl => ?_)
        exact C73 _ I61_ _ _ ls 0 0 (Nat.lt_succ_self _) hW hS hF hO (dkN_sub (dkN_lit (x := 0) (0) rfl) rfl) (dkN_sub r61_0 rfl) (dkN_sub r61_1 rfl) (dkN_sub r61_2 rfl) (dkN_sub k61_0 rfl) (dkN_sub d53 rfl) (lv_sub hl [2, 3, 4, 5, 6, 7, 8, 1, 0] rfl)
  refine lv_aload_n hx hb dX6_shows_0 rfl (lv_at hl 0 rfl) ?_
  refine lv_iload_n hx hb dX6_shows_1 rfl (lv_at hl 1 rfl) ?_
  refine dk_Vi (As := [.int p0]) (rest := []) ⟨hx, hb, hml, hown, hts⟩ (c_X6_isPerson_0 l g z I0 p0 hO) (cwV 1 hts gX6_shows_X6_isPerson rfl rfl rfl (by decide +kernel) ⟨Nat.le_of_ble_eq_true rfl, Nat.le_of_ble_eq_true rfl⟩) (dk_at340 hW) rfl hK hT hW hS rfl hl.1 rfl (Nat.le_of_ble_eq_true rfl) dX6_shows_2 ⟨Nat.zero_le _, Nat.zero_le _⟩ (fun v54 I54 H54 L54 hp54 hW hS => ?_)
  obtain ⟨hF54, hO, hc54⟩ := hp54
  have hF := dkF_call hF hF54 rfl
  rcases hc54 with ⟨dv54, -⟩ | hc54
  ·
    refine lv_if_eq (tgt := 30) hx hb dX6_shows_5 (by decide) (fun c55 => ?_) (fun c55 => ?_)
    ·
      refine lv_ldc (v := (-1000001)) hx hb hown (hts (.constant RX6 64 (-1000001)) (List.mem_of_getElem? (i := 1) rfl)) dX6_shows_30 ?_
      exact W.iret (v := (-1000001)) hx hb hr (fun t ht hW9 => ⟨⟨(-1000001), I54, rfl, ⟨hF, hO, ⟨trivial, trivial⟩⟩, dkW_eq ht hW⟩, hS.F ht⟩) hS.2.2 dX6_shows_32
    ·
      exact (dkN_nil (show dkN [] v54 from dkN_ne1 (0) dv54 (dkN_lit (x := 0) (0) rfl) (dk_ne c55) rfl)).elim
  ·
    obtain ⟨dv54, a54_0, -⟩ := hc54
    have d56 : dkN [(0, 4)] p0 := dkN_eq1 (dkN_top p0) a54_0 rfl rfl
    refine lv_if_eq (tgt := 30) hx hb dX6_shows_5 (by decide) (fun c57 => ?_) (fun c57 => ?_)
    ·
      exact (dkN_nil (show dkN [] v54 from dkN_eq1 dv54 (dkN_lit (x := 0) (0) rfl) (congrArg Int32.toInt c57) rfl)).elim
    ·
      refine lv_aload_n hx hb dX6_shows_8 rfl (lv_at hl 0 rfl) ?_
      refine lv_iload_n hx hb dX6_shows_9 rfl (lv_at hl 2 rfl) ?_
      refine dk_Vi (As := [.int p1]) (rest := []) ⟨hx, hb, hml, hown, hts⟩ (c_X6_isPerson_0 l g z I54 p1 hO) (cwV 1 hts gX6_shows_X6_isPerson rfl rfl rfl (by decide +kernel) ⟨Nat.le_of_ble_eq_true rfl, Nat.le_of_ble_eq_true rfl⟩) (dk_at340 hW) rfl hK hT hW hS rfl hl.1 rfl (Nat.le_of_ble_eq_true rfl) dX6_shows_10 ⟨Nat.zero_le _, Nat.zero_le _⟩ (fun v58 I58 H58 L58 hp58 hW hS => ?_)
      obtain ⟨hF58, hO, hc58⟩ := hp58
      have hF := dkF_call hF hF58 rfl
      rcases hc58 with ⟨dv58, -⟩ | hc58
      ·
        refine lv_if_eq (tgt := 30) hx hb dX6_shows_13 (by decide) (fun c59 => ?_) (fun c59 => ?_)
        ·
          refine lv_ldc (v := (-1000001)) hx hb hown (hts (.constant RX6 64 (-1000001)) (List.mem_of_getElem? (i := 1) rfl)) dX6_shows_30 ?_
          exact W.iret (v := (-1000001)) hx hb hr (fun t ht hW9 => ⟨⟨(-1000001), I58, rfl, ⟨hF, hO, ⟨trivial, trivial⟩⟩, dkW_eq ht hW⟩, hS.F ht⟩) hS.2.2 dX6_shows_32
        ·
          exact (dkN_nil (show dkN [] v58 from dkN_ne1 (0) dv58 (dkN_lit (x := 0) (0) rfl) (dk_ne c59) rfl)).elim
      ·
        obtain ⟨dv58, a58_0, -⟩ := hc58
        have d60 : dkN [(0, 4)] p1 := dkN_eq1 (dkN_top p1) a58_0 rfl rfl
        refine lv_if_eq (tgt := 30) hx hb dX6_shows_13 (by decide) (fun c61 => ?_) (fun c61 => ?_)
        ·
          exact (dkN_nil (show dkN [] v58 from dkN_eq1 dv58 (dkN_lit (x := 0) (0) rfl) (congrArg Int32.toInt c61) rfl)).elim
        ·
          refine lv_iload_n hx hb dX6_shows_16 rfl (lv_at hl 1 rfl) ?_
          refine lv_iload_n hx hb dX6_shows_17 rfl (lv_at hl 2 rfl) ?_
          refine lv_icmp_eq (tgt := 30) hx hb dX6_shows_18 (by decide) (fun c62 => ?_) (fun c62 => ?_)
          ·
            refine lv_ldc (v := (-1000001)) hx hb hown (hts (.constant RX6 64 (-1000001)) (List.mem_of_getElem? (i := 1) rfl)) dX6_shows_30 ?_
            exact W.iret (v := (-1000001)) hx hb hr (fun t ht hW9 => ⟨⟨(-1000001), I58, rfl, ⟨hF, hO, ⟨trivial, trivial⟩⟩, dkW_eq ht hW⟩, hS.F ht⟩) hS.2.2 dX6_shows_32
          ·
            refine lv_iload_n hx hb dX6_shows_21 rfl (lv_at hl 3 rfl) ?_
            refine lv_iconst (v := 0) hx hb dX6_shows_22 (by decide) ?_
            refine lv_iconst (v := 2) hx hb dX6_shows_23 (by decide) ?_
            refine dk_Si (As := [.int p2, .int 0, .int 2]) (rest := []) ⟨hx, hb, hml, hown, hts⟩ (c_X6_in_1 l g z I58 p2 0 2 (dkN_lit (x := 0) (0) rfl) (dkN_lit (x := 2) (2) rfl) hO) (va_cwS 3 hts gX6_shows_X6_in rfl rfl rfl (by decide +kernel) ⟨Nat.le_of_ble_eq_true rfl, Nat.le_of_ble_eq_true rfl⟩) hK hT hW hS rfl hl.1 rfl (Nat.le_of_ble_eq_true rfl) dX6_shows_24 ⟨Nat.zero_le _, Nat.zero_le _⟩ (fun v63 I63 H63 L63 hp63 hW hS => ?_)
            obtain ⟨hF63, hO, hc63⟩ := hp63
            have hF := dkF_call hF hF63 rfl
            rcases hc63 with ⟨dv63, a63_0, -⟩ | hc63
            ·
              have d64 : dkN [(-2147483648, -1), (3, 2147483647)] p2 := dkN_eq1 (dkN_top p2) a63_0 rfl rfl
              refine lv_if_ne (tgt := 33) hx hb dX6_shows_27 (by decide) (fun c65 => ?_) (fun c65 => ?_)
              ·
                exact (dkN_nil (show dkN [] v63 from dkN_ne1 (0) dv63 (dkN_lit (x := 0) (0) rfl) (dk_ne c65) rfl)).elim
              ·
                refine lv_ldc (v := (-1000001)) hx hb hown (hts (.constant RX6 64 (-1000001)) (List.mem_of_getElem? (i := 1) rfl)) dX6_shows_30 ?_
                exact W.iret (v := (-1000001)) hx hb hr (fun t ht hW9 => ⟨⟨(-1000001), I63, rfl, ⟨hF, hO, ⟨trivial, trivial⟩⟩, dkW_eq ht hW⟩, hS.F ht⟩) hS.2.2 dX6_shows_32
            ·
              obtain ⟨dv63, a63_0, -⟩ := hc63
              have d66 : dkN [(0, 2)] p2 := dkN_eq1 (dkN_top p2) a63_0 rfl rfl
              refine lv_if_ne (tgt := 33) hx hb dX6_shows_27 (by decide) (fun c67 => ?_) (fun c67 => ?_)
              ·
                refine lv_iload_n hx hb dX6_shows_33 rfl (lv_at hl 3 rfl) ?_
                refine lv_if_ne (tgt := 46) hx hb dX6_shows_34 (by decide) (fun c68 => ?_) (fun c68 => ?_)
                ·
                  have d69 : dkN [(1, 2)] p2 := dkN_ne1 (0) d66 (dkN_lit (x := 0) (0) rfl) (dk_ne c68) rfl
                  refine lv_iconst (v := 1) hx hb dX6_shows_46 (by decide) ?_
                  refine lv_iconst (v := 2) hx hb dX6_shows_47 (by decide) ?_
                  refine lv_iload_n hx hb dX6_shows_48 rfl (lv_at hl 3 rfl) ?_
                  refine lv_iconst (v := 1) hx hb dX6_shows_49 (by decide) ?_
                  refine lv_isub hx hb dX6_shows_50 ?_
                  refine lv_topi (fun v70 ev70 => ?_)
                  have dv70 : dkN [(0, 1)] v70 := by rw [ev70]; exact dkN_subt d69 (dkN_lit (x := 1) (1) rfl) rfl
                  refine lv_imul hx hb dX6_shows_51 ?_
                  refine lv_topi (fun v71 ev71 => ?_)
                  have dv71 : dkN [(0, 2)] v71 := by rw [ev71]; exact dkN_mulL 2 (by decide) (dkN_lit (x := 2) (2) rfl) dv70 rfl
                  refine lv_ishl hx hb dX6_shows_52 ?_
                  refine lv_topi (fun v72 ev72 => ?_)
                  have dv72 : dkN [(1, 4)] v72 := by rw [ev72]; exact dkN_shl1 0 2 (by decide) dv71 rfl
                  refine lv_istore (lv' := [(4, .int v72), (0, .ref (z + 340)), (1, .int p0), (2, .int p1), (3, .int p2)]) hx hb dX6_shows_53 hl (by decide) rfl (fun ls hl => ?_)
                  refine lv_iconst (v := 0) hx hb dX6_shows_55 (by decide) ?_
                  refine lv_istore (lv' := [(5, .int 0), (4, .int v72), (0, .ref (z + 340)), (1, .int p0), (2, .int p1), (3, .int p2)]) hx hb dX6_shows_56 hl (by decide) rfl (fun ls hl => ?_)
                  refine lv_iconst (v := 0) hx hb dX6_shows_58 (by decide) ?_
                  refine lv_istore (lv' := [(6, .int 0), (5, .int 0), (4, .int v72), (0, .ref (z + 340)), (1, .int p0), (2, .int p1), (3, .int p2)]) hx hb dX6_shows_59 hl (by decide) rfl (fun ls hl => ?_)
                  exact C61 _ I63 _ _ ls v72 0 0 (Nat.lt_succ_self _) hW hS hF hO (dkN_sub dv72 rfl) (dkN_sub (dkN_lit (x := 0) (0) rfl) rfl) (dkN_sub d56 rfl) (dkN_sub d60 rfl) (dkN_sub d69 rfl) (lv_sub hl [3, 4, 5, 6, 2, 1, 0] rfl)
                ·
                  have d73 : dkN [(0, 0)] p2 := dkN_eq1 d66 (dkN_lit (x := 0) (0) rfl) (congrArg Int32.toInt c68) rfl
                  refine lv_aload_n hx hb dX6_shows_37 rfl (lv_at hl 0 rfl) ?_
                  refine lv_iload_n hx hb dX6_shows_38 rfl (lv_at hl 1 rfl) ?_
                  refine lv_iload_n hx hb dX6_shows_39 rfl (lv_at hl 2 rfl) ?_
                  refine lv_iconst (v := 0) hx hb dX6_shows_40 (by decide) ?_
                  refine lv_iconst (v := 0) hx hb dX6_shows_41 (by decide) ?_
                  refine dk_Vi (As := [.int p0, .int p1, .int 0, .int 0]) (rest := []) ⟨hx, hb, hml, hown, hts⟩ (c_X6_showing_0 l g z I63 p0 p1 0 0 d56 d60 (dkN_lit (x := 0) (0) rfl) (dkN_lit (x := 0) (0) rfl) hO) (cwV 4 hts gX6_shows_X6_showing rfl rfl rfl (by decide +kernel) ⟨Nat.le_of_ble_eq_true rfl, Nat.le_of_ble_eq_true rfl⟩) (dk_at340 hW) rfl hK hT hW hS rfl hl.1 rfl (Nat.le_of_ble_eq_true rfl) dX6_shows_42 ⟨Nat.zero_le _, Nat.zero_le _⟩ (fun v74 I74 H74 L74 hp74 hW hS => ?_)
                  obtain ⟨hF74, hO, hc74⟩ := hp74
                  have hF := dkF_call hF hF74 rfl
                  obtain ⟨_, f74_340_20, f74_340_21, f74_340_22, f74_348_3, -⟩ := hc74
                  exact W.iret (v := v74) hx hb hr (fun t ht hW9 => ⟨⟨v74, I74, rfl, ⟨hF, hO, ⟨trivial, trivial⟩⟩, dkW_eq ht hW⟩, hS.F ht⟩) hS.2.2 dX6_shows_45
              ·
                exact (dkN_nil (show dkN [] v63 from dkN_eq1 dv63 (dkN_lit (x := 0) (0) rfl) (congrArg Int32.toInt c67) rfl)).elim
set_option maxHeartbeats 4000000 in
set_option maxRecDepth 100000 in
theorem c_X5_setOfAll_2 (l : Launch) (g : dkG) (z : Nat) (I0 : dkI) (p0 : Int32) (dp0 : dkN [(0, 6)] p0)  (hO : dkOk I0) : Met l yX5_setOfAll wsX5_setOfAll (dkR 0) (dkPc g z [.int p0] I0) (dkQi g z (fun r I1 => dkF [] I0 I1 ∧ dkOk I1 ∧ ((dkN [(0, 63)] r ∧ True)))) 0 0 (dkA z) := by
  refine Met.ofW (cc := cX5_setOfAll) (maxL := 1) (ret := (some .int)) (by decide) rfl ?_
  intro p e s m args below meth c s₁ B hml hv
  obtain ⟨ha, hW, hK, hT⟩ := hv
  have hx := B.exec
  have hb := B.bytes
  have hr := B.returns
  have hts := atoms_spec (ws := wsX5_setOfAll) B.pre
  have hown : s.vm.findClass RX5 = some m.cls := findClass_of_methodNamed B.named
  have hlocks := B.notSynchronized
  have hS : va_S (dkA z) s.heap s.heap [] := va_S.rf
  have hF : dkF [] I0 I0 := dkF_rf _ _
  have hl := lv_entry ([.int p0]) (n := 1) (Nat.le_of_ble_eq_true rfl)
  have hgo : entryFrame m args 1 = entryFrame m ([.int p0] : List Value).toArray 1 := by rw [ha]
  rw [hgo, lg_entry_eq]
  generalize (lg_sl ([.int p0]) ++ List.replicate (1 - (lg_sl ([.int p0])).length) Slot.unset).toArray = ls at hl ⊢
  have hl : lv_has ls 1 [(0, .int p0)] := hl
  refine lv_iconst (v := 1) hx hb dX5_setOfAll_0 (by decide) ?_
  refine lv_iload_n hx hb dX5_setOfAll_1 rfl (lv_at hl 0 rfl) ?_
  refine lv_ishl hx hb dX5_setOfAll_2 ?_
  refine lv_topi (fun v1 ev1 => ?_)
  have dv1 : dkN [(1, 64)] v1 := by rw [ev1]; exact dkN_shl1 0 6 (by decide) dp0 rfl
  refine lv_iconst (v := 1) hx hb dX5_setOfAll_3 (by decide) ?_
  refine lv_isub hx hb dX5_setOfAll_4 ?_
  refine lv_topi (fun v2 ev2 => ?_)
  have dv2 : dkN [(0, 63)] v2 := by rw [ev2]; exact dkN_subt dv1 (dkN_lit (x := 1) (1) rfl) rfl
  exact W.iret (v := v2) hx hb hr (fun t ht hW9 => ⟨⟨v2, I0, rfl, ⟨hF, hO, ⟨dkN_sub dv2 rfl, trivial⟩⟩, dkW_eq ht hW⟩, hS.F ht⟩) hS.2.2 dX5_setOfAll_5
set_option maxHeartbeats 4000000 in
set_option maxRecDepth 100000 in
theorem c_X3_kingBy_0 (l : Launch) (g : dkG) (z : Nat) (I0 : dkI) (p0 : Int32)  (hO : dkOk I0) : Met l yX3_kingBy wsX3_kingBy (dkR 5) (dkPc g z [.ref (z + 325), .int p0] I0) (dkQi g z (fun r I1 => dkF [(326, 326, 0, 4), (326, 326, 11, 11), (326, 326, 15, 17), (327, 327, 0, 4), (328, 328, 0, 4), (329, 329, 0, 4), (330, 330, 0, 4), (331, 331, 0, 4), (332, 332, 0, 4), (333, 333, 0, 5), (334, 334, 0, 5), (335, 335, 0, 5), (336, 336, 0, 8)] I0 I1 ∧ dkOk I1 ∧ ((dkN [(-1000000, -1000000), (0, 4)] r ∧ True)))) 0 0 (dkA z) := by
  refine Met.ofW (cc := cX3_kingBy) (maxL := 2) (ret := (some .int)) (by decide) rfl ?_
  intro p e s m args below meth c s₁ B hml hv
  obtain ⟨ha, hW, hK, hT⟩ := hv
  have hx := B.exec
  have hb := B.bytes
  have hr := B.returns
  have hts := atoms_spec (ws := wsX3_kingBy) B.pre
  have hown : s.vm.findClass RX3 = some m.cls := findClass_of_methodNamed B.named
  have hlocks := B.notSynchronized
  have hS : va_S (dkA z) s.heap s.heap [] := va_S.rf
  have hF : dkF [(326, 326, 0, 4), (326, 326, 11, 11), (326, 326, 15, 17), (327, 327, 0, 4), (328, 328, 0, 4), (329, 329, 0, 4), (330, 330, 0, 4), (331, 331, 0, 4), (332, 332, 0, 4), (333, 333, 0, 5), (334, 334, 0, 5), (335, 335, 0, 5), (336, 336, 0, 8)] I0 I0 := dkF_rf _ _
  have hl := lv_entry ([.ref (z + 325), .int p0]) (n := 2) (Nat.le_of_ble_eq_true rfl)
  have hgo : entryFrame m args 2 = entryFrame m ([.ref (z + 325), .int p0] : List Value).toArray 2 := by rw [ha]
  rw [hgo, lg_entry_eq]
  generalize (lg_sl ([.ref (z + 325), .int p0]) ++ List.replicate (2 - (lg_sl ([.ref (z + 325), .int p0])).length) Slot.unset).toArray = ls at hl ⊢
  have hl : lv_has ls 2 [(0, .ref (z + 325)), (1, .int p0)] := hl
  refine lv_aload_n hx hb dX3_kingBy_0 rfl (lv_at hl 0 rfl) ?_
  refine dk_get (k := 325) hx hb hts iX3_kingBy_3 hown hK (dk_at325 hW) rfl 1 (by decide) (hts (.fieldLink RX3 12 "DogKings$Seer" "then" "LDogKings$Town;") (List.mem_of_getElem? (i := 1) rfl)) rfl dX3_kingBy_1 ?_
  refine lv_aload_n hx hb dX3_kingBy_4 rfl (lv_at hl 0 rfl) ?_
  refine dk_get (k := 325) hx hb hts iX3_kingBy_3 hown hK (dk_at325 hW) rfl 0 (by decide) (hts (.fieldLink RX3 22 "DogKings$Seer" "now" "LDogKings$Town;") (List.mem_of_getElem? (i := 2) rfl)) rfl dX3_kingBy_5 ?_
  refine dk_Vv (As := [.ref (z + 25)]) (rest := []) ⟨hx, hb, hml, hown, hts⟩ (c_X4_become_0 l g z I0 (326) (by unfold dkT; omega) (25) (by unfold dkT; omega) hO) (cwV 1 hts gX3_kingBy_X4_become rfl rfl rfl (by decide +kernel) ⟨Nat.le_of_ble_eq_true rfl, Nat.le_of_ble_eq_true rfl⟩) (dk_at326 hW) rfl hK hT hW hS rfl hl.1 rfl (Nat.le_of_ble_eq_true rfl) dX3_kingBy_8 ⟨Nat.zero_le _, Nat.zero_le _⟩ (fun I1 H1 L1 hp1 hW hS => ?_)
  obtain ⟨hF1, hO, hc1⟩ := hp1
  have hF := dkF_call hF hF1 rfl
  refine lv_aload_n hx hb dX3_kingBy_11 rfl (lv_at hl 0 rfl) ?_
  refine dk_get (k := 325) hx hb hts iX3_kingBy_3 hown hK (dk_at325 hW) rfl 1 (by decide) (hts (.fieldLink RX3 12 "DogKings$Seer" "then" "LDogKings$Town;") (List.mem_of_getElem? (i := 1) rfl)) rfl dX3_kingBy_12 ?_
  refine lv_iload_n hx hb dX3_kingBy_15 rfl (lv_at hl 1 rfl) ?_
  refine dk_put (k := 326) hx hb hts iX3_kingBy_4 tyX4 tyX4_ok nmX4 hown hK hW (dk_at326 hW) hS rfl 15 (by decide) (hts (.fieldLink RX3 113 "DogKings$Town" "dogsThere" "I") (List.mem_of_getElem? (i := 3) rfl)) rfl rfl (Nat.le_of_ble_eq_true rfl) rfl dX3_kingBy_16 (fun I2 H2 L2 eI2 hW hS => ?_)
  have eI2 : I2 = dkU I1 326 15 p0 := eI2
  have hO := dkO_set hO eI2 (dkN_sub (dkN_top p0) rfl)
  have hF := dkF_set hF eI2 rfl
  refine lv_aload_n hx hb dX3_kingBy_19 rfl (lv_at hl 0 rfl) ?_
  refine dk_get (k := 325) hx hb hts iX3_kingBy_3 hown hK (dk_at325 hW) rfl 1 (by decide) (hts (.fieldLink RX3 12 "DogKings$Seer" "then" "LDogKings$Town;") (List.mem_of_getElem? (i := 1) rfl)) rfl dX3_kingBy_20 ?_
  refine dk_Vv (As := []) (rest := []) ⟨hx, hb, hml, hown, hts⟩ (c_X4_runToBell_0 l g z I2 (326) (by unfold dkT; omega) hO) (cwV 0 hts gX3_kingBy_X4_runToBell rfl rfl rfl (by decide +kernel) ⟨Nat.le_of_ble_eq_true rfl, Nat.le_of_ble_eq_true rfl⟩) (dk_at326 hW) rfl hK hT hW hS rfl hl.1 rfl (Nat.le_of_ble_eq_true rfl) dX3_kingBy_23 ⟨Nat.zero_le _, Nat.zero_le _⟩ (fun I3 H3 L3 hp3 hW hS => ?_)
  obtain ⟨hF3, hO, hc3⟩ := hp3
  have hF := dkF_call hF hF3 rfl
  refine lv_aload_n hx hb dX3_kingBy_26 rfl (lv_at hl 0 rfl) ?_
  refine dk_get (k := 325) hx hb hts iX3_kingBy_3 hown hK (dk_at325 hW) rfl 1 (by decide) (hts (.fieldLink RX3 12 "DogKings$Seer" "then" "LDogKings$Town;") (List.mem_of_getElem? (i := 1) rfl)) rfl dX3_kingBy_27 ?_
  refine dk_Vi (As := []) (rest := []) ⟨hx, hb, hml, hown, hts⟩ (c_X4_kingAtBell_0 l g z I3 (326) (by unfold dkT; omega) hO) (cwV 0 hts gX3_kingBy_X4_kingAtBell rfl rfl rfl (by decide +kernel) ⟨Nat.le_of_ble_eq_true rfl, Nat.le_of_ble_eq_true rfl⟩) (dk_at326 hW) rfl hK hT hW hS rfl hl.1 rfl (Nat.le_of_ble_eq_true rfl) dX3_kingBy_30 ⟨Nat.zero_le _, Nat.zero_le _⟩ (fun v4 I4 H4 L4 hp4 hW hS => ?_)
  obtain ⟨hF4, hO, hc4⟩ := hp4
  have hF := dkF_call hF hF4 rfl
  obtain ⟨dv4, -⟩ := hc4
  exact W.iret (v := v4) hx hb hr (fun t ht hW9 => ⟨⟨v4, I4, rfl, ⟨hF, hO, ⟨dkN_sub dv4 rfl, trivial⟩⟩, dkW_eq ht hW⟩, hS.F ht⟩) hS.2.2 dX3_kingBy_33
set_option maxHeartbeats 4000000 in
set_option maxRecDepth 100000 in
theorem c_X3_packsThatCrown_0 (l : Launch) (g : dkG) (z : Nat) (I0 : dkI) (p0 : Int32) (dp0 : dkN [(0, 4)] p0)  (hO : dkOk I0) : Met l yX3_packsThatCrown wsX3_packsThatCrown (dkR 6) (dkPc g z [.ref (z + 325), .int p0] I0) (dkQi g z (fun r I1 => dkF [(326, 326, 0, 4), (326, 326, 11, 11), (326, 326, 15, 17), (327, 327, 0, 4), (328, 328, 0, 4), (329, 329, 0, 4), (330, 330, 0, 4), (331, 331, 0, 4), (332, 332, 0, 4), (333, 333, 0, 5), (334, 334, 0, 5), (335, 335, 0, 5), (336, 336, 0, 8)] I0 I1 ∧ dkOk I1 ∧ ((True ∧ True)))) 0 0 (dkA z) := by
  refine Met.ofW (cc := cX3_packsThatCrown) (maxL := 4) (ret := (some .int)) (by decide) rfl ?_
  intro p e s m args below meth c s₁ B hml hv
  obtain ⟨ha, hW, hK, hT⟩ := hv
  have hx := B.exec
  have hb := B.bytes
  have hr := B.returns
  have hts := atoms_spec (ws := wsX3_packsThatCrown) B.pre
  have hown : s.vm.findClass RX3 = some m.cls := findClass_of_methodNamed B.named
  have hlocks := B.notSynchronized
  have hS : va_S (dkA z) s.heap s.heap [] := va_S.rf
  have hF : dkF [(326, 326, 0, 4), (326, 326, 11, 11), (326, 326, 15, 17), (327, 327, 0, 4), (328, 328, 0, 4), (329, 329, 0, 4), (330, 330, 0, 4), (331, 331, 0, 4), (332, 332, 0, 4), (333, 333, 0, 5), (334, 334, 0, 5), (335, 335, 0, 5), (336, 336, 0, 8)] I0 I0 := dkF_rf _ _
  have hl := lv_entry ([.ref (z + 325), .int p0]) (n := 4) (Nat.le_of_ble_eq_true rfl)
  have hgo : entryFrame m args 4 = entryFrame m ([.ref (z + 325), .int p0] : List Value).toArray 4 := by rw [ha]
  rw [hgo, lg_entry_eq]
  generalize (lg_sl ([.ref (z + 325), .int p0]) ++ List.replicate (4 - (lg_sl ([.ref (z + 325), .int p0])).length) Slot.unset).toArray = ls at hl ⊢
  have hl : lv_has ls 4 [(0, .ref (z + 325)), (1, .int p0)] := hl
  have C4 : ∀ (n : Nat), ∀ (I : dkI) (H : Heap) (locs : List Loc) (ls : Array Slot) (x4_2 : Int32) (x4_3 : Int32), (90 - x4_3.toInt).toNat < n → dkW g z I H → va_S (dkA z) s.heap H locs → dkF [(326, 326, 0, 4), (326, 326, 11, 11), (326, 326, 15, 17), (327, 327, 0, 4), (328, 328, 0, 4), (329, 329, 0, 4), (330, 330, 0, 4), (331, 331, 0, 4), (332, 332, 0, 4), (333, 333, 0, 5), (334, 334, 0, 5), (335, 335, 0, 5), (336, 336, 0, 8)] I0 I → dkOk I → dkN [(0, 90)] x4_3 → lv_has ls 4 [(0, .ref (z + 325)), (1, .int p0), (2, .int x4_2), (3, .int x4_3)] → W p l e (headSpec wsX3_packsThatCrown (dkR 6)).room s m args below meth c H locs 0 0 (MQ below (dkQi g z (fun r I1 => dkF [(326, 326, 0, 4), (326, 326, 11, 11), (326, 326, 15, 17), (327, 327, 0, 4), (328, 328, 0, 4), (329, 329, 0, 4), (330, 330, 0, 4), (331, 331, 0, 4), (332, 332, 0, 4), (333, 333, 0, 5), (334, 334, 0, 5), (335, 335, 0, 5), (336, 336, 0, 8)] I0 I1 ∧ dkOk I1 ∧ ((True ∧ True)))) args s 0 0 (dkA z)) (F0 m 4 ls []) := by
    intro n
    induction n with
    | zero => intro I H locs ls x4_2 x4_3 hn; exact absurd hn (Nat.not_lt_zero _)
    | succ n ih4 =>
      intro I4_ H locs ls x4_2 x4_3 hn4 hW hS hF_4 hO k4_1 hl
      have hF := hF_4
      have C30 : ∀ (I : dkI) (H : Heap) (locs : List Loc) (ls : Array Slot) (x30_2 : Int32), dkW g z I H → va_S (dkA z) s.heap H locs → dkF [(326, 326, 0, 4), (326, 326, 11, 11), (326, 326, 15, 17), (327, 327, 0, 4), (328, 328, 0, 4), (329, 329, 0, 4), (330, 330, 0, 4), (331, 331, 0, 4), (332, 332, 0, 4), (333, 333, 0, 5), (334, 334, 0, 5), (335, 335, 0, 5), (336, 336, 0, 8)] I0 I → dkOk I → dkN [(0, 63)] x4_3 → lv_has ls 4 [(0, .ref (z + 325)), (1, .int p0), (2, .int x30_2), (3, .int x4_3)] → W p l e (headSpec wsX3_packsThatCrown (dkR 6)).room s m args below meth c H locs 0 0 (MQ below (dkQi g z (fun r I1 => dkF [(326, 326, 0, 4), (326, 326, 11, 11), (326, 326, 15, 17), (327, 327, 0, 4), (328, 328, 0, 4), (329, 329, 0, 4), (330, 330, 0, 4), (331, 331, 0, 4), (332, 332, 0, 4), (333, 333, 0, 5), (334, 334, 0, 5), (335, 335, 0, 5), (336, 336, 0, 8)] I0 I1 ∧ dkOk I1 ∧ ((True ∧ True)))) args s 0 0 (dkA z)) (F0 m 30 ls []) := by
        intro I30_ H locs ls x30_2 hW hS hF_30 hO r30_0 hl
        have hF := hF_30
        obtain ⟨v1, ev1⟩ : ∃ y : Int32, y = x4_3 + 1 := ⟨_, rfl⟩
        have dv1 : dkN [(1, 64)] v1 := by rw [ev1]; exact dkN_add r30_0 (dkN_lit (x := 1) (1) rfl) rfl
        refine lv_iinc (v := v1) (lv' := [(3, .int v1), (0, .ref (z + 325)), (1, .int p0), (2, .int x30_2)]) hx hb dX3_packsThatCrown_30 hl (k := 3) rfl (by rw [ev1]; rfl) (by decide) rfl (fun ls hl => ?_)
        refine lv_goto (tgt := 4) hx hb dX3_packsThatCrown_33 (by decide) ?_
        exact ih4 I30_ _ _ ls x30_2 v1 (dk_near hn4 (by rw [ev1]; exact dk_inc r30_0 rfl) (dkN_lt r30_0 rfl)) hW hS hF hO (dkN_sub dv1 rfl) (lv_sub hl [1, 2, 3, 0] rfl)
      refine lv_iload_n hx hb dX3_packsThatCrown_4 rfl (lv_at hl 3 rfl) ?_
      refine lv_aload_n hx hb dX3_packsThatCrown_5 rfl (lv_at hl 0 rfl) ?_
      refine dk_get (k := 325) hx hb hts iX3_packsThatCrown_3 hown hK (dk_at325 hW) rfl 0 (by decide) (hts (.fieldLink RX3 22 "DogKings$Seer" "now" "LDogKings$Town;") (List.mem_of_getElem? (i := 1) rfl)) rfl dX3_packsThatCrown_6 ?_
      refine dk_get (k := 25) hx hb hts iX3_packsThatCrown_4 hown hK (dk_at25 hW) rfl 11 (by decide) (hts (.fieldLink RX3 107 "DogKings$Town" "dogs" "I") (List.mem_of_getElem? (i := 2) rfl)) rfl dX3_packsThatCrown_9 ?_
      refine lv_topi (fun v2 ev2 => ?_)
      have dv2 : dkN [(0, 6)] v2 := by rw [ev2]; exact (hO 25 11)
      refine dk_SiN (As := [.int v2]) (rest := [.int x4_3]) ⟨hx, hb, hml, hown, hts⟩ (c_X5_setOfAll_2 l g z I4_ v2 dv2 hO) ⟨va_cnB 1 hts gX3_packsThatCrown_X5_setOfAll_n65 rfl rfl rfl (hK.2.1 (RX3, 65, yX5_setOfAll) (by decide)) (hts (.initialized RX5) (List.mem_of_getElem? (i := 4) rfl)) (by decide +kernel) ⟨Nat.le_of_ble_eq_true rfl, Nat.le_of_ble_eq_true rfl⟩, (hts (.static yX5_setOfAll) (List.mem_of_getElem? (i := 3) rfl)), trivial⟩ hK hT hW hS rfl hl.1 rfl (Nat.le_of_ble_eq_true rfl) dX3_packsThatCrown_12 ⟨Nat.zero_le _, Nat.zero_le _⟩ (fun v3 I3 H3 L3 hp3 hW hS => ?_)
      obtain ⟨hF3, hO, hc3⟩ := hp3
      have hF := dkF_call hF hF3 rfl
      obtain ⟨dv3, -⟩ := hc3
      refine lv_icmp_gt (tgt := 36) hx hb dX3_packsThatCrown_15 (by decide) (fun c4 => ?_) (fun c4 => ?_)
      ·
        have d5 : dkN [(1, 90)] x4_3 := dkN_le2 1 dv3 k4_1 (dkc_lt c4) rfl
        refine lv_iload_n hx hb dX3_packsThatCrown_36 rfl (lv_at hl 2 rfl) ?_
        exact W.iret (v := x4_2) hx hb hr (fun t ht hW9 => ⟨⟨x4_2, I3, rfl, ⟨hF, hO, ⟨trivial, trivial⟩⟩, dkW_eq ht hW⟩, hS.F ht⟩) hS.2.2 dX3_packsThatCrown_37
      ·
        have d6 : dkN [(0, 63)] x4_3 := dkN_le1 0 k4_1 dv3 (dkc_nlt c4) rfl
        refine lv_aload_n hx hb dX3_packsThatCrown_18 rfl (lv_at hl 0 rfl) ?_
        refine lv_iload_n hx hb dX3_packsThatCrown_19 rfl (lv_at hl 3 rfl) ?_
        refine dk_Vi (As := [.int x4_3]) (rest := []) ⟨hx, hb, hml, hown, hts⟩ (c_X3_kingBy_0 l g z I3 x4_3 hO) (cwV 1 hts gX3_packsThatCrown_X3_kingBy rfl rfl rfl (by decide +kernel) ⟨Nat.le_of_ble_eq_true rfl, Nat.le_of_ble_eq_true rfl⟩) (dk_at325 hW) rfl hK hT hW hS rfl hl.1 rfl (Nat.le_of_ble_eq_true rfl) dX3_packsThatCrown_20 ⟨Nat.zero_le _, Nat.zero_le _⟩ (fun v7 I7 H7 L7 hp7 hW hS => ?_)
        obtain ⟨hF7, hO, hc7⟩ := hp7
        have hF := dkF_call hF hF7 rfl
        obtain ⟨dv7, -⟩ := hc7
        refine lv_iload_n hx hb dX3_packsThatCrown_23 rfl (lv_at hl 1 rfl) ?_
        refine lv_icmp_ne (tgt := 30) hx hb dX3_packsThatCrown_24 (by decide) (fun c8 => ?_) (fun c8 => ?_)
        ·
          exact C30 I7 _ _ ls x4_2 hW hS hF hO (dkN_sub d6 rfl) (lv_sub hl [0, 1, 2, 3] rfl)
        ·
          have d9 : dkN [(0, 4)] v7 := dkN_eq1 dv7 dp0 (congrArg Int32.toInt c8) rfl
          obtain ⟨v10, ev10⟩ : ∃ y : Int32, y = x4_2 + 1 := ⟨_, rfl⟩
          refine lv_iinc (v := v10) (lv' := [(2, .int v10), (0, .ref (z + 325)), (1, .int p0), (3, .int x4_3)]) hx hb dX3_packsThatCrown_27 hl (k := 2) rfl (by rw [ev10]; rfl) (by decide) rfl (fun ls hl => ?_)
          exact C30 I7 _ _ ls v10 hW hS hF hO (dkN_sub d6 rfl) (lv_sub hl [1, 2, 0, 3] rfl)
  refine lv_iconst (v := 0) hx hb dX3_packsThatCrown_0 (by decide) ?_
  refine lv_istore_n (lv' := [(2, .int 0), (0, .ref (z + 325)), (1, .int p0)]) hx hb dX3_packsThatCrown_1 rfl hl (by decide) rfl (fun ls hl => ?_)
  refine lv_iconst (v := 0) hx hb dX3_packsThatCrown_2 (by decide) ?_
  refine lv_istore_n (lv' := [(3, .int 0), (2, .int 0), (0, .ref (z + 325)), (1, .int p0)]) hx hb dX3_packsThatCrown_3 rfl hl (by decide) rfl (fun ls hl => ?_)
  exact C4 _ I0 _ _ ls 0 0 (Nat.lt_succ_self _) hW hS hF hO (dkN_sub (dkN_lit (x := 0) (0) rfl) rfl) (lv_sub hl [2, 3, 1, 0] rfl)
set_option maxHeartbeats 4000000 in
set_option maxRecDepth 100000 in
theorem c_X5_packs_0 (l : Launch) (g : dkG) (z : Nat) (I0 : dkI) (p0 : Int32)  (hO : dkOk I0) : Met l yX5_packs wsX5_packs (dkR 7) (dkPc g z [.ref (z + 0), .int p0] I0) (dkQi g z (fun r I1 => dkF [(326, 326, 0, 4), (326, 326, 11, 11), (326, 326, 15, 17), (327, 327, 0, 4), (328, 328, 0, 4), (329, 329, 0, 4), (330, 330, 0, 4), (331, 331, 0, 4), (332, 332, 0, 4), (333, 333, 0, 5), (334, 334, 0, 5), (335, 335, 0, 5), (336, 336, 0, 8)] I0 I1 ∧ dkOk I1 ∧ ((True ∧ True)))) 0 0 (dkA z) := by
  refine Met.ofW (cc := cX5_packs) (maxL := 2) (ret := (some .int)) (by decide) rfl ?_
  intro p e s m args below meth c s₁ B hml hv
  obtain ⟨ha, hW, hK, hT⟩ := hv
  have hx := B.exec
  have hb := B.bytes
  have hr := B.returns
  have hts := atoms_spec (ws := wsX5_packs) B.pre
  have hown : s.vm.findClass RX5 = some m.cls := findClass_of_methodNamed B.named
  have hlocks := B.notSynchronized
  have hS : va_S (dkA z) s.heap s.heap [] := va_S.rf
  have hF : dkF [(326, 326, 0, 4), (326, 326, 11, 11), (326, 326, 15, 17), (327, 327, 0, 4), (328, 328, 0, 4), (329, 329, 0, 4), (330, 330, 0, 4), (331, 331, 0, 4), (332, 332, 0, 4), (333, 333, 0, 5), (334, 334, 0, 5), (335, 335, 0, 5), (336, 336, 0, 8)] I0 I0 := dkF_rf _ _
  have hl := lv_entry ([.ref (z + 0), .int p0]) (n := 2) (Nat.le_of_ble_eq_true rfl)
  have hgo : entryFrame m args 2 = entryFrame m ([.ref (z + 0), .int p0] : List Value).toArray 2 := by rw [ha]
  rw [hgo, lg_entry_eq]
  generalize (lg_sl ([.ref (z + 0), .int p0]) ++ List.replicate (2 - (lg_sl ([.ref (z + 0), .int p0])).length) Slot.unset).toArray = ls at hl ⊢
  have hl : lv_has ls 2 [(0, .ref (z + 0)), (1, .int p0)] := hl
  refine lv_aload_n hx hb dX5_packs_0 rfl (lv_at hl 0 rfl) ?_
  refine lv_iload_n hx hb dX5_packs_1 rfl (lv_at hl 1 rfl) ?_
  refine dk_Vi (As := [.int p0]) (rest := []) ⟨hx, hb, hml, hown, hts⟩ (c_X5_isPerson_0 l g z I0 p0 hO) (cwV 1 hts gX5_packs_X5_isPerson rfl rfl rfl (by decide +kernel) ⟨Nat.le_of_ble_eq_true rfl, Nat.le_of_ble_eq_true rfl⟩) (dk_at0 hW) rfl hK hT hW hS rfl hl.1 rfl (Nat.le_of_ble_eq_true rfl) dX5_packs_2 ⟨Nat.zero_le _, Nat.zero_le _⟩ (fun v1 I1 H1 L1 hp1 hW hS => ?_)
  obtain ⟨hF1, hO, hc1⟩ := hp1
  have hF := dkF_call hF hF1 rfl
  rcases hc1 with ⟨dv1, -⟩ | hc1
  ·
    refine lv_if_eq (tgt := 19) hx hb dX5_packs_5 (by decide) (fun c2 => ?_) (fun c2 => ?_)
    ·
      refine lv_ldc (v := (-1000001)) hx hb hown (hts (.constant RX5 70 (-1000001)) (List.mem_of_getElem? (i := 2) rfl)) dX5_packs_19 ?_
      exact W.iret (v := (-1000001)) hx hb hr (fun t ht hW9 => ⟨⟨(-1000001), I1, rfl, ⟨hF, hO, ⟨trivial, trivial⟩⟩, dkW_eq ht hW⟩, hS.F ht⟩) hS.2.2 dX5_packs_21
    ·
      exact (dkN_nil (show dkN [] v1 from dkN_ne1 (0) dv1 (dkN_lit (x := 0) (0) rfl) (dk_ne c2) rfl)).elim
  ·
    obtain ⟨dv1, a1_0, f1_25_4, -⟩ := hc1
    have d3 : dkN [(0, 4)] p0 := dkN_eq1 (dkN_top p0) a1_0 rfl rfl
    refine lv_if_eq (tgt := 19) hx hb dX5_packs_5 (by decide) (fun c4 => ?_) (fun c4 => ?_)
    ·
      exact (dkN_nil (show dkN [] v1 from dkN_eq1 dv1 (dkN_lit (x := 0) (0) rfl) (congrArg Int32.toInt c4) rfl)).elim
    ·
      refine lv_aload_n hx hb dX5_packs_8 rfl (lv_at hl 0 rfl) ?_
      refine dk_get (k := 0) hx hb hts iX5_packs_5 hown hK (dk_at0 hW) rfl 8 (by decide) (hts (.fieldLink RX5 51 "DogKings" "seer" "LDogKings$Seer;") (List.mem_of_getElem? (i := 1) rfl)) rfl dX5_packs_9 ?_
      refine lv_iload_n hx hb dX5_packs_12 rfl (lv_at hl 1 rfl) ?_
      refine dk_Vi (As := [.int p0]) (rest := []) ⟨hx, hb, hml, hown, hts⟩ (c_X3_packsThatCrown_0 l g z I1 p0 d3 hO) (cwV 1 hts gX5_packs_X3_packsThatCrown rfl rfl rfl (by decide +kernel) ⟨Nat.le_of_ble_eq_true rfl, Nat.le_of_ble_eq_true rfl⟩) (dk_at325 hW) rfl hK hT hW hS rfl hl.1 rfl (Nat.le_of_ble_eq_true rfl) dX5_packs_13 ⟨Nat.zero_le _, Nat.zero_le _⟩ (fun v5 I5 H5 L5 hp5 hW hS => ?_)
      obtain ⟨hF5, hO, hc5⟩ := hp5
      have hF := dkF_call hF hF5 rfl
      obtain ⟨_, -⟩ := hc5
      refine lv_goto (tgt := 21) hx hb dX5_packs_16 (by decide) ?_
      exact W.iret (v := v5) hx hb hr (fun t ht hW9 => ⟨⟨v5, I5, rfl, ⟨hF, hO, ⟨trivial, trivial⟩⟩, dkW_eq ht hW⟩, hS.F ht⟩) hS.2.2 dX5_packs_21
set_option maxHeartbeats 4000000 in
set_option maxRecDepth 100000 in
theorem c_X6_packs_0 (l : Launch) (g : dkG) (z : Nat) (I0 : dkI) (p0 : Int32)  (hO : dkOk I0) : Met l yX6_packs wsX6_packs (dkR 7) (dkPc g z [.ref (z + 340), .int p0] I0) (dkQi g z (fun r I1 => dkF [(340, 340, 20, 22), (348, 348, 0, 53)] I0 I1 ∧ dkOk I1 ∧ ((True ∧ True)))) 0 0 (dkA z) := by
  refine Met.ofW (cc := cX6_packs) (maxL := 4) (ret := (some .int)) (by decide) rfl ?_
  intro p e s m args below meth c s₁ B hml hv
  obtain ⟨ha, hW, hK, hT⟩ := hv
  have hx := B.exec
  have hb := B.bytes
  have hr := B.returns
  have hts := atoms_spec (ws := wsX6_packs) B.pre
  have hown : s.vm.findClass RX6 = some m.cls := findClass_of_methodNamed B.named
  have hlocks := B.notSynchronized
  have hS : va_S (dkA z) s.heap s.heap [] := va_S.rf
  have hF : dkF [(340, 340, 20, 22), (348, 348, 0, 53)] I0 I0 := dkF_rf _ _
  have hl := lv_entry ([.ref (z + 340), .int p0]) (n := 4) (Nat.le_of_ble_eq_true rfl)
  have hgo : entryFrame m args 4 = entryFrame m ([.ref (z + 340), .int p0] : List Value).toArray 4 := by rw [ha]
  rw [hgo, lg_entry_eq]
  generalize (lg_sl ([.ref (z + 340), .int p0]) ++ List.replicate (4 - (lg_sl ([.ref (z + 340), .int p0])).length) Slot.unset).toArray = ls at hl ⊢
  have hl : lv_has ls 4 [(0, .ref (z + 340)), (1, .int p0)] := hl
  have C15 : ∀ (n : Nat), ∀ (I : dkI) (H : Heap) (locs : List Loc) (ls : Array Slot) (x15_2 : Int32) (x15_3 : Int32), (90 - x15_3.toInt).toNat < n → dkW g z I H → va_S (dkA z) s.heap H locs → dkF [(340, 340, 20, 22), (348, 348, 0, 53)] I0 I → dkOk I → dkN [(0, 90)] x15_3 → dkN [(0, 4)] p0 → lv_has ls 4 [(0, .ref (z + 340)), (1, .int p0), (2, .int x15_2), (3, .int x15_3)] → W p l e (headSpec wsX6_packs (dkR 7)).room s m args below meth c H locs 0 0 (MQ below (dkQi g z (fun r I1 => dkF [(340, 340, 20, 22), (348, 348, 0, 53)] I0 I1 ∧ dkOk I1 ∧ ((True ∧ True)))) args s 0 0 (dkA z)) (F0 m 15 ls []) := by
    intro n
    induction n with
    | zero => intro I H locs ls x15_2 x15_3 hn; exact absurd hn (Nat.not_lt_zero _)
    | succ n ih15 =>
      intro I15_ H locs ls x15_2 x15_3 hn15 hW hS hF_15 hO k15_1 r15_0 hl
      have hF := hF_15
      have C50 : ∀ (I : dkI) (H : Heap) (locs : List Loc) (ls : Array Slot) (x50_s0 : Int32), dkW g z I H → va_S (dkA z) s.heap H locs → dkF [(340, 340, 20, 22), (348, 348, 0, 53)] I0 I → dkOk I → dkN [(0, 1)] x50_s0 → dkN [(0, 4)] p0 → dkN [(0, 63)] x15_3 → dkN [(0, 0)] (I 340 21) → dkN [(0, 0)] (I 340 22) → dkN [(0, 2147483647)] (I 348 3) → lv_has ls 4 [(0, .ref (z + 340)), (1, .int p0), (2, .int x15_2), (3, .int x15_3)] → W p l e (headSpec wsX6_packs (dkR 7)).room s m args below meth c H locs 0 0 (MQ below (dkQi g z (fun r I1 => dkF [(340, 340, 20, 22), (348, 348, 0, 53)] I0 I1 ∧ dkOk I1 ∧ ((True ∧ True)))) args s 0 0 (dkA z)) (F0 m 50 ls [.int x50_s0, .int x15_2]) := by
        intro I50_ H locs ls x50_s0 hW hS hF_50 hO k50_0 r50_0 r50_1 f50_0 f50_1 f50_2 hl
        have hF := hF_50
        refine lv_iadd hx hb dX6_packs_50 ?_
        refine lv_topi (fun v1 ev1 => ?_)
        refine lv_istore_n (lv' := [(2, .int v1), (0, .ref (z + 340)), (1, .int p0), (3, .int x15_3)]) hx hb dX6_packs_51 rfl hl (by decide) rfl (fun ls hl => ?_)
        obtain ⟨v2, ev2⟩ : ∃ y : Int32, y = x15_3 + 1 := ⟨_, rfl⟩
        have dv2 : dkN [(1, 64)] v2 := by rw [ev2]; exact dkN_add r50_1 (dkN_lit (x := 1) (1) rfl) rfl
        refine lv_iinc (v := v2) (lv' := [(3, .int v2), (2, .int v1), (0, .ref (z + 340)), (1, .int p0)]) hx hb dX6_packs_52 hl (k := 3) rfl (by rw [ev2]; rfl) (by decide) rfl (fun ls hl => ?_)
        refine lv_goto (tgt := 15) hx hb dX6_packs_55 (by decide) ?_
        exact ih15 I50_ _ _ ls v1 v2 (dk_near hn15 (by rw [ev2]; exact dk_inc r50_1 rfl) (dkN_lt r50_1 rfl)) hW hS hF hO (dkN_sub dv2 rfl) (dkN_sub r50_0 rfl) (lv_sub hl [2, 3, 1, 0] rfl)
      refine lv_iload_n hx hb dX6_packs_15 rfl (lv_at hl 3 rfl) ?_
      refine lv_iconst (v := 1) hx hb dX6_packs_16 (by decide) ?_
      refine lv_aload_n hx hb dX6_packs_17 rfl (lv_at hl 0 rfl) ?_
      refine dk_get (k := 340) hx hb hts iX6_packs_6 hown hK (dk_at340 hW) rfl 13 (by decide) (hts (.fieldLink RX6 25 "DogKingsModel" "now" "[I") (List.mem_of_getElem? (i := 2) rfl)) rfl dX6_packs_18 ?_
      refine lv_iconst (v := 5) hx hb dX6_packs_21 (by decide) ?_
      refine dk_ild (k := 346) hx hb hK (dk_at346 hW) (dkN_in (n := 54) (dkN_lit (x := 5) (5) rfl) rfl) dX6_packs_22 ?_
      refine lv_topi (fun v3 ev3 => ?_)
      have ev3 : v3 = I15_ 346 5 := ev3
      have dv3 : dkN [(0, 6)] v3 := by rw [ev3]; exact (show dkN [(0, 6)] (I15_ 346 5) from (hO 346 5))
      refine lv_ishl hx hb dX6_packs_23 ?_
      refine lv_topi (fun v4 ev4 => ?_)
      have dv4 : dkN [(1, 64)] v4 := by rw [ev4]; exact dkN_shl1 0 6 (by decide) dv3 rfl
      refine lv_icmp_ge (tgt := 58) hx hb dX6_packs_24 (by decide) (fun c5 => ?_) (fun c5 => ?_)
      ·
        have d6 : dkN [(1, 90)] x15_3 := dkN_le2 0 dv4 k15_1 (dkc_le c5) rfl
        refine lv_iload_n hx hb dX6_packs_58 rfl (lv_at hl 2 rfl) ?_
        exact W.iret (v := x15_2) hx hb hr (fun t ht hW9 => ⟨⟨x15_2, I15_, rfl, ⟨hF, hO, ⟨trivial, trivial⟩⟩, dkW_eq ht hW⟩, hS.F ht⟩) hS.2.2 dX6_packs_59
      ·
        have d7 : dkN [(0, 63)] x15_3 := dkN_le1 1 k15_1 dv4 (dkc_nle c5) rfl
        refine lv_aload_n hx hb dX6_packs_27 rfl (lv_at hl 0 rfl) ?_
        refine dk_Vv (As := []) (rest := []) ⟨hx, hb, hml, hown, hts⟩ (c_X6_tries_0 l g z I15_ hO) (cwV 0 hts gX6_packs_X6_tries rfl rfl rfl (by decide +kernel) ⟨Nat.le_of_ble_eq_true rfl, Nat.le_of_ble_eq_true rfl⟩) (dk_at340 hW) rfl hK hT hW hS rfl hl.1 rfl (Nat.le_of_ble_eq_true rfl) dX6_packs_28 ⟨Nat.zero_le _, Nat.zero_le _⟩ (fun I8 H8 L8 hp8 hW hS => ?_)
        obtain ⟨hF8, hO, hc8⟩ := hp8
        have hF := dkF_call hF hF8 rfl
        obtain ⟨f8_340_20, f8_340_21, f8_340_22, -⟩ := hc8
        refine lv_aload_n hx hb dX6_packs_31 rfl (lv_at hl 0 rfl) ?_
        refine lv_iload_n hx hb dX6_packs_32 rfl (lv_at hl 3 rfl) ?_
        refine dk_put (k := 340) hx hb hts iX6_packs_6 tyX6 tyX6_ok nmX6 hown hK hW (dk_at340 hW) hS rfl 20 (by decide) (hts (.fieldLink RX6 209 "DogKingsModel" "gone" "I") (List.mem_of_getElem? (i := 3) rfl)) rfl rfl (Nat.le_of_ble_eq_true rfl) rfl dX6_packs_33 (fun I9 H9 L9 eI9 hW hS => ?_)
        have eI9 : I9 = dkU I8 340 20 x15_3 := eI9
        have hO := dkO_set hO eI9 (dkN_sub d7 rfl)
        have hF := dkF_set hF eI9 rfl
        refine lv_iload_n hx hb dX6_packs_36 rfl (lv_at hl 2 rfl) ?_
        refine lv_aload_n hx hb dX6_packs_37 rfl (lv_at hl 0 rfl) ?_
        refine dk_Vi (As := []) (rest := [.int x15_2]) ⟨hx, hb, hml, hown, hts⟩ (c_X6_nextKing_0 l g z I9 hO) (cwV 0 hts gX6_packs_X6_nextKing rfl rfl rfl (by decide +kernel) ⟨Nat.le_of_ble_eq_true rfl, Nat.le_of_ble_eq_true rfl⟩) (dk_at340 hW) rfl hK hT hW hS rfl hl.1 rfl (Nat.le_of_ble_eq_true rfl) dX6_packs_38 ⟨Nat.zero_le _, Nat.zero_le _⟩ (fun v10 I10 H10 L10 hp10 hW hS => ?_)
        obtain ⟨hF10, hO, hc10⟩ := hp10
        have hF := dkF_call hF hF10 rfl
        obtain ⟨dv10, f10_348_3, -⟩ := hc10
        refine lv_iload_n hx hb dX6_packs_41 rfl (lv_at hl 1 rfl) ?_
        refine lv_icmp_ne (tgt := 49) hx hb dX6_packs_42 (by decide) (fun c11 => ?_) (fun c11 => ?_)
        ·
          refine lv_iconst (v := 0) hx hb dX6_packs_49 (by decide) ?_
          exact C50 I10 _ _ ls 0 hW hS hF hO (dkN_sub (dkN_lit (x := 0) (0) rfl) rfl) (dkN_sub r15_0 rfl) (dkN_sub d7 rfl) (show dkN [(0, 0)] (I10 340 21) from dkN_sub (by rw [hF10 340 21 rfl]; exact (by rw [eI9, dkU_sn (by decide)]; exact f8_340_21)) rfl) (show dkN [(0, 0)] (I10 340 22) from dkN_sub (by rw [hF10 340 22 rfl]; exact (by rw [eI9, dkU_sn (by decide)]; exact f8_340_22)) rfl) (show dkN [(0, 2147483647)] (I10 348 3) from dkN_sub f10_348_3 rfl) (lv_sub hl [0, 1, 2, 3] rfl)
        ·
          have d12 : dkN [(0, 4)] v10 := dkN_eq1 dv10 r15_0 (congrArg Int32.toInt c11) rfl
          refine lv_iconst (v := 1) hx hb dX6_packs_45 (by decide) ?_
          refine lv_goto (tgt := 50) hx hb dX6_packs_46 (by decide) ?_
          exact C50 I10 _ _ ls 1 hW hS hF hO (dkN_sub (dkN_lit (x := 1) (1) rfl) rfl) (dkN_sub r15_0 rfl) (dkN_sub d7 rfl) (show dkN [(0, 0)] (I10 340 21) from dkN_sub (by rw [hF10 340 21 rfl]; exact (by rw [eI9, dkU_sn (by decide)]; exact f8_340_21)) rfl) (show dkN [(0, 0)] (I10 340 22) from dkN_sub (by rw [hF10 340 22 rfl]; exact (by rw [eI9, dkU_sn (by decide)]; exact f8_340_22)) rfl) (show dkN [(0, 2147483647)] (I10 348 3) from dkN_sub f10_348_3 rfl) (lv_sub hl [0, 1, 2, 3] rfl)
  refine lv_aload_n hx hb dX6_packs_0 rfl (lv_at hl 0 rfl) ?_
  refine lv_iload_n hx hb dX6_packs_1 rfl (lv_at hl 1 rfl) ?_
  refine dk_Vi (As := [.int p0]) (rest := []) ⟨hx, hb, hml, hown, hts⟩ (c_X6_isPerson_0 l g z I0 p0 hO) (cwV 1 hts gX6_packs_X6_isPerson rfl rfl rfl (by decide +kernel) ⟨Nat.le_of_ble_eq_true rfl, Nat.le_of_ble_eq_true rfl⟩) (dk_at340 hW) rfl hK hT hW hS rfl hl.1 rfl (Nat.le_of_ble_eq_true rfl) dX6_packs_2 ⟨Nat.zero_le _, Nat.zero_le _⟩ (fun v13 I13 H13 L13 hp13 hW hS => ?_)
  obtain ⟨hF13, hO, hc13⟩ := hp13
  have hF := dkF_call hF hF13 rfl
  rcases hc13 with ⟨dv13, -⟩ | hc13
  ·
    refine lv_if_ne (tgt := 11) hx hb dX6_packs_5 (by decide) (fun c14 => ?_) (fun c14 => ?_)
    ·
      exact (dkN_nil (show dkN [] v13 from dkN_ne1 (0) dv13 (dkN_lit (x := 0) (0) rfl) (dk_ne c14) rfl)).elim
    ·
      refine lv_ldc (v := (-1000001)) hx hb hown (hts (.constant RX6 64 (-1000001)) (List.mem_of_getElem? (i := 1) rfl)) dX6_packs_8 ?_
      exact W.iret (v := (-1000001)) hx hb hr (fun t ht hW9 => ⟨⟨(-1000001), I13, rfl, ⟨hF, hO, ⟨trivial, trivial⟩⟩, dkW_eq ht hW⟩, hS.F ht⟩) hS.2.2 dX6_packs_10
  ·
    obtain ⟨dv13, a13_0, -⟩ := hc13
    have d15 : dkN [(0, 4)] p0 := dkN_eq1 (dkN_top p0) a13_0 rfl rfl
    refine lv_if_ne (tgt := 11) hx hb dX6_packs_5 (by decide) (fun c16 => ?_) (fun c16 => ?_)
    ·
      refine lv_iconst (v := 0) hx hb dX6_packs_11 (by decide) ?_
      refine lv_istore_n (lv' := [(2, .int 0), (0, .ref (z + 340)), (1, .int p0)]) hx hb dX6_packs_12 rfl hl (by decide) rfl (fun ls hl => ?_)
      refine lv_iconst (v := 0) hx hb dX6_packs_13 (by decide) ?_
      refine lv_istore_n (lv' := [(3, .int 0), (2, .int 0), (0, .ref (z + 340)), (1, .int p0)]) hx hb dX6_packs_14 rfl hl (by decide) rfl (fun ls hl => ?_)
      exact C15 _ I13 _ _ ls 0 0 (Nat.lt_succ_self _) hW hS hF hO (dkN_sub (dkN_lit (x := 0) (0) rfl) rfl) (dkN_sub d15 rfl) (lv_sub hl [2, 3, 1, 0] rfl)
    ·
      exact (dkN_nil (show dkN [] v13 from dkN_eq1 dv13 (dkN_lit (x := 0) (0) rfl) (congrArg Int32.toInt c16) rfl)).elim
set_option maxHeartbeats 4000000 in
set_option maxRecDepth 100000 in
theorem c_X3_dogsThatDecide_0 (l : Launch) (g : dkG) (z : Nat) (I0 : dkI)  (hO : dkOk I0) : Met l yX3_dogsThatDecide wsX3_dogsThatDecide (dkR 6) (dkPc g z [.ref (z + 325)] I0) (dkQi g z (fun r I1 => dkF [(326, 326, 0, 4), (326, 326, 11, 11), (326, 326, 15, 17), (327, 327, 0, 4), (328, 328, 0, 4), (329, 329, 0, 4), (330, 330, 0, 4), (331, 331, 0, 4), (332, 332, 0, 4), (333, 333, 0, 5), (334, 334, 0, 5), (335, 335, 0, 5), (336, 336, 0, 8)] I0 I1 ∧ dkOk I1 ∧ ((True ∧ True)))) 0 0 (dkA z) := by
  refine Met.ofW (cc := cX3_dogsThatDecide) (maxL := 5) (ret := (some .int)) (by decide) rfl ?_
  intro p e s m args below meth c s₁ B hml hv
  obtain ⟨ha, hW, hK, hT⟩ := hv
  have hx := B.exec
  have hb := B.bytes
  have hr := B.returns
  have hts := atoms_spec (ws := wsX3_dogsThatDecide) B.pre
  have hown : s.vm.findClass RX3 = some m.cls := findClass_of_methodNamed B.named
  have hlocks := B.notSynchronized
  have hS : va_S (dkA z) s.heap s.heap [] := va_S.rf
  have hF : dkF [(326, 326, 0, 4), (326, 326, 11, 11), (326, 326, 15, 17), (327, 327, 0, 4), (328, 328, 0, 4), (329, 329, 0, 4), (330, 330, 0, 4), (331, 331, 0, 4), (332, 332, 0, 4), (333, 333, 0, 5), (334, 334, 0, 5), (335, 335, 0, 5), (336, 336, 0, 8)] I0 I0 := dkF_rf _ _
  have hl := lv_entry ([.ref (z + 325)]) (n := 5) (Nat.le_of_ble_eq_true rfl)
  have hgo : entryFrame m args 5 = entryFrame m ([.ref (z + 325)] : List Value).toArray 5 := by rw [ha]
  rw [hgo, lg_entry_eq]
  generalize (lg_sl ([.ref (z + 325)]) ++ List.replicate (5 - (lg_sl ([.ref (z + 325)])).length) Slot.unset).toArray = ls at hl ⊢
  have hl : lv_has ls 5 [(0, .ref (z + 325))] := hl
  have C22 : ∀ (n : Nat), ∀ (I : dkI) (H : Heap) (locs : List Loc) (ls : Array Slot) (x22_1 : Int32) (x22_2 : Int32) (x22_3 : Int32) (x22_4 : Int32), (6 - x22_4.toInt).toNat < n → dkW g z I H → va_S (dkA z) s.heap H locs → dkF [(326, 326, 0, 4), (326, 326, 11, 11), (326, 326, 15, 17), (327, 327, 0, 4), (328, 328, 0, 4), (329, 329, 0, 4), (330, 330, 0, 4), (331, 331, 0, 4), (332, 332, 0, 4), (333, 333, 0, 5), (334, 334, 0, 5), (335, 335, 0, 5), (336, 336, 0, 8)] I0 I → dkOk I → dkN [(0, 63)] x22_1 → dkN [(-1000000, -1000000), (0, 4)] x22_2 → dkN [(0, 6)] x22_4 → lv_has ls 5 [(0, .ref (z + 325)), (1, .int x22_1), (2, .int x22_2), (3, .int x22_3), (4, .int x22_4)] → W p l e (headSpec wsX3_dogsThatDecide (dkR 6)).room s m args below meth c H locs 0 0 (MQ below (dkQi g z (fun r I1 => dkF [(326, 326, 0, 4), (326, 326, 11, 11), (326, 326, 15, 17), (327, 327, 0, 4), (328, 328, 0, 4), (329, 329, 0, 4), (330, 330, 0, 4), (331, 331, 0, 4), (332, 332, 0, 4), (333, 333, 0, 5), (334, 334, 0, 5), (335, 335, 0, 5), (336, 336, 0, 8)] I0 I1 ∧ dkOk I1 ∧ ((True ∧ True)))) args s 0 0 (dkA z)) (F0 m 22 ls []) := by
    intro n
    induction n with
    | zero => intro I H locs ls x22_1 x22_2 x22_3 x22_4 hn; exact absurd hn (Nat.not_lt_zero _)
    | succ n ih22 =>
      intro I22_ H locs ls x22_1 x22_2 x22_3 x22_4 hn22 hW hS hF_22 hO k22_0 k22_1 k22_3 hl
      have hF := hF_22
      have C57 : ∀ (I : dkI) (H : Heap) (locs : List Loc) (ls : Array Slot) (x57_3 : Int32), dkW g z I H → va_S (dkA z) s.heap H locs → dkF [(326, 326, 0, 4), (326, 326, 11, 11), (326, 326, 15, 17), (327, 327, 0, 4), (328, 328, 0, 4), (329, 329, 0, 4), (330, 330, 0, 4), (331, 331, 0, 4), (332, 332, 0, 4), (333, 333, 0, 5), (334, 334, 0, 5), (335, 335, 0, 5), (336, 336, 0, 8)] I0 I → dkOk I → dkN [(0, 63)] x22_1 → dkN [(-1000000, -1000000), (0, 4)] x22_2 → dkN [(0, 5)] x22_4 → dkN [(1, 6)] (I 25 11) → lv_has ls 5 [(0, .ref (z + 325)), (1, .int x22_1), (2, .int x22_2), (3, .int x57_3), (4, .int x22_4)] → W p l e (headSpec wsX3_dogsThatDecide (dkR 6)).room s m args below meth c H locs 0 0 (MQ below (dkQi g z (fun r I1 => dkF [(326, 326, 0, 4), (326, 326, 11, 11), (326, 326, 15, 17), (327, 327, 0, 4), (328, 328, 0, 4), (329, 329, 0, 4), (330, 330, 0, 4), (331, 331, 0, 4), (332, 332, 0, 4), (333, 333, 0, 5), (334, 334, 0, 5), (335, 335, 0, 5), (336, 336, 0, 8)] I0 I1 ∧ dkOk I1 ∧ ((True ∧ True)))) args s 0 0 (dkA z)) (F0 m 57 ls []) := by
        intro I57_ H locs ls x57_3 hW hS hF_57 hO r57_0 r57_1 r57_2 f57_0 hl
        have hF := hF_57
        obtain ⟨v1, ev1⟩ : ∃ y : Int32, y = x22_4 + 1 := ⟨_, rfl⟩
        have dv1 : dkN [(1, 6)] v1 := by rw [ev1]; exact dkN_add r57_2 (dkN_lit (x := 1) (1) rfl) rfl
        refine lv_iinc (v := v1) (lv' := [(4, .int v1), (0, .ref (z + 325)), (1, .int x22_1), (2, .int x22_2), (3, .int x57_3)]) hx hb dX3_dogsThatDecide_57 hl (k := 4) rfl (by rw [ev1]; rfl) (by decide) rfl (fun ls hl => ?_)
        refine lv_goto (tgt := 22) hx hb dX3_dogsThatDecide_60 (by decide) ?_
        exact ih22 I57_ _ _ ls x22_1 x22_2 x57_3 v1 (dk_near hn22 (by rw [ev1]; exact dk_inc r57_2 rfl) (dkN_lt r57_2 rfl)) hW hS hF hO (dkN_sub r57_0 rfl) (dkN_sub r57_1 rfl) (dkN_sub dv1 rfl) (lv_sub hl [1, 2, 3, 4, 0] rfl)
      refine lv_iload hx hb dX3_dogsThatDecide_22 (lv_at hl 4 rfl) ?_
      refine lv_aload_n hx hb dX3_dogsThatDecide_24 rfl (lv_at hl 0 rfl) ?_
      refine dk_get (k := 325) hx hb hts iX3_dogsThatDecide_3 hown hK (dk_at325 hW) rfl 0 (by decide) (hts (.fieldLink RX3 22 "DogKings$Seer" "now" "LDogKings$Town;") (List.mem_of_getElem? (i := 1) rfl)) rfl dX3_dogsThatDecide_25 ?_
      refine dk_get (k := 25) hx hb hts iX3_dogsThatDecide_4 hown hK (dk_at25 hW) rfl 11 (by decide) (hts (.fieldLink RX3 107 "DogKings$Town" "dogs" "I") (List.mem_of_getElem? (i := 2) rfl)) rfl dX3_dogsThatDecide_28 ?_
      refine lv_topi (fun v2 ev2 => ?_)
      have dv2 : dkN [(0, 6)] v2 := by rw [ev2]; exact (hO 25 11)
      refine lv_icmp_ge (tgt := 63) hx hb dX3_dogsThatDecide_31 (by decide) (fun c3 => ?_) (fun c3 => ?_)
      ·
        refine lv_iload_n hx hb dX3_dogsThatDecide_63 rfl (lv_at hl 3 rfl) ?_
        exact W.iret (v := x22_3) hx hb hr (fun t ht hW9 => ⟨⟨x22_3, I22_, rfl, ⟨hF, hO, ⟨trivial, trivial⟩⟩, dkW_eq ht hW⟩, hS.F ht⟩) hS.2.2 dX3_dogsThatDecide_64
      ·
        have d4 : dkN [(1, 6)] v2 := dkN_le2 1 k22_3 dv2 (dkc_nle c3) rfl
        have f5 : dkN [(1, 6)] (I22_ 25 11) := by rw [← ev2]; exact d4
        have d6 : dkN [(0, 5)] x22_4 := dkN_le1 1 k22_3 dv2 (dkc_nle c3) rfl
        refine lv_aload_n hx hb dX3_dogsThatDecide_34 rfl (lv_at hl 0 rfl) ?_
        refine lv_iload_n hx hb dX3_dogsThatDecide_35 rfl (lv_at hl 1 rfl) ?_
        refine lv_iconst (v := 1) hx hb dX3_dogsThatDecide_36 (by decide) ?_
        refine lv_iload hx hb dX3_dogsThatDecide_37 (lv_at hl 4 rfl) ?_
        refine lv_ishl hx hb dX3_dogsThatDecide_39 ?_
        refine lv_topi (fun v7 ev7 => ?_)
        have dv7 : dkN [(1, 32)] v7 := by rw [ev7]; exact dkN_shl1 0 5 (by decide) d6 rfl
        refine lv_iconst (v := (-1)) hx hb dX3_dogsThatDecide_40 (by decide) ?_
        refine lv_ixor hx hb dX3_dogsThatDecide_41 ?_
        refine lv_topi (fun v8 ev8 => ?_)
        refine lv_iand hx hb dX3_dogsThatDecide_42 ?_
        refine lv_topi (fun v9 ev9 => ?_)
        refine dk_Vi (As := [.int v9]) (rest := []) ⟨hx, hb, hml, hown, hts⟩ (c_X3_kingBy_0 l g z I22_ v9 hO) (cwV 1 hts gX3_dogsThatDecide_X3_kingBy rfl rfl rfl (by decide +kernel) ⟨Nat.le_of_ble_eq_true rfl, Nat.le_of_ble_eq_true rfl⟩) (dk_at325 hW) rfl hK hT hW hS rfl hl.1 rfl (Nat.le_of_ble_eq_true rfl) dX3_dogsThatDecide_43 ⟨Nat.zero_le _, Nat.zero_le _⟩ (fun v10 I10 H10 L10 hp10 hW hS => ?_)
        obtain ⟨hF10, hO, hc10⟩ := hp10
        have hF := dkF_call hF hF10 rfl
        obtain ⟨dv10, -⟩ := hc10
        refine lv_iload_n hx hb dX3_dogsThatDecide_46 rfl (lv_at hl 2 rfl) ?_
        refine lv_icmp_eq (tgt := 57) hx hb dX3_dogsThatDecide_47 (by decide) (fun c11 => ?_) (fun c11 => ?_)
        ·
          exact C57 I10 _ _ ls x22_3 hW hS hF hO (dkN_sub k22_0 rfl) (dkN_sub k22_1 rfl) (dkN_sub d6 rfl) (show dkN [(1, 6)] (I10 25 11) from dkN_sub (by rw [hF10 25 11 rfl]; exact f5) rfl) (lv_sub hl [0, 1, 2, 3, 4] rfl)
        ·
          refine lv_iload_n hx hb dX3_dogsThatDecide_50 rfl (lv_at hl 3 rfl) ?_
          refine lv_iconst (v := 1) hx hb dX3_dogsThatDecide_51 (by decide) ?_
          refine lv_iload hx hb dX3_dogsThatDecide_52 (lv_at hl 4 rfl) ?_
          refine lv_ishl hx hb dX3_dogsThatDecide_54 ?_
          refine lv_topi (fun v12 ev12 => ?_)
          have dv12 : dkN [(1, 32)] v12 := by rw [ev12]; exact dkN_shl1 0 5 (by decide) d6 rfl
          refine lv_ior hx hb dX3_dogsThatDecide_55 ?_
          refine lv_topi (fun v13 ev13 => ?_)
          refine lv_istore_n (lv' := [(3, .int v13), (0, .ref (z + 325)), (1, .int x22_1), (2, .int x22_2), (4, .int x22_4)]) hx hb dX3_dogsThatDecide_56 rfl hl (by decide) rfl (fun ls hl => ?_)
          exact C57 I10 _ _ ls v13 hW hS hF hO (dkN_sub k22_0 rfl) (dkN_sub k22_1 rfl) (dkN_sub d6 rfl) (show dkN [(1, 6)] (I10 25 11) from dkN_sub (by rw [hF10 25 11 rfl]; exact f5) rfl) (lv_sub hl [1, 2, 3, 0, 4] rfl)
  refine lv_aload_n hx hb dX3_dogsThatDecide_0 rfl (lv_at hl 0 rfl) ?_
  refine dk_get (k := 325) hx hb hts iX3_dogsThatDecide_3 hown hK (dk_at325 hW) rfl 0 (by decide) (hts (.fieldLink RX3 22 "DogKings$Seer" "now" "LDogKings$Town;") (List.mem_of_getElem? (i := 1) rfl)) rfl dX3_dogsThatDecide_1 ?_
  refine dk_get (k := 25) hx hb hts iX3_dogsThatDecide_4 hown hK (dk_at25 hW) rfl 11 (by decide) (hts (.fieldLink RX3 107 "DogKings$Town" "dogs" "I") (List.mem_of_getElem? (i := 2) rfl)) rfl dX3_dogsThatDecide_4 ?_
  refine lv_topi (fun v14 ev14 => ?_)
  have dv14 : dkN [(0, 6)] v14 := by rw [ev14]; exact (hO 25 11)
  refine dk_SiN (As := [.int v14]) (rest := []) ⟨hx, hb, hml, hown, hts⟩ (c_X5_setOfAll_2 l g z I0 v14 dv14 hO) ⟨va_cnB 1 hts gX3_dogsThatDecide_X5_setOfAll_n65 rfl rfl rfl (hK.2.1 (RX3, 65, yX5_setOfAll) (by decide)) (hts (.initialized RX5) (List.mem_of_getElem? (i := 4) rfl)) (by decide +kernel) ⟨Nat.le_of_ble_eq_true rfl, Nat.le_of_ble_eq_true rfl⟩, (hts (.static yX5_setOfAll) (List.mem_of_getElem? (i := 3) rfl)), trivial⟩ hK hT hW hS rfl hl.1 rfl (Nat.le_of_ble_eq_true rfl) dX3_dogsThatDecide_7 ⟨Nat.zero_le _, Nat.zero_le _⟩ (fun v15 I15 H15 L15 hp15 hW hS => ?_)
  obtain ⟨hF15, hO, hc15⟩ := hp15
  have hF := dkF_call hF hF15 rfl
  obtain ⟨dv15, -⟩ := hc15
  refine lv_istore_n (lv' := [(1, .int v15), (0, .ref (z + 325))]) hx hb dX3_dogsThatDecide_10 rfl hl (by decide) rfl (fun ls hl => ?_)
  refine lv_aload_n hx hb dX3_dogsThatDecide_11 rfl (lv_at hl 1 rfl) ?_
  refine lv_iload_n hx hb dX3_dogsThatDecide_12 rfl (lv_at hl 0 rfl) ?_
  refine dk_Vi (As := [.int v15]) (rest := []) ⟨hx, hb, hml, hown, hts⟩ (c_X3_kingBy_0 l g z I15 v15 hO) (cwV 1 hts gX3_dogsThatDecide_X3_kingBy rfl rfl rfl (by decide +kernel) ⟨Nat.le_of_ble_eq_true rfl, Nat.le_of_ble_eq_true rfl⟩) (dk_at325 hW) rfl hK hT hW hS rfl hl.1 rfl (Nat.le_of_ble_eq_true rfl) dX3_dogsThatDecide_13 ⟨Nat.zero_le _, Nat.zero_le _⟩ (fun v16 I16 H16 L16 hp16 hW hS => ?_)
  obtain ⟨hF16, hO, hc16⟩ := hp16
  have hF := dkF_call hF hF16 rfl
  obtain ⟨dv16, -⟩ := hc16
  refine lv_istore_n (lv' := [(2, .int v16), (1, .int v15), (0, .ref (z + 325))]) hx hb dX3_dogsThatDecide_16 rfl hl (by decide) rfl (fun ls hl => ?_)
  refine lv_iconst (v := 0) hx hb dX3_dogsThatDecide_17 (by decide) ?_
  refine lv_istore_n (lv' := [(3, .int 0), (2, .int v16), (1, .int v15), (0, .ref (z + 325))]) hx hb dX3_dogsThatDecide_18 rfl hl (by decide) rfl (fun ls hl => ?_)
  refine lv_iconst (v := 0) hx hb dX3_dogsThatDecide_19 (by decide) ?_
  refine lv_istore (lv' := [(4, .int 0), (3, .int 0), (2, .int v16), (1, .int v15), (0, .ref (z + 325))]) hx hb dX3_dogsThatDecide_20 hl (by decide) rfl (fun ls hl => ?_)
  exact C22 _ I16 _ _ ls v15 v16 0 0 (Nat.lt_succ_self _) hW hS hF hO (dkN_sub dv15 rfl) (dkN_sub dv16 rfl) (dkN_sub (dkN_lit (x := 0) (0) rfl) rfl) (lv_sub hl [4, 3, 2, 1, 0] rfl)
set_option maxHeartbeats 4000000 in
set_option maxRecDepth 100000 in
theorem c_X5_hangs_0 (l : Launch) (g : dkG) (z : Nat) (I0 : dkI)  (hO : dkOk I0) : Met l yX5_hangs wsX5_hangs (dkR 7) (dkPc g z [.ref (z + 0)] I0) (dkQi g z (fun r I1 => dkF [(326, 326, 0, 4), (326, 326, 11, 11), (326, 326, 15, 17), (327, 327, 0, 4), (328, 328, 0, 4), (329, 329, 0, 4), (330, 330, 0, 4), (331, 331, 0, 4), (332, 332, 0, 4), (333, 333, 0, 5), (334, 334, 0, 5), (335, 335, 0, 5), (336, 336, 0, 8)] I0 I1 ∧ dkOk I1 ∧ ((True ∧ True)))) 0 0 (dkA z) := by
  refine Met.ofW (cc := cX5_hangs) (maxL := 1) (ret := (some .int)) (by decide) rfl ?_
  intro p e s m args below meth c s₁ B hml hv
  obtain ⟨ha, hW, hK, hT⟩ := hv
  have hx := B.exec
  have hb := B.bytes
  have hr := B.returns
  have hts := atoms_spec (ws := wsX5_hangs) B.pre
  have hown : s.vm.findClass RX5 = some m.cls := findClass_of_methodNamed B.named
  have hlocks := B.notSynchronized
  have hS : va_S (dkA z) s.heap s.heap [] := va_S.rf
  have hF : dkF [(326, 326, 0, 4), (326, 326, 11, 11), (326, 326, 15, 17), (327, 327, 0, 4), (328, 328, 0, 4), (329, 329, 0, 4), (330, 330, 0, 4), (331, 331, 0, 4), (332, 332, 0, 4), (333, 333, 0, 5), (334, 334, 0, 5), (335, 335, 0, 5), (336, 336, 0, 8)] I0 I0 := dkF_rf _ _
  have hl := lv_entry ([.ref (z + 0)]) (n := 1) (Nat.le_of_ble_eq_true rfl)
  have hgo : entryFrame m args 1 = entryFrame m ([.ref (z + 0)] : List Value).toArray 1 := by rw [ha]
  rw [hgo, lg_entry_eq]
  generalize (lg_sl ([.ref (z + 0)]) ++ List.replicate (1 - (lg_sl ([.ref (z + 0)])).length) Slot.unset).toArray = ls at hl ⊢
  have hl : lv_has ls 1 [(0, .ref (z + 0))] := hl
  refine lv_aload_n hx hb dX5_hangs_0 rfl (lv_at hl 0 rfl) ?_
  refine dk_get (k := 0) hx hb hts iX5_hangs_5 hown hK (dk_at0 hW) rfl 5 (by decide) (hts (.fieldLink RX5 31 "DogKings" "now" "LDogKings$Town;") (List.mem_of_getElem? (i := 1) rfl)) rfl dX5_hangs_1 ?_
  refine dk_Vi (As := []) (rest := []) ⟨hx, hb, hml, hown, hts⟩ (c_X4_stands_0 l g z I0 (25) (by unfold dkT; omega) hO) (cwV 0 hts gX5_hangs_X4_stands rfl rfl rfl (by decide +kernel) ⟨Nat.le_of_ble_eq_true rfl, Nat.le_of_ble_eq_true rfl⟩) (dk_at25 hW) rfl hK hT hW hS rfl hl.1 rfl (Nat.le_of_ble_eq_true rfl) dX5_hangs_4 ⟨Nat.zero_le _, Nat.zero_le _⟩ (fun v1 I1 H1 L1 hp1 hW hS => ?_)
  obtain ⟨hF1, hO, hc1⟩ := hp1
  have hF := dkF_call hF hF1 rfl
  rcases hc1 with ⟨dv1, f1_25_0, -⟩ | hc1
  ·
    refine lv_if_eq (tgt := 20) hx hb dX5_hangs_7 (by decide) (fun c2 => ?_) (fun c2 => ?_)
    ·
      refine lv_ldc (v := (-1000002)) hx hb hown (hts (.constant RX5 129 (-1000002)) (List.mem_of_getElem? (i := 3) rfl)) dX5_hangs_20 ?_
      exact W.iret (v := (-1000002)) hx hb hr (fun t ht hW9 => ⟨⟨(-1000002), I1, rfl, ⟨hF, hO, ⟨trivial, trivial⟩⟩, dkW_eq ht hW⟩, hS.F ht⟩) hS.2.2 dX5_hangs_22
    ·
      exact (dkN_nil (show dkN [] v1 from dkN_ne1 (0) dv1 (dkN_lit (x := 0) (0) rfl) (dk_ne c2) rfl)).elim
  ·
    obtain ⟨dv1, f1_25_0, -⟩ := hc1
    refine lv_if_eq (tgt := 20) hx hb dX5_hangs_7 (by decide) (fun c3 => ?_) (fun c3 => ?_)
    ·
      exact (dkN_nil (show dkN [] v1 from dkN_eq1 dv1 (dkN_lit (x := 0) (0) rfl) (congrArg Int32.toInt c3) rfl)).elim
    ·
      refine lv_aload_n hx hb dX5_hangs_10 rfl (lv_at hl 0 rfl) ?_
      refine dk_get (k := 0) hx hb hts iX5_hangs_5 hown hK (dk_at0 hW) rfl 8 (by decide) (hts (.fieldLink RX5 51 "DogKings" "seer" "LDogKings$Seer;") (List.mem_of_getElem? (i := 2) rfl)) rfl dX5_hangs_11 ?_
      refine dk_Vi (As := []) (rest := []) ⟨hx, hb, hml, hown, hts⟩ (c_X3_dogsThatDecide_0 l g z I1 hO) (cwV 0 hts gX5_hangs_X3_dogsThatDecide rfl rfl rfl (by decide +kernel) ⟨Nat.le_of_ble_eq_true rfl, Nat.le_of_ble_eq_true rfl⟩) (dk_at325 hW) rfl hK hT hW hS rfl hl.1 rfl (Nat.le_of_ble_eq_true rfl) dX5_hangs_14 ⟨Nat.zero_le _, Nat.zero_le _⟩ (fun v4 I4 H4 L4 hp4 hW hS => ?_)
      obtain ⟨hF4, hO, hc4⟩ := hp4
      have hF := dkF_call hF hF4 rfl
      obtain ⟨_, -⟩ := hc4
      refine lv_goto (tgt := 22) hx hb dX5_hangs_17 (by decide) ?_
      exact W.iret (v := v4) hx hb hr (fun t ht hW9 => ⟨⟨v4, I4, rfl, ⟨hF, hO, ⟨trivial, trivial⟩⟩, dkW_eq ht hW⟩, hS.F ht⟩) hS.2.2 dX5_hangs_22
