set_option maxHeartbeats 4000000 in
set_option maxRecDepth 100000 in
theorem c_X6_cats_0 (l : Launch) (g : dkG) (z : Nat) (I0 : dkI) (p0 : Int32) (p1 : Int32)  (hO : dkOk I0) : Met l yX6_cats wsX6_cats (dkR 6) (dkPc g z [.ref (z + 340), .int p0, .int p1] I0) (dkQi g z (fun r I1 => dkF [(340, 340, 20, 22), (348, 348, 0, 53)] I0 I1 ∧ dkOk I1 ∧ ((True ∧ True)))) 0 0 (dkA z) := by
  refine Met.ofW (cc := cX6_cats) (maxL := 6) (ret := (some .int)) (by decide) rfl ?_
  intro p e s m args below meth c s₁ B hml hv
  obtain ⟨ha, hW, hK, hT⟩ := hv
  have hx := B.exec
  have hb := B.bytes
  have hr := B.returns
  have hts := atoms_spec (ws := wsX6_cats) B.pre
  have hown : s.vm.findClass RX6 = some m.cls := findClass_of_methodNamed B.named
  have hlocks := B.notSynchronized
  have hS : va_S (dkA z) s.heap s.heap [] := va_S.rf
  have hF : dkF [(340, 340, 20, 22), (348, 348, 0, 53)] I0 I0 := dkF_rf _ _
  have hl := lv_entry ([.ref (z + 340), .int p0, .int p1]) (n := 6) (Nat.le_of_ble_eq_true rfl)
  have hgo : entryFrame m args 6 = entryFrame m ([.ref (z + 340), .int p0, .int p1] : List Value).toArray 6 := by rw [ha]
  rw [hgo, lg_entry_eq]
  generalize (lg_sl ([.ref (z + 340), .int p0, .int p1]) ++ List.replicate (6 - (lg_sl ([.ref (z + 340), .int p0, .int p1])).length) Slot.unset).toArray = ls at hl ⊢
  have hl : lv_has ls 6 [(0, .ref (z + 340)), (1, .int p0), (2, .int p1)] := hl
  have C26 : ∀ (n : Nat), ∀ (I : dkI) (H : Heap) (locs : List Loc) (ls : Array Slot) (x26_3 : Int32) (x26_4 : Int32), (2147483647 - x26_4.toInt).toNat < n → dkW g z I H → va_S (dkA z) s.heap H locs → dkF [(340, 340, 20, 22), (348, 348, 0, 53)] I0 I → dkOk I → dkN [(-1000000, -1000000), (0, 2147483647)] x26_3 → dkN [(0, 2147483647)] x26_4 → dkN [(0, 8)] p0 → dkN [(0, 1)] p1 → lv_has ls 6 [(0, .ref (z + 340)), (1, .int p0), (2, .int p1), (3, .int x26_3), (4, .int x26_4)] → W p l e (headSpec wsX6_cats (dkR 6)).room s m args below meth c H locs 0 0 (MQ below (dkQi g z (fun r I1 => dkF [(340, 340, 20, 22), (348, 348, 0, 53)] I0 I1 ∧ dkOk I1 ∧ ((True ∧ True)))) args s 0 0 (dkA z)) (F0 m 26 ls []) := by
    intro n
    induction n with
    | zero => intro I H locs ls x26_3 x26_4 hn; exact absurd hn (Nat.not_lt_zero _)
    | succ n ih26 =>
      intro I26_ H locs ls x26_3 x26_4 hn26 hW hS hF_26 hO k26_0 k26_1 r26_0 r26_1 hl
      have hF := hF_26
      have C113 : ∀ (I : dkI) (H : Heap) (locs : List Loc) (ls : Array Slot) (x113_3 : Int32) (x113_5 : Int32), dkW g z I H → va_S (dkA z) s.heap H locs → dkF [(340, 340, 20, 22), (348, 348, 0, 53)] I0 I → dkOk I → dkN [(-1000000, -1000000), (0, 2147483647)] x113_3 → dkN [(0, 1)] x113_5 → dkN [(0, 8)] p0 → dkN [(0, 1)] p1 → dkN [(0, 511)] x26_4 → lv_has ls 6 [(0, .ref (z + 340)), (1, .int p0), (2, .int p1), (3, .int x113_3), (4, .int x26_4), (5, .int x113_5)] → W p l e (headSpec wsX6_cats (dkR 6)).room s m args below meth c H locs 0 0 (MQ below (dkQi g z (fun r I1 => dkF [(340, 340, 20, 22), (348, 348, 0, 53)] I0 I1 ∧ dkOk I1 ∧ ((True ∧ True)))) args s 0 0 (dkA z)) (F0 m 113 ls []) := by
        intro I113_ H locs ls x113_3 x113_5 hW hS hF_113 hO k113_0 k113_1 r113_0 r113_1 r113_2 hl
        have hF := hF_113
        obtain ⟨v1, ev1⟩ : ∃ y : Int32, y = x26_4 + 1 := ⟨_, rfl⟩
        have dv1 : dkN [(1, 512)] v1 := by rw [ev1]; exact dkN_add r113_2 (dkN_lit (x := 1) (1) rfl) rfl
        refine lv_iinc (v := v1) (lv' := [(4, .int v1), (0, .ref (z + 340)), (1, .int p0), (2, .int p1), (3, .int x113_3), (5, .int x113_5)]) hx hb dX6_cats_113 hl (k := 4) rfl (by rw [ev1]; rfl) (by decide) rfl (fun ls hl => ?_)
        refine lv_goto (tgt := 26) hx hb dX6_cats_116 (by decide) ?_
        exact ih26 I113_ _ _ ls x113_3 v1 (dk_near hn26 (by rw [ev1]; exact dk_inc r113_2 rfl) (dkN_lt r113_2 rfl)) hW hS hF hO (dkN_sub k113_0 rfl) (dkN_sub dv1 rfl) (dkN_sub r113_0 rfl) (dkN_sub r113_1 rfl) (lv_sub hl [1, 2, 3, 4, 0] rfl)
      have C112 : ∀ (I : dkI) (H : Heap) (locs : List Loc) (ls : Array Slot) (x112_5 : Int32) (x112_s0 : Int32), dkW g z I H → va_S (dkA z) s.heap H locs → dkF [(340, 340, 20, 22), (348, 348, 0, 53)] I0 I → dkOk I → dkN [(1, 1)] x112_5 → dkN [(-1000000, -1000000), (0, 2147483647)] x112_s0 → dkN [(0, 8)] p0 → dkN [(0, 1)] p1 → dkN [(-1000000, -1000000), (0, 2147483647)] x26_3 → dkN [(0, 511)] x26_4 → dkN [(0, 0)] (I 340 20) → dkN [(0, 0)] (I 340 21) → dkN [(0, 2147483647)] (I 348 3) → lv_has ls 6 [(0, .ref (z + 340)), (1, .int p0), (2, .int p1), (3, .int x26_3), (4, .int x26_4), (5, .int x112_5)] → W p l e (headSpec wsX6_cats (dkR 6)).room s m args below meth c H locs 0 0 (MQ below (dkQi g z (fun r I1 => dkF [(340, 340, 20, 22), (348, 348, 0, 53)] I0 I1 ∧ dkOk I1 ∧ ((True ∧ True)))) args s 0 0 (dkA z)) (F0 m 112 ls [.int x112_s0]) := by
        intro I112_ H locs ls x112_5 x112_s0 hW hS hF_112 hO k112_0 k112_1 r112_0 r112_1 r112_2 r112_3 f112_0 f112_1 f112_2 hl
        have hF := hF_112
        refine lv_istore_n (lv' := [(3, .int x112_s0), (0, .ref (z + 340)), (1, .int p0), (2, .int p1), (4, .int x26_4), (5, .int x112_5)]) hx hb dX6_cats_112 rfl hl (by decide) rfl (fun ls hl => ?_)
        exact C113 I112_ _ _ ls x112_s0 x112_5 hW hS hF hO (dkN_sub k112_1 rfl) (dkN_sub k112_0 rfl) (dkN_sub r112_0 rfl) (dkN_sub r112_1 rfl) (dkN_sub r112_3 rfl) (lv_sub hl [1, 2, 3, 0, 4, 5] rfl)
      have C71 : ∀ (I : dkI) (H : Heap) (locs : List Loc) (ls : Array Slot) (x71_s0 : Int32), dkW g z I H → va_S (dkA z) s.heap H locs → dkF [(340, 340, 20, 22), (348, 348, 0, 53)] I0 I → dkOk I → dkN [(0, 1)] x71_s0 → dkN [(0, 8)] p0 → dkN [(0, 1)] p1 → dkN [(-1000000, -1000000), (0, 2147483647)] x26_3 → dkN [(0, 511)] x26_4 → lv_has ls 6 [(0, .ref (z + 340)), (1, .int p0), (2, .int p1), (3, .int x26_3), (4, .int x26_4)] → W p l e (headSpec wsX6_cats (dkR 6)).room s m args below meth c H locs 0 0 (MQ below (dkQi g z (fun r I1 => dkF [(340, 340, 20, 22), (348, 348, 0, 53)] I0 I1 ∧ dkOk I1 ∧ ((True ∧ True)))) args s 0 0 (dkA z)) (F0 m 71 ls [.int x71_s0]) := by
        intro I71_ H locs ls x71_s0 hW hS hF_71 hO k71_0 r71_0 r71_1 r71_2 r71_3 hl
        have hF := hF_71
        refine lv_istore (lv' := [(5, .int x71_s0), (0, .ref (z + 340)), (1, .int p0), (2, .int p1), (3, .int x26_3), (4, .int x26_4)]) hx hb dX6_cats_71 hl (by decide) rfl (fun ls hl => ?_)
        refine lv_iload hx hb dX6_cats_73 (lv_at hl 0 rfl) ?_
        refine lv_if_eq (tgt := 113) hx hb dX6_cats_75 (by decide) (fun c2 => ?_) (fun c2 => ?_)
        ·
          have d3 : dkN [(0, 0)] x71_s0 := dkN_eq1 k71_0 (dkN_lit (x := 0) (0) rfl) (congrArg Int32.toInt c2) rfl
          exact C113 I71_ _ _ ls x26_3 x71_s0 hW hS hF hO (dkN_sub r71_2 rfl) (dkN_sub d3 rfl) (dkN_sub r71_0 rfl) (dkN_sub r71_1 rfl) (dkN_sub r71_3 rfl) (lv_sub hl [1, 2, 3, 4, 5, 0] rfl)
        ·
          have d4 : dkN [(1, 1)] x71_s0 := dkN_ne1 (0) k71_0 (dkN_lit (x := 0) (0) rfl) (dk_ne c2) rfl
          refine lv_aload_n hx hb dX6_cats_78 rfl (lv_at hl 1 rfl) ?_
          refine dk_Vv (As := []) (rest := []) ⟨hx, hb, hml, hown, hts⟩ (c_X6_tries_0 l g z I71_ hO) (cwV 0 hts gX6_cats_X6_tries rfl rfl rfl (by decide +kernel) ⟨Nat.le_of_ble_eq_true rfl, Nat.le_of_ble_eq_true rfl⟩) (dk_at340 hW) rfl hK hT hW hS rfl hl.1 rfl (Nat.le_of_ble_eq_true rfl) dX6_cats_79 ⟨Nat.zero_le _, Nat.zero_le _⟩ (fun I5 H5 L5 hp5 hW hS => ?_)
          obtain ⟨hF5, hO, hc5⟩ := hp5
          have hF := dkF_call hF hF5 rfl
          obtain ⟨f5_340_20, f5_340_21, f5_340_22, -⟩ := hc5
          refine lv_aload_n hx hb dX6_cats_82 rfl (lv_at hl 1 rfl) ?_
          refine lv_iload hx hb dX6_cats_83 (lv_at hl 5 rfl) ?_
          refine dk_put (k := 340) hx hb hts iX6_cats_6 tyX6 tyX6_ok nmX6 hown hK hW (dk_at340 hW) hS rfl 22 (by decide) (hts (.fieldLink RX6 215 "DogKingsModel" "cats" "I") (List.mem_of_getElem? (i := 4) rfl)) rfl rfl (Nat.le_of_ble_eq_true rfl) rfl dX6_cats_85 (fun I6 H6 L6 eI6 hW hS => ?_)
          have eI6 : I6 = dkU I5 340 22 x26_4 := eI6
          have hO := dkO_set hO eI6 (dkN_sub r71_3 rfl)
          have hF := dkF_set hF eI6 rfl
          refine lv_aload_n hx hb dX6_cats_88 rfl (lv_at hl 1 rfl) ?_
          refine dk_Vv (As := []) (rest := []) ⟨hx, hb, hml, hown, hts⟩ (c_X6_toBell_0 l g z I6 hO) (cwV 0 hts gX6_cats_X6_toBell rfl rfl rfl (by decide +kernel) ⟨Nat.le_of_ble_eq_true rfl, Nat.le_of_ble_eq_true rfl⟩) (dk_at340 hW) rfl hK hT hW hS rfl hl.1 rfl (Nat.le_of_ble_eq_true rfl) dX6_cats_89 ⟨Nat.zero_le _, Nat.zero_le _⟩ (fun I7 H7 L7 hp7 hW hS => ?_)
          obtain ⟨hF7, hO, hc7⟩ := hp7
          have hF := dkF_call hF hF7 rfl
          obtain ⟨f7_348_3, -⟩ := hc7
          refine lv_aload_n hx hb dX6_cats_92 rfl (lv_at hl 1 rfl) ?_
          refine dk_get (k := 340) hx hb hts iX6_cats_6 hown hK (dk_at340 hW) rfl 15 (by decide) (hts (.fieldLink RX6 31 "DogKingsModel" "tried" "[I") (List.mem_of_getElem? (i := 5) rfl)) rfl dX6_cats_93 ?_
          refine lv_iload_n hx hb dX6_cats_96 rfl (lv_at hl 2 rfl) ?_
          refine lv_ldc (v := (-1000000)) hx hb hown (hts (.constant RX6 50 (-1000000)) (List.mem_of_getElem? (i := 2) rfl)) dX6_cats_97 ?_
          refine lv_iconst (v := 0) hx hb dX6_cats_99 (by decide) ?_
          refine dk_Si (As := [.ref (z + 348), .int p0, .int ((-1000000)), .int 0]) (rest := []) ⟨hx, hb, hml, hown, hts⟩ (c_X6_othersIn_1 l g z I7 p0 ((-1000000)) 0 (dkN_sub (dkN_lit (x := (-1000000)) (-1000000) rfl) rfl) hO) (va_cwS 4 hts gX6_cats_X6_othersIn rfl rfl rfl (by decide +kernel) ⟨Nat.le_of_ble_eq_true rfl, Nat.le_of_ble_eq_true rfl⟩) hK hT hW hS rfl hl.1 rfl (Nat.le_of_ble_eq_true rfl) dX6_cats_100 ⟨Nat.zero_le _, Nat.zero_le _⟩ (fun v8 I8 H8 L8 hp8 hW hS => ?_)
          obtain ⟨hF8, hO, hc8⟩ := hp8
          have hF := dkF_call hF hF8 rfl
          obtain ⟨_, -⟩ := hc8
          refine lv_if_ne (tgt := 111) hx hb dX6_cats_103 (by decide) (fun c9 => ?_) (fun c9 => ?_)
          ·
            have d10 : dkN [(-2147483648, -1), (1, 2147483647)] v8 := dkN_ne1 (0) (dkN_top v8) (dkN_lit (x := 0) (0) rfl) (dk_ne c9) rfl
            refine lv_iload_n hx hb dX6_cats_111 rfl (lv_at hl 4 rfl) ?_
            exact C112 I8 _ _ ls x71_s0 x26_3 hW hS hF hO (dkN_sub d4 rfl) (dkN_sub r71_2 rfl) (dkN_sub r71_0 rfl) (dkN_sub r71_1 rfl) (dkN_sub r71_2 rfl) (dkN_sub r71_3 rfl) (show dkN [(0, 0)] (I8 340 20) from dkN_sub (by rw [hF8 340 20 rfl]; exact (by rw [hF7 340 20 rfl]; exact (by rw [eI6, dkU_sn (by decide)]; exact f5_340_20))) rfl) (show dkN [(0, 0)] (I8 340 21) from dkN_sub (by rw [hF8 340 21 rfl]; exact (by rw [hF7 340 21 rfl]; exact (by rw [eI6, dkU_sn (by decide)]; exact f5_340_21))) rfl) (show dkN [(0, 2147483647)] (I8 348 3) from dkN_sub (by rw [hF8 348 3 rfl]; exact f7_348_3) rfl) (lv_sub hl [1, 2, 3, 4, 5, 0] rfl)
          ·
            have d11 : dkN [(0, 0)] v8 := dkN_eq1 (dkN_top v8) (dkN_lit (x := 0) (0) rfl) (congrArg Int32.toInt c9) rfl
            refine lv_iload hx hb dX6_cats_106 (lv_at hl 5 rfl) ?_
            refine lv_goto (tgt := 112) hx hb dX6_cats_108 (by decide) ?_
            exact C112 I8 _ _ ls x71_s0 x26_4 hW hS hF hO (dkN_sub d4 rfl) (dkN_sub r71_3 rfl) (dkN_sub r71_0 rfl) (dkN_sub r71_1 rfl) (dkN_sub r71_2 rfl) (dkN_sub r71_3 rfl) (show dkN [(0, 0)] (I8 340 20) from dkN_sub (by rw [hF8 340 20 rfl]; exact (by rw [hF7 340 20 rfl]; exact (by rw [eI6, dkU_sn (by decide)]; exact f5_340_20))) rfl) (show dkN [(0, 0)] (I8 340 21) from dkN_sub (by rw [hF8 340 21 rfl]; exact (by rw [hF7 340 21 rfl]; exact (by rw [eI6, dkU_sn (by decide)]; exact f5_340_21))) rfl) (show dkN [(0, 2147483647)] (I8 348 3) from dkN_sub (by rw [hF8 348 3 rfl]; exact f7_348_3) rfl) (lv_sub hl [1, 2, 3, 4, 5, 0] rfl)
      have C70 : ∀ (I : dkI) (H : Heap) (locs : List Loc) (ls : Array Slot), dkW g z I H → va_S (dkA z) s.heap H locs → dkF [(340, 340, 20, 22), (348, 348, 0, 53)] I0 I → dkOk I → dkN [(0, 8)] p0 → dkN [(0, 1)] p1 → dkN [(-1000000, -1000000), (0, 2147483647)] x26_3 → dkN [(0, 511)] x26_4 → lv_has ls 6 [(0, .ref (z + 340)), (1, .int p0), (2, .int p1), (3, .int x26_3), (4, .int x26_4)] → W p l e (headSpec wsX6_cats (dkR 6)).room s m args below meth c H locs 0 0 (MQ below (dkQi g z (fun r I1 => dkF [(340, 340, 20, 22), (348, 348, 0, 53)] I0 I1 ∧ dkOk I1 ∧ ((True ∧ True)))) args s 0 0 (dkA z)) (F0 m 70 ls []) := by
        intro I70_ H locs ls hW hS hF_70 hO r70_0 r70_1 r70_2 r70_3 hl
        have hF := hF_70
        refine lv_iconst (v := 0) hx hb dX6_cats_70 (by decide) ?_
        exact C71 I70_ _ _ ls 0 hW hS hF hO (dkN_sub (dkN_lit (x := 0) (0) rfl) rfl) (dkN_sub r70_0 rfl) (dkN_sub r70_1 rfl) (dkN_sub r70_2 rfl) (dkN_sub r70_3 rfl) (lv_sub hl [0, 1, 2, 3, 4] rfl)
      have C66 : ∀ (I : dkI) (H : Heap) (locs : List Loc) (ls : Array Slot), dkW g z I H → va_S (dkA z) s.heap H locs → dkF [(340, 340, 20, 22), (348, 348, 0, 53)] I0 I → dkOk I → dkN [(0, 8)] p0 → dkN [(0, 1)] p1 → dkN [(-1000000, -1000000), (0, 2147483647)] x26_3 → dkN [(0, 511)] x26_4 → lv_has ls 6 [(0, .ref (z + 340)), (1, .int p0), (2, .int p1), (3, .int x26_3), (4, .int x26_4)] → W p l e (headSpec wsX6_cats (dkR 6)).room s m args below meth c H locs 0 0 (MQ below (dkQi g z (fun r I1 => dkF [(340, 340, 20, 22), (348, 348, 0, 53)] I0 I1 ∧ dkOk I1 ∧ ((True ∧ True)))) args s 0 0 (dkA z)) (F0 m 66 ls []) := by
        intro I66_ H locs ls hW hS hF_66 hO r66_0 r66_1 r66_2 r66_3 hl
        have hF := hF_66
        refine lv_iconst (v := 1) hx hb dX6_cats_66 (by decide) ?_
        refine lv_goto (tgt := 71) hx hb dX6_cats_67 (by decide) ?_
        exact C71 I66_ _ _ ls 1 hW hS hF hO (dkN_sub (dkN_lit (x := 1) (1) rfl) rfl) (dkN_sub r66_0 rfl) (dkN_sub r66_1 rfl) (dkN_sub r66_2 rfl) (dkN_sub r66_3 rfl) (lv_sub hl [0, 1, 2, 3, 4] rfl)
      refine lv_iload hx hb dX6_cats_26 (lv_at hl 4 rfl) ?_
      refine lv_iconst (v := 1) hx hb dX6_cats_28 (by decide) ?_
      refine lv_aload_n hx hb dX6_cats_29 rfl (lv_at hl 0 rfl) ?_
      refine dk_get (k := 340) hx hb hts iX6_cats_6 hown hK (dk_at340 hW) rfl 13 (by decide) (hts (.fieldLink RX6 25 "DogKingsModel" "now" "[I") (List.mem_of_getElem? (i := 3) rfl)) rfl dX6_cats_30 ?_
      refine lv_iconst (v := 0) hx hb dX6_cats_33 (by decide) ?_
      refine dk_ild (k := 346) hx hb hK (dk_at346 hW) (dkN_in (n := 54) (dkN_lit (x := 0) (0) rfl) rfl) dX6_cats_34 ?_
      refine lv_topi (fun v12 ev12 => ?_)
      have ev12 : v12 = I26_ 346 0 := ev12
      have dv12 : dkN [(0, 9)] v12 := by rw [ev12]; exact (show dkN [(0, 9)] (I26_ 346 0) from (hO 346 0))
      refine lv_ishl hx hb dX6_cats_35 ?_
      refine lv_topi (fun v13 ev13 => ?_)
      have dv13 : dkN [(1, 512)] v13 := by rw [ev13]; exact dkN_shl1 0 9 (by decide) dv12 rfl
      refine lv_icmp_ge (tgt := 119) hx hb dX6_cats_36 (by decide) (fun c14 => ?_) (fun c14 => ?_)
      ·
        have d15 : dkN [(1, 2147483647)] x26_4 := dkN_le2 0 dv13 k26_1 (dkc_le c14) rfl
        refine lv_iload_n hx hb dX6_cats_119 rfl (lv_at hl 3 rfl) ?_
        refine lv_ldc (v := (-1000000)) hx hb hown (hts (.constant RX6 50 (-1000000)) (List.mem_of_getElem? (i := 2) rfl)) dX6_cats_120 ?_
        refine lv_icmp_eq (tgt := 130) hx hb dX6_cats_122 (by decide) (fun c16 => ?_) (fun c16 => ?_)
        ·
          have d17 : dkN [(-1000000, -1000000)] x26_3 := dkN_eq1 k26_0 (dkN_lit (x := (-1000000)) (-1000000) rfl) (congrArg Int32.toInt c16) rfl
          refine lv_iload_n hx hb dX6_cats_130 rfl (lv_at hl 3 rfl) ?_
          refine lv_goto (tgt := 138) hx hb dX6_cats_131 (by decide) ?_
          exact W.iret (v := x26_3) hx hb hr (fun t ht hW9 => ⟨⟨x26_3, I26_, rfl, ⟨hF, hO, ⟨trivial, trivial⟩⟩, dkW_eq ht hW⟩, hS.F ht⟩) hS.2.2 dX6_cats_138
        ·
          have d18 : dkN [(0, 2147483647)] x26_3 := dkN_ne1 (-1000000) k26_0 (dkN_lit (x := (-1000000)) (-1000000) rfl) (dk_ne c16) rfl
          refine lv_iload_n hx hb dX6_cats_125 rfl (lv_at hl 2 rfl) ?_
          refine lv_iconst (v := 1) hx hb dX6_cats_126 (by decide) ?_
          refine lv_icmp_ne (tgt := 134) hx hb dX6_cats_127 (by decide) (fun c19 => ?_) (fun c19 => ?_)
          ·
            have d20 : dkN [(0, 0)] p1 := dkN_ne1 (1) r26_1 (dkN_lit (x := 1) (1) rfl) (dk_ne c19) rfl
            refine lv_iload_n hx hb dX6_cats_134 rfl (lv_at hl 3 rfl) ?_
            refine dk_Si (As := [.int x26_3]) (rest := []) ⟨hx, hb, hml, hown, hts⟩ (c_X6_ones_20 l g z I26_ x26_3 d18 hO) (va_cwS 1 hts gX6_cats_X6_ones rfl rfl rfl (by decide +kernel) ⟨Nat.le_of_ble_eq_true rfl, Nat.le_of_ble_eq_true rfl⟩) hK hT hW hS rfl hl.1 rfl (Nat.le_of_ble_eq_true rfl) dX6_cats_135 ⟨Nat.zero_le _, Nat.zero_le _⟩ (fun v21 I21 H21 L21 hp21 hW hS => ?_)
            obtain ⟨hF21, hO, hc21⟩ := hp21
            have hF := dkF_call hF hF21 rfl
            obtain ⟨_, -⟩ := hc21
            exact W.iret (v := v21) hx hb hr (fun t ht hW9 => ⟨⟨v21, I21, rfl, ⟨hF, hO, ⟨trivial, trivial⟩⟩, dkW_eq ht hW⟩, hS.F ht⟩) hS.2.2 dX6_cats_138
          ·
            have d22 : dkN [(1, 1)] p1 := dkN_eq1 r26_1 (dkN_lit (x := 1) (1) rfl) (congrArg Int32.toInt c19) rfl
            refine lv_iload_n hx hb dX6_cats_130 rfl (lv_at hl 3 rfl) ?_
            refine lv_goto (tgt := 138) hx hb dX6_cats_131 (by decide) ?_
            exact W.iret (v := x26_3) hx hb hr (fun t ht hW9 => ⟨⟨x26_3, I26_, rfl, ⟨hF, hO, ⟨trivial, trivial⟩⟩, dkW_eq ht hW⟩, hS.F ht⟩) hS.2.2 dX6_cats_138
      ·
        have d23 : dkN [(0, 511)] x26_4 := dkN_le1 1 k26_1 dv13 (dkc_nle c14) rfl
        refine lv_iload hx hb dX6_cats_39 (lv_at hl 4 rfl) ?_
        refine lv_iload_n hx hb dX6_cats_41 rfl (lv_at hl 1 rfl) ?_
        refine dk_Si (As := [.int x26_4, .int p0]) (rest := []) ⟨hx, hb, hml, hown, hts⟩ (c_X6_has_0 l g z I26_ x26_4 p0 hO) (va_cwS 2 hts gX6_cats_X6_has rfl rfl rfl (by decide +kernel) ⟨Nat.le_of_ble_eq_true rfl, Nat.le_of_ble_eq_true rfl⟩) hK hT hW hS rfl hl.1 rfl (Nat.le_of_ble_eq_true rfl) dX6_cats_42 ⟨Nat.zero_le _, Nat.zero_le _⟩ (fun v24 I24 H24 L24 hp24 hW hS => ?_)
        obtain ⟨hF24, hO, hc24⟩ := hp24
        have hF := dkF_call hF hF24 rfl
        obtain ⟨dv24, -⟩ := hc24
        refine lv_if_ne (tgt := 70) hx hb dX6_cats_45 (by decide) (fun c25 => ?_) (fun c25 => ?_)
        ·
          have d26 : dkN [(1, 1)] v24 := dkN_ne1 (0) dv24 (dkN_lit (x := 0) (0) rfl) (dk_ne c25) rfl
          exact C70 I24 _ _ ls  hW hS hF hO (dkN_sub r26_0 rfl) (dkN_sub r26_1 rfl) (dkN_sub k26_0 rfl) (dkN_sub d23 rfl) (lv_sub hl [0, 1, 2, 3, 4] rfl)
        ·
          have d27 : dkN [(0, 0)] v24 := dkN_eq1 dv24 (dkN_lit (x := 0) (0) rfl) (congrArg Int32.toInt c25) rfl
          refine lv_iload_n hx hb dX6_cats_48 rfl (lv_at hl 3 rfl) ?_
          refine lv_ldc (v := (-1000000)) hx hb hown (hts (.constant RX6 50 (-1000000)) (List.mem_of_getElem? (i := 2) rfl)) dX6_cats_49 ?_
          refine lv_icmp_eq (tgt := 66) hx hb dX6_cats_51 (by decide) (fun c28 => ?_) (fun c28 => ?_)
          ·
            have d29 : dkN [(-1000000, -1000000)] x26_3 := dkN_eq1 k26_0 (dkN_lit (x := (-1000000)) (-1000000) rfl) (congrArg Int32.toInt c28) rfl
            exact C66 I24 _ _ ls  hW hS hF hO (dkN_sub r26_0 rfl) (dkN_sub r26_1 rfl) (dkN_sub d29 rfl) (dkN_sub d23 rfl) (lv_sub hl [0, 1, 2, 3, 4] rfl)
          ·
            have d30 : dkN [(0, 2147483647)] x26_3 := dkN_ne1 (-1000000) k26_0 (dkN_lit (x := (-1000000)) (-1000000) rfl) (dk_ne c28) rfl
            refine lv_iload hx hb dX6_cats_54 (lv_at hl 4 rfl) ?_
            refine dk_Si (As := [.int x26_4]) (rest := []) ⟨hx, hb, hml, hown, hts⟩ (c_X6_ones_19 l g z I24 x26_4 d23 hO) (va_cwS 1 hts gX6_cats_X6_ones rfl rfl rfl (by decide +kernel) ⟨Nat.le_of_ble_eq_true rfl, Nat.le_of_ble_eq_true rfl⟩) hK hT hW hS rfl hl.1 rfl (Nat.le_of_ble_eq_true rfl) dX6_cats_56 ⟨Nat.zero_le _, Nat.zero_le _⟩ (fun v31 I31 H31 L31 hp31 hW hS => ?_)
            obtain ⟨hF31, hO, hc31⟩ := hp31
            have hF := dkF_call hF hF31 rfl
            obtain ⟨_, -⟩ := hc31
            refine lv_iload_n hx hb dX6_cats_59 rfl (lv_at hl 3 rfl) ?_
            refine dk_Si (As := [.int x26_3]) (rest := [.int v31]) ⟨hx, hb, hml, hown, hts⟩ (c_X6_ones_20 l g z I31 x26_3 d30 hO) (va_cwS 1 hts gX6_cats_X6_ones rfl rfl rfl (by decide +kernel) ⟨Nat.le_of_ble_eq_true rfl, Nat.le_of_ble_eq_true rfl⟩) hK hT hW hS rfl hl.1 rfl (Nat.le_of_ble_eq_true rfl) dX6_cats_60 ⟨Nat.zero_le _, Nat.zero_le _⟩ (fun v32 I32 H32 L32 hp32 hW hS => ?_)
            obtain ⟨hF32, hO, hc32⟩ := hp32
            have hF := dkF_call hF hF32 rfl
            obtain ⟨_, -⟩ := hc32
            refine lv_icmp_ge (tgt := 70) hx hb dX6_cats_63 (by decide) (fun c33 => ?_) (fun c33 => ?_)
            ·
              exact C70 I32 _ _ ls  hW hS hF hO (dkN_sub r26_0 rfl) (dkN_sub r26_1 rfl) (dkN_sub d30 rfl) (dkN_sub d23 rfl) (lv_sub hl [0, 1, 2, 3, 4] rfl)
            ·
              have d34 : dkN [(-2147483647, 2147483647)] v32 := dkN_le2 1 (dkN_top v31) (dkN_top v32) (dkc_nle c33) rfl
              have d35 : dkN [(-2147483648, 2147483646)] v31 := dkN_le1 1 (dkN_top v31) (dkN_top v32) (dkc_nle c33) rfl
              exact C66 I32 _ _ ls  hW hS hF hO (dkN_sub r26_0 rfl) (dkN_sub r26_1 rfl) (dkN_sub d30 rfl) (dkN_sub d23 rfl) (lv_sub hl [0, 1, 2, 3, 4] rfl)
  refine lv_aload_n hx hb dX6_cats_0 rfl (lv_at hl 0 rfl) ?_
  refine lv_iload_n hx hb dX6_cats_1 rfl (lv_at hl 1 rfl) ?_
  refine dk_Vi (As := [.int p0]) (rest := []) ⟨hx, hb, hml, hown, hts⟩ (c_X6_isStreet_0 l g z I0 p0 hO) (cwV 1 hts gX6_cats_X6_isStreet rfl rfl rfl (by decide +kernel) ⟨Nat.le_of_ble_eq_true rfl, Nat.le_of_ble_eq_true rfl⟩) (dk_at340 hW) rfl hK hT hW hS rfl hl.1 rfl (Nat.le_of_ble_eq_true rfl) dX6_cats_2 ⟨Nat.zero_le _, Nat.zero_le _⟩ (fun v36 I36 H36 L36 hp36 hW hS => ?_)
  obtain ⟨hF36, hO, hc36⟩ := hp36
  have hF := dkF_call hF hF36 rfl
  rcases hc36 with ⟨dv36, -⟩ | hc36
  ·
    refine lv_if_eq (tgt := 17) hx hb dX6_cats_5 (by decide) (fun c37 => ?_) (fun c37 => ?_)
    ·
      refine lv_ldc (v := (-1000001)) hx hb hown (hts (.constant RX6 64 (-1000001)) (List.mem_of_getElem? (i := 1) rfl)) dX6_cats_17 ?_
      exact W.iret (v := (-1000001)) hx hb hr (fun t ht hW9 => ⟨⟨(-1000001), I36, rfl, ⟨hF, hO, ⟨trivial, trivial⟩⟩, dkW_eq ht hW⟩, hS.F ht⟩) hS.2.2 dX6_cats_19
    ·
      exact (dkN_nil (show dkN [] v36 from dkN_ne1 (0) dv36 (dkN_lit (x := 0) (0) rfl) (dk_ne c37) rfl)).elim
  ·
    obtain ⟨dv36, a36_0, -⟩ := hc36
    have d38 : dkN [(0, 8)] p0 := dkN_eq1 (dkN_top p0) a36_0 rfl rfl
    refine lv_if_eq (tgt := 17) hx hb dX6_cats_5 (by decide) (fun c39 => ?_) (fun c39 => ?_)
    ·
      exact (dkN_nil (show dkN [] v36 from dkN_eq1 dv36 (dkN_lit (x := 0) (0) rfl) (congrArg Int32.toInt c39) rfl)).elim
    ·
      refine lv_iload_n hx hb dX6_cats_8 rfl (lv_at hl 2 rfl) ?_
      refine lv_iconst (v := 0) hx hb dX6_cats_9 (by decide) ?_
      refine lv_iconst (v := 1) hx hb dX6_cats_10 (by decide) ?_
      refine dk_Si (As := [.int p1, .int 0, .int 1]) (rest := []) ⟨hx, hb, hml, hown, hts⟩ (c_X6_in_16 l g z I36 p1 0 1 (dkN_lit (x := 0) (0) rfl) (dkN_lit (x := 1) (1) rfl) hO) (va_cwS 3 hts gX6_cats_X6_in rfl rfl rfl (by decide +kernel) ⟨Nat.le_of_ble_eq_true rfl, Nat.le_of_ble_eq_true rfl⟩) hK hT hW hS rfl hl.1 rfl (Nat.le_of_ble_eq_true rfl) dX6_cats_11 ⟨Nat.zero_le _, Nat.zero_le _⟩ (fun v40 I40 H40 L40 hp40 hW hS => ?_)
      obtain ⟨hF40, hO, hc40⟩ := hp40
      have hF := dkF_call hF hF40 rfl
      rcases hc40 with ⟨dv40, a40_0, -⟩ | hc40
      ·
        have d41 : dkN [(-2147483648, -1), (2, 2147483647)] p1 := dkN_eq1 (dkN_top p1) a40_0 rfl rfl
        refine lv_if_ne (tgt := 20) hx hb dX6_cats_14 (by decide) (fun c42 => ?_) (fun c42 => ?_)
        ·
          exact (dkN_nil (show dkN [] v40 from dkN_ne1 (0) dv40 (dkN_lit (x := 0) (0) rfl) (dk_ne c42) rfl)).elim
        ·
          refine lv_ldc (v := (-1000001)) hx hb hown (hts (.constant RX6 64 (-1000001)) (List.mem_of_getElem? (i := 1) rfl)) dX6_cats_17 ?_
          exact W.iret (v := (-1000001)) hx hb hr (fun t ht hW9 => ⟨⟨(-1000001), I40, rfl, ⟨hF, hO, ⟨trivial, trivial⟩⟩, dkW_eq ht hW⟩, hS.F ht⟩) hS.2.2 dX6_cats_19
      ·
        obtain ⟨dv40, a40_0, -⟩ := hc40
        have d43 : dkN [(0, 1)] p1 := dkN_eq1 (dkN_top p1) a40_0 rfl rfl
        refine lv_if_ne (tgt := 20) hx hb dX6_cats_14 (by decide) (fun c44 => ?_) (fun c44 => ?_)
        ·
          refine lv_ldc (v := (-1000000)) hx hb hown (hts (.constant RX6 50 (-1000000)) (List.mem_of_getElem? (i := 2) rfl)) dX6_cats_20 ?_
          refine lv_istore_n (lv' := [(3, .int ((-1000000))), (0, .ref (z + 340)), (1, .int p0), (2, .int p1)]) hx hb dX6_cats_22 rfl hl (by decide) rfl (fun ls hl => ?_)
          refine lv_iconst (v := 0) hx hb dX6_cats_23 (by decide) ?_
          refine lv_istore (lv' := [(4, .int 0), (3, .int ((-1000000))), (0, .ref (z + 340)), (1, .int p0), (2, .int p1)]) hx hb dX6_cats_24 hl (by decide) rfl (fun ls hl => ?_)
          exact C26 _ I40 _ _ ls ((-1000000)) 0 (Nat.lt_succ_self _) hW hS hF hO (dkN_sub (dkN_lit (x := (-1000000)) (-1000000) rfl) rfl) (dkN_sub (dkN_lit (x := 0) (0) rfl) rfl) (dkN_sub d38 rfl) (dkN_sub d43 rfl) (lv_sub hl [2, 3, 4, 1, 0] rfl)
        ·
          exact (dkN_nil (show dkN [] v40 from dkN_eq1 dv40 (dkN_lit (x := 0) (0) rfl) (congrArg Int32.toInt c44) rfl)).elim
set_option maxHeartbeats 4000000 in
set_option maxRecDepth 100000 in
theorem c_X3_margin_0 (l : Launch) (g : dkG) (z : Nat) (I0 : dkI) (p0 : Int32) (p1 : Int32) (p2 : Int32) (p3 : Int32) (dp0 : dkN [(0, 4)] p0) (dp1 : dkN [(0, 4)] p1)  (hO : dkOk I0) : Met l yX3_margin wsX3_margin (dkR 5) (dkPc g z [.ref (z + 325), .int p0, .int p1, .int p2, .int p3] I0) (dkQi g z (fun r I1 => dkF [(326, 326, 0, 4), (326, 326, 11, 11), (326, 326, 15, 17), (327, 327, 0, 4), (328, 328, 0, 4), (329, 329, 0, 4), (330, 330, 0, 4), (331, 331, 0, 4), (332, 332, 0, 4), (333, 333, 0, 5), (334, 334, 0, 5), (335, 335, 0, 5), (336, 336, 0, 8)] I0 I1 ∧ dkOk I1 ∧ ((dkN [(-63, 63)] r ∧ True)))) 0 0 (dkA z) := by
  refine Met.ofW (cc := cX3_margin) (maxL := 5) (ret := (some .int)) (by decide) rfl ?_
  intro p e s m args below meth c s₁ B hml hv
  obtain ⟨ha, hW, hK, hT⟩ := hv
  have hx := B.exec
  have hb := B.bytes
  have hr := B.returns
  have hts := atoms_spec (ws := wsX3_margin) B.pre
  have hown : s.vm.findClass RX3 = some m.cls := findClass_of_methodNamed B.named
  have hlocks := B.notSynchronized
  have hS : va_S (dkA z) s.heap s.heap [] := va_S.rf
  have hF : dkF [(326, 326, 0, 4), (326, 326, 11, 11), (326, 326, 15, 17), (327, 327, 0, 4), (328, 328, 0, 4), (329, 329, 0, 4), (330, 330, 0, 4), (331, 331, 0, 4), (332, 332, 0, 4), (333, 333, 0, 5), (334, 334, 0, 5), (335, 335, 0, 5), (336, 336, 0, 8)] I0 I0 := dkF_rf _ _
  have hl := lv_entry ([.ref (z + 325), .int p0, .int p1, .int p2, .int p3]) (n := 5) (Nat.le_of_ble_eq_true rfl)
  have hgo : entryFrame m args 5 = entryFrame m ([.ref (z + 325), .int p0, .int p1, .int p2, .int p3] : List Value).toArray 5 := by rw [ha]
  rw [hgo, lg_entry_eq]
  generalize (lg_sl ([.ref (z + 325), .int p0, .int p1, .int p2, .int p3]) ++ List.replicate (5 - (lg_sl ([.ref (z + 325), .int p0, .int p1, .int p2, .int p3])).length) Slot.unset).toArray = ls at hl ⊢
  have hl : lv_has ls 5 [(0, .ref (z + 325)), (1, .int p0), (2, .int p1), (3, .int p2), (4, .int p3)] := hl
  refine lv_aload_n hx hb dX3_margin_0 rfl (lv_at hl 0 rfl) ?_
  refine dk_get (k := 325) hx hb hts iX3_margin_3 hown hK (dk_at325 hW) rfl 1 (by decide) (hts (.fieldLink RX3 12 "DogKings$Seer" "then" "LDogKings$Town;") (List.mem_of_getElem? (i := 1) rfl)) rfl dX3_margin_1 ?_
  refine lv_aload_n hx hb dX3_margin_4 rfl (lv_at hl 0 rfl) ?_
  refine dk_get (k := 325) hx hb hts iX3_margin_3 hown hK (dk_at325 hW) rfl 0 (by decide) (hts (.fieldLink RX3 22 "DogKings$Seer" "now" "LDogKings$Town;") (List.mem_of_getElem? (i := 2) rfl)) rfl dX3_margin_5 ?_
  refine dk_Vv (As := [.ref (z + 25)]) (rest := []) ⟨hx, hb, hml, hown, hts⟩ (c_X4_become_0 l g z I0 (326) (by unfold dkT; omega) (25) (by unfold dkT; omega) hO) (cwV 1 hts gX3_margin_X4_become rfl rfl rfl (by decide +kernel) ⟨Nat.le_of_ble_eq_true rfl, Nat.le_of_ble_eq_true rfl⟩) (dk_at326 hW) rfl hK hT hW hS rfl hl.1 rfl (Nat.le_of_ble_eq_true rfl) dX3_margin_8 ⟨Nat.zero_le _, Nat.zero_le _⟩ (fun I1 H1 L1 hp1 hW hS => ?_)
  obtain ⟨hF1, hO, hc1⟩ := hp1
  have hF := dkF_call hF hF1 rfl
  refine lv_aload_n hx hb dX3_margin_11 rfl (lv_at hl 0 rfl) ?_
  refine dk_get (k := 325) hx hb hts iX3_margin_3 hown hK (dk_at325 hW) rfl 1 (by decide) (hts (.fieldLink RX3 12 "DogKings$Seer" "then" "LDogKings$Town;") (List.mem_of_getElem? (i := 1) rfl)) rfl dX3_margin_12 ?_
  refine dk_get (k := 326) hx hb hts iX3_margin_4 hown hK (dk_at326 hW) rfl 8 (by decide) (hts (.fieldLink RX3 104 "DogKings$Town" "bones" "[I") (List.mem_of_getElem? (i := 3) rfl)) rfl dX3_margin_15 ?_
  refine lv_iload_n hx hb dX3_margin_18 rfl (lv_at hl 1 rfl) ?_
  refine lv_iload_n hx hb dX3_margin_19 rfl (lv_at hl 3 rfl) ?_
  refine dk_ist (k := 330) hx hb hK hW (fun _ => rfl) (by decide) hS (dkN_in (n := 5) dp0 rfl) dX3_margin_20 (fun I2 H2 L2 eI2 hW hS => ?_)
  have hO := dkO_set hO eI2 (dkN_sub (dkN_top p2) rfl)
  have hF := dkF_set hF eI2 (dkIn_v dp0 rfl)
  refine lv_aload_n hx hb dX3_margin_21 rfl (lv_at hl 0 rfl) ?_
  refine dk_get (k := 325) hx hb hts iX3_margin_3 hown hK (dk_at325 hW) rfl 1 (by decide) (hts (.fieldLink RX3 12 "DogKings$Seer" "then" "LDogKings$Town;") (List.mem_of_getElem? (i := 1) rfl)) rfl dX3_margin_22 ?_
  refine dk_get (k := 326) hx hb hts iX3_margin_4 hown hK (dk_at326 hW) rfl 8 (by decide) (hts (.fieldLink RX3 104 "DogKings$Town" "bones" "[I") (List.mem_of_getElem? (i := 3) rfl)) rfl dX3_margin_25 ?_
  refine lv_iload_n hx hb dX3_margin_28 rfl (lv_at hl 2 rfl) ?_
  refine lv_iload hx hb dX3_margin_29 (lv_at hl 4 rfl) ?_
  refine dk_ist (k := 330) hx hb hK hW (fun _ => rfl) (by decide) hS (dkN_in (n := 5) dp1 rfl) dX3_margin_31 (fun I3 H3 L3 eI3 hW hS => ?_)
  have hO := dkO_set hO eI3 (dkN_sub (dkN_top p3) rfl)
  have hF := dkF_set hF eI3 (dkIn_v dp1 rfl)
  refine lv_aload_n hx hb dX3_margin_32 rfl (lv_at hl 0 rfl) ?_
  refine dk_get (k := 325) hx hb hts iX3_margin_3 hown hK (dk_at325 hW) rfl 1 (by decide) (hts (.fieldLink RX3 12 "DogKings$Seer" "then" "LDogKings$Town;") (List.mem_of_getElem? (i := 1) rfl)) rfl dX3_margin_33 ?_
  refine dk_Vv (As := []) (rest := []) ⟨hx, hb, hml, hown, hts⟩ (c_X4_runToBell_0 l g z I3 (326) (by unfold dkT; omega) hO) (cwV 0 hts gX3_margin_X4_runToBell rfl rfl rfl (by decide +kernel) ⟨Nat.le_of_ble_eq_true rfl, Nat.le_of_ble_eq_true rfl⟩) (dk_at326 hW) rfl hK hT hW hS rfl hl.1 rfl (Nat.le_of_ble_eq_true rfl) dX3_margin_36 ⟨Nat.zero_le _, Nat.zero_le _⟩ (fun I4 H4 L4 hp4 hW hS => ?_)
  obtain ⟨hF4, hO, hc4⟩ := hp4
  have hF := dkF_call hF hF4 rfl
  refine lv_aload_n hx hb dX3_margin_39 rfl (lv_at hl 0 rfl) ?_
  refine dk_get (k := 325) hx hb hts iX3_margin_3 hown hK (dk_at325 hW) rfl 1 (by decide) (hts (.fieldLink RX3 12 "DogKings$Seer" "then" "LDogKings$Town;") (List.mem_of_getElem? (i := 1) rfl)) rfl dX3_margin_40 ?_
  refine lv_aload_n hx hb dX3_margin_43 rfl (lv_at hl 0 rfl) ?_
  refine dk_get (k := 325) hx hb hts iX3_margin_3 hown hK (dk_at325 hW) rfl 1 (by decide) (hts (.fieldLink RX3 12 "DogKings$Seer" "then" "LDogKings$Town;") (List.mem_of_getElem? (i := 1) rfl)) rfl dX3_margin_44 ?_
  refine dk_get (k := 326) hx hb hts iX3_margin_4 hown hK (dk_at326 hW) rfl 7 (by decide) (hts (.fieldLink RX3 32 "DogKings$Town" "personAt" "[I") (List.mem_of_getElem? (i := 4) rfl)) rfl dX3_margin_47 ?_
  refine lv_iload_n hx hb dX3_margin_50 rfl (lv_at hl 1 rfl) ?_
  refine dk_ild (k := 329) hx hb hK (dk_at329 hW) (dkN_in (n := 5) dp0 rfl) dX3_margin_51 ?_
  refine lv_topi (fun v5 ev5 => ?_)
  refine dk_Vi (As := [.int v5]) (rest := []) ⟨hx, hb, hml, hown, hts⟩ (c_X4_dogsIn_0 l g z I4 (326) (by unfold dkT; omega) v5 hO) (cwV 1 hts gX3_margin_X4_dogsIn rfl rfl rfl (by decide +kernel) ⟨Nat.le_of_ble_eq_true rfl, Nat.le_of_ble_eq_true rfl⟩) (dk_at326 hW) rfl hK hT hW hS rfl hl.1 rfl (Nat.le_of_ble_eq_true rfl) dX3_margin_52 ⟨Nat.zero_le _, Nat.zero_le _⟩ (fun v6 I6 H6 L6 hp6 hW hS => ?_)
  obtain ⟨hF6, hO, hc6⟩ := hp6
  have hF := dkF_call hF hF6 rfl
  obtain ⟨_, -⟩ := hc6
  refine dk_Si (As := [.int v6]) (rest := []) ⟨hx, hb, hml, hown, hts⟩ (c_J6_bitCount_0f7a4_0 l g z I6 v6 hO) (va_cwS 1 hts gX3_margin_J6_bitCount_0f7a4 rfl rfl rfl (by decide +kernel) ⟨Nat.le_of_ble_eq_true rfl, Nat.le_of_ble_eq_true rfl⟩) hK hT hW hS rfl hl.1 rfl (Nat.le_of_ble_eq_true rfl) dX3_margin_55 ⟨Nat.zero_le _, Nat.zero_le _⟩ (fun v7 I7 H7 L7 hp7 hW hS => ?_)
  obtain ⟨hF7, hO, hc7⟩ := hp7
  have hF := dkF_call hF hF7 rfl
  obtain ⟨dv7, -⟩ := hc7
  refine lv_aload_n hx hb dX3_margin_58 rfl (lv_at hl 0 rfl) ?_
  refine dk_get (k := 325) hx hb hts iX3_margin_3 hown hK (dk_at325 hW) rfl 1 (by decide) (hts (.fieldLink RX3 12 "DogKings$Seer" "then" "LDogKings$Town;") (List.mem_of_getElem? (i := 1) rfl)) rfl dX3_margin_59 ?_
  refine lv_aload_n hx hb dX3_margin_62 rfl (lv_at hl 0 rfl) ?_
  refine dk_get (k := 325) hx hb hts iX3_margin_3 hown hK (dk_at325 hW) rfl 1 (by decide) (hts (.fieldLink RX3 12 "DogKings$Seer" "then" "LDogKings$Town;") (List.mem_of_getElem? (i := 1) rfl)) rfl dX3_margin_63 ?_
  refine dk_get (k := 326) hx hb hts iX3_margin_4 hown hK (dk_at326 hW) rfl 7 (by decide) (hts (.fieldLink RX3 32 "DogKings$Town" "personAt" "[I") (List.mem_of_getElem? (i := 4) rfl)) rfl dX3_margin_66 ?_
  refine lv_iload_n hx hb dX3_margin_69 rfl (lv_at hl 2 rfl) ?_
  refine dk_ild (k := 329) hx hb hK (dk_at329 hW) (dkN_in (n := 5) dp1 rfl) dX3_margin_70 ?_
  refine lv_topi (fun v8 ev8 => ?_)
  refine dk_Vi (As := [.int v8]) (rest := [.int v7]) ⟨hx, hb, hml, hown, hts⟩ (c_X4_dogsIn_0 l g z I7 (326) (by unfold dkT; omega) v8 hO) (cwV 1 hts gX3_margin_X4_dogsIn rfl rfl rfl (by decide +kernel) ⟨Nat.le_of_ble_eq_true rfl, Nat.le_of_ble_eq_true rfl⟩) (dk_at326 hW) rfl hK hT hW hS rfl hl.1 rfl (Nat.le_of_ble_eq_true rfl) dX3_margin_71 ⟨Nat.zero_le _, Nat.zero_le _⟩ (fun v9 I9 H9 L9 hp9 hW hS => ?_)
  obtain ⟨hF9, hO, hc9⟩ := hp9
  have hF := dkF_call hF hF9 rfl
  obtain ⟨_, -⟩ := hc9
  refine dk_Si (As := [.int v9]) (rest := [.int v7]) ⟨hx, hb, hml, hown, hts⟩ (c_J6_bitCount_0f7a4_0 l g z I9 v9 hO) (va_cwS 1 hts gX3_margin_J6_bitCount_0f7a4 rfl rfl rfl (by decide +kernel) ⟨Nat.le_of_ble_eq_true rfl, Nat.le_of_ble_eq_true rfl⟩) hK hT hW hS rfl hl.1 rfl (Nat.le_of_ble_eq_true rfl) dX3_margin_74 ⟨Nat.zero_le _, Nat.zero_le _⟩ (fun v10 I10 H10 L10 hp10 hW hS => ?_)
  obtain ⟨hF10, hO, hc10⟩ := hp10
  have hF := dkF_call hF hF10 rfl
  obtain ⟨dv10, -⟩ := hc10
  refine lv_isub hx hb dX3_margin_77 ?_
  refine lv_topi (fun v11 ev11 => ?_)
  have dv11 : dkN [(-63, 63)] v11 := by rw [ev11]; exact dkN_subt dv7 dv10 rfl
  exact W.iret (v := v11) hx hb hr (fun t ht hW9 => ⟨⟨v11, I10, rfl, ⟨hF, hO, ⟨dkN_sub dv11 rfl, trivial⟩⟩, dkW_eq ht hW⟩, hS.F ht⟩) hS.2.2 dX3_margin_78
set_option maxHeartbeats 4000000 in
set_option maxRecDepth 100000 in
theorem c_X3_outcome_4 (l : Launch) (g : dkG) (z : Nat) (I0 : dkI) (p0 : Int32) (p1 : Int32) (p2 : Int32) (p3 : Int32) (p4 : Int32) (dp0 : dkN [(0, 4)] p0) (dp1 : dkN [(0, 4)] p1) (dp4 : dkN [(0, 0)] p4)  (hO : dkOk I0) : Met l yX3_outcome wsX3_outcome (dkR 6) (dkPc g z [.ref (z + 325), .int p0, .int p1, .int p2, .int p3, .int p4] I0) (dkQi g z (fun r I1 => dkF [(326, 326, 0, 4), (326, 326, 11, 11), (326, 326, 15, 17), (327, 327, 0, 4), (328, 328, 0, 4), (329, 329, 0, 4), (330, 330, 0, 4), (331, 331, 0, 4), (332, 332, 0, 4), (333, 333, 0, 5), (334, 334, 0, 5), (335, 335, 0, 5), (336, 336, 0, 8)] I0 I1 ∧ dkOk I1 ∧ ((dkN [(-63, 63)] r ∧ True)))) 0 0 (dkA z) := by
  refine Met.ofW (cc := cX3_outcome) (maxL := 8) (ret := (some .int)) (by decide) rfl ?_
  intro p e s m args below meth c s₁ B hml hv
  obtain ⟨ha, hW, hK, hT⟩ := hv
  have hx := B.exec
  have hb := B.bytes
  have hr := B.returns
  have hts := atoms_spec (ws := wsX3_outcome) B.pre
  have hown : s.vm.findClass RX3 = some m.cls := findClass_of_methodNamed B.named
  have hlocks := B.notSynchronized
  have hS : va_S (dkA z) s.heap s.heap [] := va_S.rf
  have hF : dkF [(326, 326, 0, 4), (326, 326, 11, 11), (326, 326, 15, 17), (327, 327, 0, 4), (328, 328, 0, 4), (329, 329, 0, 4), (330, 330, 0, 4), (331, 331, 0, 4), (332, 332, 0, 4), (333, 333, 0, 5), (334, 334, 0, 5), (335, 335, 0, 5), (336, 336, 0, 8)] I0 I0 := dkF_rf _ _
  have hl := lv_entry ([.ref (z + 325), .int p0, .int p1, .int p2, .int p3, .int p4]) (n := 8) (Nat.le_of_ble_eq_true rfl)
  have hgo : entryFrame m args 8 = entryFrame m ([.ref (z + 325), .int p0, .int p1, .int p2, .int p3, .int p4] : List Value).toArray 8 := by rw [ha]
  rw [hgo, lg_entry_eq]
  generalize (lg_sl ([.ref (z + 325), .int p0, .int p1, .int p2, .int p3, .int p4]) ++ List.replicate (8 - (lg_sl ([.ref (z + 325), .int p0, .int p1, .int p2, .int p3, .int p4])).length) Slot.unset).toArray = ls at hl ⊢
  have hl : lv_has ls 8 [(0, .ref (z + 325)), (1, .int p0), (2, .int p1), (3, .int p2), (4, .int p3), (5, .int p4)] := hl
  have C11 : ∀ (I : dkI) (H : Heap) (locs : List Loc) (ls : Array Slot), dkW g z I H → va_S (dkA z) s.heap H locs → dkF [(326, 326, 0, 4), (326, 326, 11, 11), (326, 326, 15, 17), (327, 327, 0, 4), (328, 328, 0, 4), (329, 329, 0, 4), (330, 330, 0, 4), (331, 331, 0, 4), (332, 332, 0, 4), (333, 333, 0, 5), (334, 334, 0, 5), (335, 335, 0, 5), (336, 336, 0, 8)] I0 I → dkOk I → lv_has ls 8 [(0, .ref (z + 325)), (1, .int p0), (2, .int p1), (3, .int p2), (4, .int p3), (5, .int p4)] → W p l e (headSpec wsX3_outcome (dkR 6)).room s m args below meth c H locs 0 0 (MQ below (dkQi g z (fun r I1 => dkF [(326, 326, 0, 4), (326, 326, 11, 11), (326, 326, 15, 17), (327, 327, 0, 4), (328, 328, 0, 4), (329, 329, 0, 4), (330, 330, 0, 4), (331, 331, 0, 4), (332, 332, 0, 4), (333, 333, 0, 5), (334, 334, 0, 5), (335, 335, 0, 5), (336, 336, 0, 8)] I0 I1 ∧ dkOk I1 ∧ ((dkN [(-63, 63)] r ∧ True)))) args s 0 0 (dkA z)) (F0 m 11 ls []) := by
    intro I11_ H locs ls hW hS hF_11 hO hl
    have hF := hF_11
    refine lv_aload_n hx hb dX3_outcome_11 rfl (lv_at hl 0 rfl) ?_
    refine lv_iload_n hx hb dX3_outcome_12 rfl (lv_at hl 1 rfl) ?_
    refine lv_iload_n hx hb dX3_outcome_13 rfl (lv_at hl 2 rfl) ?_
    refine lv_iload_n hx hb dX3_outcome_14 rfl (lv_at hl 3 rfl) ?_
    refine lv_iload hx hb dX3_outcome_15 (lv_at hl 4 rfl) ?_
    refine dk_Vi (As := [.int p0, .int p1, .int p2, .int p3]) (rest := []) ⟨hx, hb, hml, hown, hts⟩ (c_X3_margin_0 l g z I11_ p0 p1 p2 p3 dp0 dp1 hO) (cwV 4 hts gX3_outcome_X3_margin rfl rfl rfl (by decide +kernel) ⟨Nat.le_of_ble_eq_true rfl, Nat.le_of_ble_eq_true rfl⟩) (dk_at325 hW) rfl hK hT hW hS rfl hl.1 rfl (Nat.le_of_ble_eq_true rfl) dX3_outcome_17 ⟨Nat.zero_le _, Nat.zero_le _⟩ (fun v1 I1 H1 L1 hp1 hW hS => ?_)
    obtain ⟨hF1, hO, hc1⟩ := hp1
    have hF := dkF_call hF hF1 rfl
    obtain ⟨dv1, -⟩ := hc1
    exact W.iret (v := v1) hx hb hr (fun t ht hW9 => ⟨⟨v1, I1, rfl, ⟨hF, hO, ⟨dkN_sub dv1 rfl, trivial⟩⟩, dkW_eq ht hW⟩, hS.F ht⟩) hS.2.2 dX3_outcome_20
  refine lv_iload hx hb dX3_outcome_0 (lv_at hl 5 rfl) ?_
  refine lv_if_le (tgt := 11) hx hb dX3_outcome_2 (by decide) (fun c2 => ?_) (fun c2 => ?_)
  ·
    exact C11 I0 _ _ ls  hW hS hF hO  (lv_sub hl [0, 1, 2, 3, 4, 5] rfl)
  ·
    exact (dkN_nil (show dkN [] p4 from dkN_le2 1 (dkN_lit (x := 0) (0) rfl) dp4 (dkc_nle c2) rfl)).elim
set_option maxHeartbeats 4000000 in
set_option maxRecDepth 100000 in
theorem c_X3_outcome_3 (l : Launch) (g : dkG) (z : Nat) (I0 : dkI) (p0 : Int32) (p1 : Int32) (p2 : Int32) (p3 : Int32) (p4 : Int32) (dp0 : dkN [(0, 4)] p0) (dp1 : dkN [(0, 4)] p1) (dp4 : dkN [(0, 1)] p4)  (hO : dkOk I0) : Met l yX3_outcome wsX3_outcome (dkR 7) (dkPc g z [.ref (z + 325), .int p0, .int p1, .int p2, .int p3, .int p4] I0) (dkQi g z (fun r I1 => dkF [(326, 326, 0, 4), (326, 326, 11, 11), (326, 326, 15, 17), (327, 327, 0, 4), (328, 328, 0, 4), (329, 329, 0, 4), (330, 330, 0, 4), (331, 331, 0, 4), (332, 332, 0, 4), (333, 333, 0, 5), (334, 334, 0, 5), (335, 335, 0, 5), (336, 336, 0, 8)] I0 I1 ∧ dkOk I1 ∧ ((dkN [(-63, 63)] r ∧ True)))) 0 0 (dkA z) := by
  refine Met.ofW (cc := cX3_outcome) (maxL := 8) (ret := (some .int)) (by decide) rfl ?_
  intro p e s m args below meth c s₁ B hml hv
  obtain ⟨ha, hW, hK, hT⟩ := hv
  have hx := B.exec
  have hb := B.bytes
  have hr := B.returns
  have hts := atoms_spec (ws := wsX3_outcome) B.pre
  have hown : s.vm.findClass RX3 = some m.cls := findClass_of_methodNamed B.named
  have hlocks := B.notSynchronized
  have hS : va_S (dkA z) s.heap s.heap [] := va_S.rf
  have hF : dkF [(326, 326, 0, 4), (326, 326, 11, 11), (326, 326, 15, 17), (327, 327, 0, 4), (328, 328, 0, 4), (329, 329, 0, 4), (330, 330, 0, 4), (331, 331, 0, 4), (332, 332, 0, 4), (333, 333, 0, 5), (334, 334, 0, 5), (335, 335, 0, 5), (336, 336, 0, 8)] I0 I0 := dkF_rf _ _
  have hl := lv_entry ([.ref (z + 325), .int p0, .int p1, .int p2, .int p3, .int p4]) (n := 8) (Nat.le_of_ble_eq_true rfl)
  have hgo : entryFrame m args 8 = entryFrame m ([.ref (z + 325), .int p0, .int p1, .int p2, .int p3, .int p4] : List Value).toArray 8 := by rw [ha]
  rw [hgo, lg_entry_eq]
  generalize (lg_sl ([.ref (z + 325), .int p0, .int p1, .int p2, .int p3, .int p4]) ++ List.replicate (8 - (lg_sl ([.ref (z + 325), .int p0, .int p1, .int p2, .int p3, .int p4])).length) Slot.unset).toArray = ls at hl ⊢
  have hl : lv_has ls 8 [(0, .ref (z + 325)), (1, .int p0), (2, .int p1), (3, .int p2), (4, .int p3), (5, .int p4)] := hl
  have C11 : ∀ (I : dkI) (H : Heap) (locs : List Loc) (ls : Array Slot), dkW g z I H → va_S (dkA z) s.heap H locs → dkF [(326, 326, 0, 4), (326, 326, 11, 11), (326, 326, 15, 17), (327, 327, 0, 4), (328, 328, 0, 4), (329, 329, 0, 4), (330, 330, 0, 4), (331, 331, 0, 4), (332, 332, 0, 4), (333, 333, 0, 5), (334, 334, 0, 5), (335, 335, 0, 5), (336, 336, 0, 8)] I0 I → dkOk I → dkN [(0, 0)] p4 → lv_has ls 8 [(0, .ref (z + 325)), (1, .int p0), (2, .int p1), (3, .int p2), (4, .int p3), (5, .int p4)] → W p l e (headSpec wsX3_outcome (dkR 7)).room s m args below meth c H locs 0 0 (MQ below (dkQi g z (fun r I1 => dkF [(326, 326, 0, 4), (326, 326, 11, 11), (326, 326, 15, 17), (327, 327, 0, 4), (328, 328, 0, 4), (329, 329, 0, 4), (330, 330, 0, 4), (331, 331, 0, 4), (332, 332, 0, 4), (333, 333, 0, 5), (334, 334, 0, 5), (335, 335, 0, 5), (336, 336, 0, 8)] I0 I1 ∧ dkOk I1 ∧ ((dkN [(-63, 63)] r ∧ True)))) args s 0 0 (dkA z)) (F0 m 11 ls []) := by
    intro I11_ H locs ls hW hS hF_11 hO r11_0 hl
    have hF := hF_11
    refine lv_aload_n hx hb dX3_outcome_11 rfl (lv_at hl 0 rfl) ?_
    refine lv_iload_n hx hb dX3_outcome_12 rfl (lv_at hl 1 rfl) ?_
    refine lv_iload_n hx hb dX3_outcome_13 rfl (lv_at hl 2 rfl) ?_
    refine lv_iload_n hx hb dX3_outcome_14 rfl (lv_at hl 3 rfl) ?_
    refine lv_iload hx hb dX3_outcome_15 (lv_at hl 4 rfl) ?_
    refine dk_Vi (As := [.int p0, .int p1, .int p2, .int p3]) (rest := []) ⟨hx, hb, hml, hown, hts⟩ (c_X3_margin_0 l g z I11_ p0 p1 p2 p3 dp0 dp1 hO) (cwV 4 hts gX3_outcome_X3_margin rfl rfl rfl (by decide +kernel) ⟨Nat.le_of_ble_eq_true rfl, Nat.le_of_ble_eq_true rfl⟩) (dk_at325 hW) rfl hK hT hW hS rfl hl.1 rfl (Nat.le_of_ble_eq_true rfl) dX3_outcome_17 ⟨Nat.zero_le _, Nat.zero_le _⟩ (fun v1 I1 H1 L1 hp1 hW hS => ?_)
    obtain ⟨hF1, hO, hc1⟩ := hp1
    have hF := dkF_call hF hF1 rfl
    obtain ⟨dv1, -⟩ := hc1
    exact W.iret (v := v1) hx hb hr (fun t ht hW9 => ⟨⟨v1, I1, rfl, ⟨hF, hO, ⟨dkN_sub dv1 rfl, trivial⟩⟩, dkW_eq ht hW⟩, hS.F ht⟩) hS.2.2 dX3_outcome_20
  refine lv_iload hx hb dX3_outcome_0 (lv_at hl 5 rfl) ?_
  refine lv_if_le (tgt := 11) hx hb dX3_outcome_2 (by decide) (fun c2 => ?_) (fun c2 => ?_)
  ·
    have d3 : dkN [(0, 0)] p4 := dkN_le1 0 dp4 (dkN_lit (x := 0) (0) rfl) (dkc_le c2) rfl
    exact C11 I0 _ _ ls  hW hS hF hO (dkN_sub d3 rfl) (lv_sub hl [0, 1, 2, 3, 4, 5] rfl)
  ·
    have d4 : dkN [(1, 1)] p4 := dkN_le2 1 (dkN_lit (x := 0) (0) rfl) dp4 (dkc_nle c2) rfl
    refine lv_iload hx hb dX3_outcome_5 (lv_at hl 5 rfl) ?_
    refine lv_iconst (v := 4) hx hb dX3_outcome_7 (by decide) ?_
    refine lv_icmp_le (tgt := 21) hx hb dX3_outcome_8 (by decide) (fun c5 => ?_) (fun c5 => ?_)
    ·
      refine lv_aload_n hx hb dX3_outcome_21 rfl (lv_at hl 0 rfl) ?_
      refine lv_iload_n hx hb dX3_outcome_22 rfl (lv_at hl 1 rfl) ?_
      refine lv_iload_n hx hb dX3_outcome_23 rfl (lv_at hl 2 rfl) ?_
      refine lv_iload_n hx hb dX3_outcome_24 rfl (lv_at hl 3 rfl) ?_
      refine lv_iload hx hb dX3_outcome_25 (lv_at hl 4 rfl) ?_
      refine lv_iload hx hb dX3_outcome_27 (lv_at hl 5 rfl) ?_
      refine lv_iconst (v := 1) hx hb dX3_outcome_29 (by decide) ?_
      refine lv_isub hx hb dX3_outcome_30 ?_
      refine lv_topi (fun v6 ev6 => ?_)
      have dv6 : dkN [(0, 0)] v6 := by rw [ev6]; exact dkN_subt d4 (dkN_lit (x := 1) (1) rfl) rfl
      refine dk_Vi (As := [.int p0, .int p1, .int p2, .int p3, .int v6]) (rest := []) ⟨hx, hb, hml, hown, hts⟩ (c_X3_outcome_4 l g z I0 p0 p1 p2 p3 v6 dp0 dp1 dv6 hO) (cwV 5 hts gX3_outcome_X3_outcome rfl rfl rfl (by decide +kernel) ⟨Nat.le_of_ble_eq_true rfl, Nat.le_of_ble_eq_true rfl⟩) (dk_at325 hW) rfl hK hT hW hS rfl hl.1 rfl (Nat.le_of_ble_eq_true rfl) dX3_outcome_31 ⟨Nat.zero_le _, Nat.zero_le _⟩ (fun v7 I7 H7 L7 hp7 hW hS => ?_)
      obtain ⟨hF7, hO, hc7⟩ := hp7
      have hF := dkF_call hF hF7 rfl
      obtain ⟨dv7, -⟩ := hc7
      refine lv_istore (lv' := [(6, .int v7), (0, .ref (z + 325)), (1, .int p0), (2, .int p1), (3, .int p2), (4, .int p3), (5, .int p4)]) hx hb dX3_outcome_34 hl (by decide) rfl (fun ls hl => ?_)
      refine lv_iload hx hb dX3_outcome_36 (lv_at hl 6 rfl) ?_
      refine lv_iconst (v := 2) hx hb dX3_outcome_38 (by decide) ?_
      refine lv_irem hx hb dX3_outcome_39 (dkN_ne0 (dkN_lit (x := 2) (2) rfl) rfl) ?_
      refine lv_topi (fun v8 ev8 => ?_)
      have dv8 : dkN [(0, 1)] v8 := by rw [ev8]; exact dkN_rem 2 (by decide) d4 (dkN_lit (x := 2) (2) rfl) rfl
      refine lv_if_ne (tgt := 73) hx hb dX3_outcome_40 (by decide) (fun c9 => ?_) (fun c9 => ?_)
      ·
        have d10 : dkN [(1, 1)] v8 := dkN_ne1 (0) dv8 (dkN_lit (x := 0) (0) rfl) (dk_ne c9) rfl
        refine lv_iload hx hb dX3_outcome_73 (lv_at hl 5 rfl) ?_
        refine lv_iconst (v := 1) hx hb dX3_outcome_75 (by decide) ?_
        refine lv_iadd hx hb dX3_outcome_76 ?_
        refine lv_topi (fun v11 ev11 => ?_)
        refine lv_bipush (v := 9) hx hb dX3_outcome_77 (by decide) ?_
        refine va_mmin hx hb (by rw [hml]; exact hl.1.symm) hown (hts (.methodLink RX3 95 Lib.Math.min.name) (List.mem_of_getElem? (i := 1) rfl)) (hts (.static Lib.Math.min.name) (List.mem_of_getElem? (i := 2) rfl)) (hts (.initialized "java/lang/Math") (List.mem_of_getElem? (i := 3) rfl)) (hts (.code Lib.Math.min.name Lib.Math.min.code 2 (some .int)) (List.mem_of_getElem? (i := 4) rfl)) (Nat.le_of_ble_eq_true rfl) (Nat.le_of_ble_eq_true rfl) (Nat.zero_le _) (Nat.zero_le _) dX3_outcome_79 ?_
        refine lv_topi (fun v12 ev12 => ?_)
        have dv12 : dkN [(-2147483648, 9)] v12 := by rw [ev12]; exact dkN_min (dkN_top v11) (dkN_lit (x := 9) (9) rfl) rfl
        refine lv_istore (lv' := [(7, .int v12), (6, .int v7), (0, .ref (z + 325)), (1, .int p0), (2, .int p1), (3, .int p2), (4, .int p3), (5, .int p4)]) hx hb dX3_outcome_82 hl (by decide) rfl (fun ls hl => ?_)
        refine lv_iload hx hb dX3_outcome_84 (lv_at hl 1 rfl) ?_
        refine lv_aload_n hx hb dX3_outcome_86 rfl (lv_at hl 2 rfl) ?_
        refine lv_iload_n hx hb dX3_outcome_87 rfl (lv_at hl 3 rfl) ?_
        refine lv_iload_n hx hb dX3_outcome_88 rfl (lv_at hl 4 rfl) ?_
        refine lv_iload_n hx hb dX3_outcome_89 rfl (lv_at hl 5 rfl) ?_
        refine lv_iload hx hb dX3_outcome_90 (lv_at hl 0 rfl) ?_
        refine lv_iload hx hb dX3_outcome_92 (lv_at hl 7 rfl) ?_
        refine lv_iconst (v := 1) hx hb dX3_outcome_94 (by decide) ?_
        refine lv_isub hx hb dX3_outcome_95 ?_
        refine lv_topi (fun v13 ev13 => ?_)
        have dv13 : dkN [(0, 0)] v13 := by rw [ev13]; exact dkN_subt d4 (dkN_lit (x := 1) (1) rfl) rfl
        refine dk_Vi (As := [.int p0, .int p1, .int p2, .int v12, .int v13]) (rest := [.int v7]) ⟨hx, hb, hml, hown, hts⟩ (c_X3_outcome_4 l g z I7 p0 p1 p2 v12 v13 dp0 dp1 dv13 hO) (cwV 5 hts gX3_outcome_X3_outcome rfl rfl rfl (by decide +kernel) ⟨Nat.le_of_ble_eq_true rfl, Nat.le_of_ble_eq_true rfl⟩) (dk_at325 hW) rfl hK hT hW hS rfl hl.1 rfl (Nat.le_of_ble_eq_true rfl) dX3_outcome_96 ⟨Nat.zero_le _, Nat.zero_le _⟩ (fun v14 I14 H14 L14 hp14 hW hS => ?_)
        obtain ⟨hF14, hO, hc14⟩ := hp14
        have hF := dkF_call hF hF14 rfl
        obtain ⟨dv14, -⟩ := hc14
        refine va_mmin hx hb (by rw [hml]; exact hl.1.symm) hown (hts (.methodLink RX3 95 Lib.Math.min.name) (List.mem_of_getElem? (i := 1) rfl)) (hts (.static Lib.Math.min.name) (List.mem_of_getElem? (i := 2) rfl)) (hts (.initialized "java/lang/Math") (List.mem_of_getElem? (i := 3) rfl)) (hts (.code Lib.Math.min.name Lib.Math.min.code 2 (some .int)) (List.mem_of_getElem? (i := 4) rfl)) (Nat.le_of_ble_eq_true rfl) (Nat.le_of_ble_eq_true rfl) (Nat.zero_le _) (Nat.zero_le _) dX3_outcome_99 ?_
        refine lv_topi (fun v15 ev15 => ?_)
        have dv15 : dkN [(-63, 63)] v15 := by rw [ev15]; exact dkN_min dv7 dv14 rfl
        exact W.iret (v := v15) hx hb hr (fun t ht hW9 => ⟨⟨v15, I14, rfl, ⟨hF, hO, ⟨dkN_sub dv15 rfl, trivial⟩⟩, dkW_eq ht hW⟩, hS.F ht⟩) hS.2.2 dX3_outcome_102
      ·
        have d16 : dkN [(0, 0)] v8 := dkN_eq1 dv8 (dkN_lit (x := 0) (0) rfl) (congrArg Int32.toInt c9) rfl
        refine lv_iload_n hx hb dX3_outcome_43 rfl (lv_at hl 4 rfl) ?_
        refine lv_iconst (v := 1) hx hb dX3_outcome_44 (by decide) ?_
        refine lv_iadd hx hb dX3_outcome_45 ?_
        refine lv_topi (fun v17 ev17 => ?_)
        refine lv_bipush (v := 9) hx hb dX3_outcome_46 (by decide) ?_
        refine va_mmin hx hb (by rw [hml]; exact hl.1.symm) hown (hts (.methodLink RX3 95 Lib.Math.min.name) (List.mem_of_getElem? (i := 1) rfl)) (hts (.static Lib.Math.min.name) (List.mem_of_getElem? (i := 2) rfl)) (hts (.initialized "java/lang/Math") (List.mem_of_getElem? (i := 3) rfl)) (hts (.code Lib.Math.min.name Lib.Math.min.code 2 (some .int)) (List.mem_of_getElem? (i := 4) rfl)) (Nat.le_of_ble_eq_true rfl) (Nat.le_of_ble_eq_true rfl) (Nat.zero_le _) (Nat.zero_le _) dX3_outcome_48 ?_
        refine lv_topi (fun v18 ev18 => ?_)
        have dv18 : dkN [(-2147483648, 9)] v18 := by rw [ev18]; exact dkN_min (dkN_top v17) (dkN_lit (x := 9) (9) rfl) rfl
        refine lv_istore (lv' := [(7, .int v18), (6, .int v7), (0, .ref (z + 325)), (1, .int p0), (2, .int p1), (3, .int p2), (4, .int p3), (5, .int p4)]) hx hb dX3_outcome_51 hl (by decide) rfl (fun ls hl => ?_)
        refine lv_iload hx hb dX3_outcome_53 (lv_at hl 1 rfl) ?_
        refine lv_aload_n hx hb dX3_outcome_55 rfl (lv_at hl 2 rfl) ?_
        refine lv_iload_n hx hb dX3_outcome_56 rfl (lv_at hl 3 rfl) ?_
        refine lv_iload_n hx hb dX3_outcome_57 rfl (lv_at hl 4 rfl) ?_
        refine lv_iload hx hb dX3_outcome_58 (lv_at hl 0 rfl) ?_
        refine lv_iload hx hb dX3_outcome_60 (lv_at hl 6 rfl) ?_
        refine lv_iload hx hb dX3_outcome_62 (lv_at hl 7 rfl) ?_
        refine lv_iconst (v := 1) hx hb dX3_outcome_64 (by decide) ?_
        refine lv_isub hx hb dX3_outcome_65 ?_
        refine lv_topi (fun v19 ev19 => ?_)
        have dv19 : dkN [(0, 0)] v19 := by rw [ev19]; exact dkN_subt d4 (dkN_lit (x := 1) (1) rfl) rfl
        refine dk_Vi (As := [.int p0, .int p1, .int v18, .int p3, .int v19]) (rest := [.int v7]) ⟨hx, hb, hml, hown, hts⟩ (c_X3_outcome_4 l g z I7 p0 p1 v18 p3 v19 dp0 dp1 dv19 hO) (cwV 5 hts gX3_outcome_X3_outcome rfl rfl rfl (by decide +kernel) ⟨Nat.le_of_ble_eq_true rfl, Nat.le_of_ble_eq_true rfl⟩) (dk_at325 hW) rfl hK hT hW hS rfl hl.1 rfl (Nat.le_of_ble_eq_true rfl) dX3_outcome_66 ⟨Nat.zero_le _, Nat.zero_le _⟩ (fun v20 I20 H20 L20 hp20 hW hS => ?_)
        obtain ⟨hF20, hO, hc20⟩ := hp20
        have hF := dkF_call hF hF20 rfl
        obtain ⟨dv20, -⟩ := hc20
        refine va_mmax hx hb (by rw [hml]; exact hl.1.symm) hown (hts (.methodLink RX3 101 Lib.Math.max.name) (List.mem_of_getElem? (i := 5) rfl)) (hts (.static Lib.Math.max.name) (List.mem_of_getElem? (i := 6) rfl)) (hts (.initialized "java/lang/Math") (List.mem_of_getElem? (i := 3) rfl)) (hts (.code Lib.Math.max.name Lib.Math.max.code 2 (some .int)) (List.mem_of_getElem? (i := 7) rfl)) (Nat.le_of_ble_eq_true rfl) (Nat.le_of_ble_eq_true rfl) (Nat.zero_le _) (Nat.zero_le _) dX3_outcome_69 ?_
        refine lv_topi (fun v21 ev21 => ?_)
        have dv21 : dkN [(-63, 63)] v21 := by rw [ev21]; exact dkN_max dv7 dv20 rfl
        exact W.iret (v := v21) hx hb hr (fun t ht hW9 => ⟨⟨v21, I20, rfl, ⟨hF, hO, ⟨dkN_sub dv21 rfl, trivial⟩⟩, dkW_eq ht hW⟩, hS.F ht⟩) hS.2.2 dX3_outcome_72
    ·
      exact (dkN_nil (show dkN [] p4 from dkN_le2 1 (dkN_lit (x := 4) (4) rfl) d4 (dkc_nle c5) rfl)).elim
set_option maxHeartbeats 4000000 in
set_option maxRecDepth 100000 in
theorem c_X3_outcome_2 (l : Launch) (g : dkG) (z : Nat) (I0 : dkI) (p0 : Int32) (p1 : Int32) (p2 : Int32) (p3 : Int32) (p4 : Int32) (dp0 : dkN [(0, 4)] p0) (dp1 : dkN [(0, 4)] p1) (dp4 : dkN [(0, 2)] p4)  (hO : dkOk I0) : Met l yX3_outcome wsX3_outcome (dkR 8) (dkPc g z [.ref (z + 325), .int p0, .int p1, .int p2, .int p3, .int p4] I0) (dkQi g z (fun r I1 => dkF [(326, 326, 0, 4), (326, 326, 11, 11), (326, 326, 15, 17), (327, 327, 0, 4), (328, 328, 0, 4), (329, 329, 0, 4), (330, 330, 0, 4), (331, 331, 0, 4), (332, 332, 0, 4), (333, 333, 0, 5), (334, 334, 0, 5), (335, 335, 0, 5), (336, 336, 0, 8)] I0 I1 ∧ dkOk I1 ∧ ((dkN [(-63, 63)] r ∧ True)))) 0 0 (dkA z) := by
  refine Met.ofW (cc := cX3_outcome) (maxL := 8) (ret := (some .int)) (by decide) rfl ?_
  intro p e s m args below meth c s₁ B hml hv
  obtain ⟨ha, hW, hK, hT⟩ := hv
  have hx := B.exec
  have hb := B.bytes
  have hr := B.returns
  have hts := atoms_spec (ws := wsX3_outcome) B.pre
  have hown : s.vm.findClass RX3 = some m.cls := findClass_of_methodNamed B.named
  have hlocks := B.notSynchronized
  have hS : va_S (dkA z) s.heap s.heap [] := va_S.rf
  have hF : dkF [(326, 326, 0, 4), (326, 326, 11, 11), (326, 326, 15, 17), (327, 327, 0, 4), (328, 328, 0, 4), (329, 329, 0, 4), (330, 330, 0, 4), (331, 331, 0, 4), (332, 332, 0, 4), (333, 333, 0, 5), (334, 334, 0, 5), (335, 335, 0, 5), (336, 336, 0, 8)] I0 I0 := dkF_rf _ _
  have hl := lv_entry ([.ref (z + 325), .int p0, .int p1, .int p2, .int p3, .int p4]) (n := 8) (Nat.le_of_ble_eq_true rfl)
  have hgo : entryFrame m args 8 = entryFrame m ([.ref (z + 325), .int p0, .int p1, .int p2, .int p3, .int p4] : List Value).toArray 8 := by rw [ha]
  rw [hgo, lg_entry_eq]
  generalize (lg_sl ([.ref (z + 325), .int p0, .int p1, .int p2, .int p3, .int p4]) ++ List.replicate (8 - (lg_sl ([.ref (z + 325), .int p0, .int p1, .int p2, .int p3, .int p4])).length) Slot.unset).toArray = ls at hl ⊢
  have hl : lv_has ls 8 [(0, .ref (z + 325)), (1, .int p0), (2, .int p1), (3, .int p2), (4, .int p3), (5, .int p4)] := hl
  have C11 : ∀ (I : dkI) (H : Heap) (locs : List Loc) (ls : Array Slot), dkW g z I H → va_S (dkA z) s.heap H locs → dkF [(326, 326, 0, 4), (326, 326, 11, 11), (326, 326, 15, 17), (327, 327, 0, 4), (328, 328, 0, 4), (329, 329, 0, 4), (330, 330, 0, 4), (331, 331, 0, 4), (332, 332, 0, 4), (333, 333, 0, 5), (334, 334, 0, 5), (335, 335, 0, 5), (336, 336, 0, 8)] I0 I → dkOk I → dkN [(0, 0)] p4 → lv_has ls 8 [(0, .ref (z + 325)), (1, .int p0), (2, .int p1), (3, .int p2), (4, .int p3), (5, .int p4)] → W p l e (headSpec wsX3_outcome (dkR 8)).room s m args below meth c H locs 0 0 (MQ below (dkQi g z (fun r I1 => dkF [(326, 326, 0, 4), (326, 326, 11, 11), (326, 326, 15, 17), (327, 327, 0, 4), (328, 328, 0, 4), (329, 329, 0, 4), (330, 330, 0, 4), (331, 331, 0, 4), (332, 332, 0, 4), (333, 333, 0, 5), (334, 334, 0, 5), (335, 335, 0, 5), (336, 336, 0, 8)] I0 I1 ∧ dkOk I1 ∧ ((dkN [(-63, 63)] r ∧ True)))) args s 0 0 (dkA z)) (F0 m 11 ls []) := by
    intro I11_ H locs ls hW hS hF_11 hO r11_0 hl
    have hF := hF_11
    refine lv_aload_n hx hb dX3_outcome_11 rfl (lv_at hl 0 rfl) ?_
    refine lv_iload_n hx hb dX3_outcome_12 rfl (lv_at hl 1 rfl) ?_
    refine lv_iload_n hx hb dX3_outcome_13 rfl (lv_at hl 2 rfl) ?_
    refine lv_iload_n hx hb dX3_outcome_14 rfl (lv_at hl 3 rfl) ?_
    refine lv_iload hx hb dX3_outcome_15 (lv_at hl 4 rfl) ?_
    refine dk_Vi (As := [.int p0, .int p1, .int p2, .int p3]) (rest := []) ⟨hx, hb, hml, hown, hts⟩ (c_X3_margin_0 l g z I11_ p0 p1 p2 p3 dp0 dp1 hO) (cwV 4 hts gX3_outcome_X3_margin rfl rfl rfl (by decide +kernel) ⟨Nat.le_of_ble_eq_true rfl, Nat.le_of_ble_eq_true rfl⟩) (dk_at325 hW) rfl hK hT hW hS rfl hl.1 rfl (Nat.le_of_ble_eq_true rfl) dX3_outcome_17 ⟨Nat.zero_le _, Nat.zero_le _⟩ (fun v1 I1 H1 L1 hp1 hW hS => ?_)
    obtain ⟨hF1, hO, hc1⟩ := hp1
    have hF := dkF_call hF hF1 rfl
    obtain ⟨dv1, -⟩ := hc1
    exact W.iret (v := v1) hx hb hr (fun t ht hW9 => ⟨⟨v1, I1, rfl, ⟨hF, hO, ⟨dkN_sub dv1 rfl, trivial⟩⟩, dkW_eq ht hW⟩, hS.F ht⟩) hS.2.2 dX3_outcome_20
  refine lv_iload hx hb dX3_outcome_0 (lv_at hl 5 rfl) ?_
  refine lv_if_le (tgt := 11) hx hb dX3_outcome_2 (by decide) (fun c2 => ?_) (fun c2 => ?_)
  ·
    have d3 : dkN [(0, 0)] p4 := dkN_le1 0 dp4 (dkN_lit (x := 0) (0) rfl) (dkc_le c2) rfl
    exact C11 I0 _ _ ls  hW hS hF hO (dkN_sub d3 rfl) (lv_sub hl [0, 1, 2, 3, 4, 5] rfl)
  ·
    have d4 : dkN [(1, 2)] p4 := dkN_le2 1 (dkN_lit (x := 0) (0) rfl) dp4 (dkc_nle c2) rfl
    refine lv_iload hx hb dX3_outcome_5 (lv_at hl 5 rfl) ?_
    refine lv_iconst (v := 4) hx hb dX3_outcome_7 (by decide) ?_
    refine lv_icmp_le (tgt := 21) hx hb dX3_outcome_8 (by decide) (fun c5 => ?_) (fun c5 => ?_)
    ·
      refine lv_aload_n hx hb dX3_outcome_21 rfl (lv_at hl 0 rfl) ?_
      refine lv_iload_n hx hb dX3_outcome_22 rfl (lv_at hl 1 rfl) ?_
      refine lv_iload_n hx hb dX3_outcome_23 rfl (lv_at hl 2 rfl) ?_
      refine lv_iload_n hx hb dX3_outcome_24 rfl (lv_at hl 3 rfl) ?_
      refine lv_iload hx hb dX3_outcome_25 (lv_at hl 4 rfl) ?_
      refine lv_iload hx hb dX3_outcome_27 (lv_at hl 5 rfl) ?_
      refine lv_iconst (v := 1) hx hb dX3_outcome_29 (by decide) ?_
      refine lv_isub hx hb dX3_outcome_30 ?_
      refine lv_topi (fun v6 ev6 => ?_)
      have dv6 : dkN [(0, 1)] v6 := by rw [ev6]; exact dkN_subt d4 (dkN_lit (x := 1) (1) rfl) rfl
      refine dk_Vi (As := [.int p0, .int p1, .int p2, .int p3, .int v6]) (rest := []) ⟨hx, hb, hml, hown, hts⟩ (c_X3_outcome_3 l g z I0 p0 p1 p2 p3 v6 dp0 dp1 dv6 hO) (cwV 5 hts gX3_outcome_X3_outcome rfl rfl rfl (by decide +kernel) ⟨Nat.le_of_ble_eq_true rfl, Nat.le_of_ble_eq_true rfl⟩) (dk_at325 hW) rfl hK hT hW hS rfl hl.1 rfl (Nat.le_of_ble_eq_true rfl) dX3_outcome_31 ⟨Nat.zero_le _, Nat.zero_le _⟩ (fun v7 I7 H7 L7 hp7 hW hS => ?_)
      obtain ⟨hF7, hO, hc7⟩ := hp7
      have hF := dkF_call hF hF7 rfl
      obtain ⟨dv7, -⟩ := hc7
      refine lv_istore (lv' := [(6, .int v7), (0, .ref (z + 325)), (1, .int p0), (2, .int p1), (3, .int p2), (4, .int p3), (5, .int p4)]) hx hb dX3_outcome_34 hl (by decide) rfl (fun ls hl => ?_)
      refine lv_iload hx hb dX3_outcome_36 (lv_at hl 6 rfl) ?_
      refine lv_iconst (v := 2) hx hb dX3_outcome_38 (by decide) ?_
      refine lv_irem hx hb dX3_outcome_39 (dkN_ne0 (dkN_lit (x := 2) (2) rfl) rfl) ?_
      refine lv_topi (fun v8 ev8 => ?_)
      have dv8 : dkN [(0, 1)] v8 := by rw [ev8]; exact dkN_rem 2 (by decide) d4 (dkN_lit (x := 2) (2) rfl) rfl
      refine lv_if_ne (tgt := 73) hx hb dX3_outcome_40 (by decide) (fun c9 => ?_) (fun c9 => ?_)
      ·
        have d10 : dkN [(1, 1)] v8 := dkN_ne1 (0) dv8 (dkN_lit (x := 0) (0) rfl) (dk_ne c9) rfl
        refine lv_iload hx hb dX3_outcome_73 (lv_at hl 5 rfl) ?_
        refine lv_iconst (v := 1) hx hb dX3_outcome_75 (by decide) ?_
        refine lv_iadd hx hb dX3_outcome_76 ?_
        refine lv_topi (fun v11 ev11 => ?_)
        refine lv_bipush (v := 9) hx hb dX3_outcome_77 (by decide) ?_
        refine va_mmin hx hb (by rw [hml]; exact hl.1.symm) hown (hts (.methodLink RX3 95 Lib.Math.min.name) (List.mem_of_getElem? (i := 1) rfl)) (hts (.static Lib.Math.min.name) (List.mem_of_getElem? (i := 2) rfl)) (hts (.initialized "java/lang/Math") (List.mem_of_getElem? (i := 3) rfl)) (hts (.code Lib.Math.min.name Lib.Math.min.code 2 (some .int)) (List.mem_of_getElem? (i := 4) rfl)) (Nat.le_of_ble_eq_true rfl) (Nat.le_of_ble_eq_true rfl) (Nat.zero_le _) (Nat.zero_le _) dX3_outcome_79 ?_
        refine lv_topi (fun v12 ev12 => ?_)
        have dv12 : dkN [(-2147483648, 9)] v12 := by rw [ev12]; exact dkN_min (dkN_top v11) (dkN_lit (x := 9) (9) rfl) rfl
        refine lv_istore (lv' := [(7, .int v12), (6, .int v7), (0, .ref (z + 325)), (1, .int p0), (2, .int p1), (3, .int p2), (4, .int p3), (5, .int p4)]) hx hb dX3_outcome_82 hl (by decide) rfl (fun ls hl => ?_)
        refine lv_iload hx hb dX3_outcome_84 (lv_at hl 1 rfl) ?_
        refine lv_aload_n hx hb dX3_outcome_86 rfl (lv_at hl 2 rfl) ?_
        refine lv_iload_n hx hb dX3_outcome_87 rfl (lv_at hl 3 rfl) ?_
        refine lv_iload_n hx hb dX3_outcome_88 rfl (lv_at hl 4 rfl) ?_
        refine lv_iload_n hx hb dX3_outcome_89 rfl (lv_at hl 5 rfl) ?_
        refine lv_iload hx hb dX3_outcome_90 (lv_at hl 0 rfl) ?_
        refine lv_iload hx hb dX3_outcome_92 (lv_at hl 7 rfl) ?_
        refine lv_iconst (v := 1) hx hb dX3_outcome_94 (by decide) ?_
        refine lv_isub hx hb dX3_outcome_95 ?_
        refine lv_topi (fun v13 ev13 => ?_)
        have dv13 : dkN [(0, 1)] v13 := by rw [ev13]; exact dkN_subt d4 (dkN_lit (x := 1) (1) rfl) rfl
        refine dk_Vi (As := [.int p0, .int p1, .int p2, .int v12, .int v13]) (rest := [.int v7]) ⟨hx, hb, hml, hown, hts⟩ (c_X3_outcome_3 l g z I7 p0 p1 p2 v12 v13 dp0 dp1 dv13 hO) (cwV 5 hts gX3_outcome_X3_outcome rfl rfl rfl (by decide +kernel) ⟨Nat.le_of_ble_eq_true rfl, Nat.le_of_ble_eq_true rfl⟩) (dk_at325 hW) rfl hK hT hW hS rfl hl.1 rfl (Nat.le_of_ble_eq_true rfl) dX3_outcome_96 ⟨Nat.zero_le _, Nat.zero_le _⟩ (fun v14 I14 H14 L14 hp14 hW hS => ?_)
        obtain ⟨hF14, hO, hc14⟩ := hp14
        have hF := dkF_call hF hF14 rfl
        obtain ⟨dv14, -⟩ := hc14
        refine va_mmin hx hb (by rw [hml]; exact hl.1.symm) hown (hts (.methodLink RX3 95 Lib.Math.min.name) (List.mem_of_getElem? (i := 1) rfl)) (hts (.static Lib.Math.min.name) (List.mem_of_getElem? (i := 2) rfl)) (hts (.initialized "java/lang/Math") (List.mem_of_getElem? (i := 3) rfl)) (hts (.code Lib.Math.min.name Lib.Math.min.code 2 (some .int)) (List.mem_of_getElem? (i := 4) rfl)) (Nat.le_of_ble_eq_true rfl) (Nat.le_of_ble_eq_true rfl) (Nat.zero_le _) (Nat.zero_le _) dX3_outcome_99 ?_
        refine lv_topi (fun v15 ev15 => ?_)
        have dv15 : dkN [(-63, 63)] v15 := by rw [ev15]; exact dkN_min dv7 dv14 rfl
        exact W.iret (v := v15) hx hb hr (fun t ht hW9 => ⟨⟨v15, I14, rfl, ⟨hF, hO, ⟨dkN_sub dv15 rfl, trivial⟩⟩, dkW_eq ht hW⟩, hS.F ht⟩) hS.2.2 dX3_outcome_102
      ·
        have d16 : dkN [(0, 0)] v8 := dkN_eq1 dv8 (dkN_lit (x := 0) (0) rfl) (congrArg Int32.toInt c9) rfl
        refine lv_iload_n hx hb dX3_outcome_43 rfl (lv_at hl 4 rfl) ?_
        refine lv_iconst (v := 1) hx hb dX3_outcome_44 (by decide) ?_
        refine lv_iadd hx hb dX3_outcome_45 ?_
        refine lv_topi (fun v17 ev17 => ?_)
        refine lv_bipush (v := 9) hx hb dX3_outcome_46 (by decide) ?_
        refine va_mmin hx hb (by rw [hml]; exact hl.1.symm) hown (hts (.methodLink RX3 95 Lib.Math.min.name) (List.mem_of_getElem? (i := 1) rfl)) (hts (.static Lib.Math.min.name) (List.mem_of_getElem? (i := 2) rfl)) (hts (.initialized "java/lang/Math") (List.mem_of_getElem? (i := 3) rfl)) (hts (.code Lib.Math.min.name Lib.Math.min.code 2 (some .int)) (List.mem_of_getElem? (i := 4) rfl)) (Nat.le_of_ble_eq_true rfl) (Nat.le_of_ble_eq_true rfl) (Nat.zero_le _) (Nat.zero_le _) dX3_outcome_48 ?_
        refine lv_topi (fun v18 ev18 => ?_)
        have dv18 : dkN [(-2147483648, 9)] v18 := by rw [ev18]; exact dkN_min (dkN_top v17) (dkN_lit (x := 9) (9) rfl) rfl
        refine lv_istore (lv' := [(7, .int v18), (6, .int v7), (0, .ref (z + 325)), (1, .int p0), (2, .int p1), (3, .int p2), (4, .int p3), (5, .int p4)]) hx hb dX3_outcome_51 hl (by decide) rfl (fun ls hl => ?_)
        refine lv_iload hx hb dX3_outcome_53 (lv_at hl 1 rfl) ?_
        refine lv_aload_n hx hb dX3_outcome_55 rfl (lv_at hl 2 rfl) ?_
        refine lv_iload_n hx hb dX3_outcome_56 rfl (lv_at hl 3 rfl) ?_
        refine lv_iload_n hx hb dX3_outcome_57 rfl (lv_at hl 4 rfl) ?_
        refine lv_iload hx hb dX3_outcome_58 (lv_at hl 0 rfl) ?_
        refine lv_iload hx hb dX3_outcome_60 (lv_at hl 6 rfl) ?_
        refine lv_iload hx hb dX3_outcome_62 (lv_at hl 7 rfl) ?_
        refine lv_iconst (v := 1) hx hb dX3_outcome_64 (by decide) ?_
        refine lv_isub hx hb dX3_outcome_65 ?_
        refine lv_topi (fun v19 ev19 => ?_)
        have dv19 : dkN [(0, 1)] v19 := by rw [ev19]; exact dkN_subt d4 (dkN_lit (x := 1) (1) rfl) rfl
        refine dk_Vi (As := [.int p0, .int p1, .int v18, .int p3, .int v19]) (rest := [.int v7]) ⟨hx, hb, hml, hown, hts⟩ (c_X3_outcome_3 l g z I7 p0 p1 v18 p3 v19 dp0 dp1 dv19 hO) (cwV 5 hts gX3_outcome_X3_outcome rfl rfl rfl (by decide +kernel) ⟨Nat.le_of_ble_eq_true rfl, Nat.le_of_ble_eq_true rfl⟩) (dk_at325 hW) rfl hK hT hW hS rfl hl.1 rfl (Nat.le_of_ble_eq_true rfl) dX3_outcome_66 ⟨Nat.zero_le _, Nat.zero_le _⟩ (fun v20 I20 H20 L20 hp20 hW hS => ?_)
        obtain ⟨hF20, hO, hc20⟩ := hp20
        have hF := dkF_call hF hF20 rfl
        obtain ⟨dv20, -⟩ := hc20
        refine va_mmax hx hb (by rw [hml]; exact hl.1.symm) hown (hts (.methodLink RX3 101 Lib.Math.max.name) (List.mem_of_getElem? (i := 5) rfl)) (hts (.static Lib.Math.max.name) (List.mem_of_getElem? (i := 6) rfl)) (hts (.initialized "java/lang/Math") (List.mem_of_getElem? (i := 3) rfl)) (hts (.code Lib.Math.max.name Lib.Math.max.code 2 (some .int)) (List.mem_of_getElem? (i := 7) rfl)) (Nat.le_of_ble_eq_true rfl) (Nat.le_of_ble_eq_true rfl) (Nat.zero_le _) (Nat.zero_le _) dX3_outcome_69 ?_
        refine lv_topi (fun v21 ev21 => ?_)
        have dv21 : dkN [(-63, 63)] v21 := by rw [ev21]; exact dkN_max dv7 dv20 rfl
        exact W.iret (v := v21) hx hb hr (fun t ht hW9 => ⟨⟨v21, I20, rfl, ⟨hF, hO, ⟨dkN_sub dv21 rfl, trivial⟩⟩, dkW_eq ht hW⟩, hS.F ht⟩) hS.2.2 dX3_outcome_72
    ·
      exact (dkN_nil (show dkN [] p4 from dkN_le2 1 (dkN_lit (x := 4) (4) rfl) d4 (dkc_nle c5) rfl)).elim
set_option maxHeartbeats 4000000 in
set_option maxRecDepth 100000 in
theorem c_X3_outcome_1 (l : Launch) (g : dkG) (z : Nat) (I0 : dkI) (p0 : Int32) (p1 : Int32) (p2 : Int32) (p3 : Int32) (p4 : Int32) (dp0 : dkN [(0, 4)] p0) (dp1 : dkN [(0, 4)] p1) (dp4 : dkN [(0, 3)] p4)  (hO : dkOk I0) : Met l yX3_outcome wsX3_outcome (dkR 9) (dkPc g z [.ref (z + 325), .int p0, .int p1, .int p2, .int p3, .int p4] I0) (dkQi g z (fun r I1 => dkF [(326, 326, 0, 4), (326, 326, 11, 11), (326, 326, 15, 17), (327, 327, 0, 4), (328, 328, 0, 4), (329, 329, 0, 4), (330, 330, 0, 4), (331, 331, 0, 4), (332, 332, 0, 4), (333, 333, 0, 5), (334, 334, 0, 5), (335, 335, 0, 5), (336, 336, 0, 8)] I0 I1 ∧ dkOk I1 ∧ ((dkN [(-63, 63)] r ∧ True)))) 0 0 (dkA z) := by
  refine Met.ofW (cc := cX3_outcome) (maxL := 8) (ret := (some .int)) (by decide) rfl ?_
  intro p e s m args below meth c s₁ B hml hv
  obtain ⟨ha, hW, hK, hT⟩ := hv
  have hx := B.exec
  have hb := B.bytes
  have hr := B.returns
  have hts := atoms_spec (ws := wsX3_outcome) B.pre
  have hown : s.vm.findClass RX3 = some m.cls := findClass_of_methodNamed B.named
  have hlocks := B.notSynchronized
  have hS : va_S (dkA z) s.heap s.heap [] := va_S.rf
  have hF : dkF [(326, 326, 0, 4), (326, 326, 11, 11), (326, 326, 15, 17), (327, 327, 0, 4), (328, 328, 0, 4), (329, 329, 0, 4), (330, 330, 0, 4), (331, 331, 0, 4), (332, 332, 0, 4), (333, 333, 0, 5), (334, 334, 0, 5), (335, 335, 0, 5), (336, 336, 0, 8)] I0 I0 := dkF_rf _ _
  have hl := lv_entry ([.ref (z + 325), .int p0, .int p1, .int p2, .int p3, .int p4]) (n := 8) (Nat.le_of_ble_eq_true rfl)
  have hgo : entryFrame m args 8 = entryFrame m ([.ref (z + 325), .int p0, .int p1, .int p2, .int p3, .int p4] : List Value).toArray 8 := by rw [ha]
  rw [hgo, lg_entry_eq]
  generalize (lg_sl ([.ref (z + 325), .int p0, .int p1, .int p2, .int p3, .int p4]) ++ List.replicate (8 - (lg_sl ([.ref (z + 325), .int p0, .int p1, .int p2, .int p3, .int p4])).length) Slot.unset).toArray = ls at hl ⊢
  have hl : lv_has ls 8 [(0, .ref (z + 325)), (1, .int p0), (2, .int p1), (3, .int p2), (4, .int p3), (5, .int p4)] := hl
  have C11 : ∀ (I : dkI) (H : Heap) (locs : List Loc) (ls : Array Slot), dkW g z I H → va_S (dkA z) s.heap H locs → dkF [(326, 326, 0, 4), (326, 326, 11, 11), (326, 326, 15, 17), (327, 327, 0, 4), (328, 328, 0, 4), (329, 329, 0, 4), (330, 330, 0, 4), (331, 331, 0, 4), (332, 332, 0, 4), (333, 333, 0, 5), (334, 334, 0, 5), (335, 335, 0, 5), (336, 336, 0, 8)] I0 I → dkOk I → dkN [(0, 0)] p4 → lv_has ls 8 [(0, .ref (z + 325)), (1, .int p0), (2, .int p1), (3, .int p2), (4, .int p3), (5, .int p4)] → W p l e (headSpec wsX3_outcome (dkR 9)).room s m args below meth c H locs 0 0 (MQ below (dkQi g z (fun r I1 => dkF [(326, 326, 0, 4), (326, 326, 11, 11), (326, 326, 15, 17), (327, 327, 0, 4), (328, 328, 0, 4), (329, 329, 0, 4), (330, 330, 0, 4), (331, 331, 0, 4), (332, 332, 0, 4), (333, 333, 0, 5), (334, 334, 0, 5), (335, 335, 0, 5), (336, 336, 0, 8)] I0 I1 ∧ dkOk I1 ∧ ((dkN [(-63, 63)] r ∧ True)))) args s 0 0 (dkA z)) (F0 m 11 ls []) := by
    intro I11_ H locs ls hW hS hF_11 hO r11_0 hl
    have hF := hF_11
    refine lv_aload_n hx hb dX3_outcome_11 rfl (lv_at hl 0 rfl) ?_
    refine lv_iload_n hx hb dX3_outcome_12 rfl (lv_at hl 1 rfl) ?_
    refine lv_iload_n hx hb dX3_outcome_13 rfl (lv_at hl 2 rfl) ?_
    refine lv_iload_n hx hb dX3_outcome_14 rfl (lv_at hl 3 rfl) ?_
    refine lv_iload hx hb dX3_outcome_15 (lv_at hl 4 rfl) ?_
    refine dk_Vi (As := [.int p0, .int p1, .int p2, .int p3]) (rest := []) ⟨hx, hb, hml, hown, hts⟩ (c_X3_margin_0 l g z I11_ p0 p1 p2 p3 dp0 dp1 hO) (cwV 4 hts gX3_outcome_X3_margin rfl rfl rfl (by decide +kernel) ⟨Nat.le_of_ble_eq_true rfl, Nat.le_of_ble_eq_true rfl⟩) (dk_at325 hW) rfl hK hT hW hS rfl hl.1 rfl (Nat.le_of_ble_eq_true rfl) dX3_outcome_17 ⟨Nat.zero_le _, Nat.zero_le _⟩ (fun v1 I1 H1 L1 hp1 hW hS => ?_)
    obtain ⟨hF1, hO, hc1⟩ := hp1
    have hF := dkF_call hF hF1 rfl
    obtain ⟨dv1, -⟩ := hc1
    exact W.iret (v := v1) hx hb hr (fun t ht hW9 => ⟨⟨v1, I1, rfl, ⟨hF, hO, ⟨dkN_sub dv1 rfl, trivial⟩⟩, dkW_eq ht hW⟩, hS.F ht⟩) hS.2.2 dX3_outcome_20
  refine lv_iload hx hb dX3_outcome_0 (lv_at hl 5 rfl) ?_
  refine lv_if_le (tgt := 11) hx hb dX3_outcome_2 (by decide) (fun c2 => ?_) (fun c2 => ?_)
  ·
    have d3 : dkN [(0, 0)] p4 := dkN_le1 0 dp4 (dkN_lit (x := 0) (0) rfl) (dkc_le c2) rfl
    exact C11 I0 _ _ ls  hW hS hF hO (dkN_sub d3 rfl) (lv_sub hl [0, 1, 2, 3, 4, 5] rfl)
  ·
    have d4 : dkN [(1, 3)] p4 := dkN_le2 1 (dkN_lit (x := 0) (0) rfl) dp4 (dkc_nle c2) rfl
    refine lv_iload hx hb dX3_outcome_5 (lv_at hl 5 rfl) ?_
    refine lv_iconst (v := 4) hx hb dX3_outcome_7 (by decide) ?_
    refine lv_icmp_le (tgt := 21) hx hb dX3_outcome_8 (by decide) (fun c5 => ?_) (fun c5 => ?_)
    ·
      refine lv_aload_n hx hb dX3_outcome_21 rfl (lv_at hl 0 rfl) ?_
      refine lv_iload_n hx hb dX3_outcome_22 rfl (lv_at hl 1 rfl) ?_
      refine lv_iload_n hx hb dX3_outcome_23 rfl (lv_at hl 2 rfl) ?_
      refine lv_iload_n hx hb dX3_outcome_24 rfl (lv_at hl 3 rfl) ?_
      refine lv_iload hx hb dX3_outcome_25 (lv_at hl 4 rfl) ?_
      refine lv_iload hx hb dX3_outcome_27 (lv_at hl 5 rfl) ?_
      refine lv_iconst (v := 1) hx hb dX3_outcome_29 (by decide) ?_
      refine lv_isub hx hb dX3_outcome_30 ?_
      refine lv_topi (fun v6 ev6 => ?_)
      have dv6 : dkN [(0, 2)] v6 := by rw [ev6]; exact dkN_subt d4 (dkN_lit (x := 1) (1) rfl) rfl
      refine dk_Vi (As := [.int p0, .int p1, .int p2, .int p3, .int v6]) (rest := []) ⟨hx, hb, hml, hown, hts⟩ (c_X3_outcome_2 l g z I0 p0 p1 p2 p3 v6 dp0 dp1 dv6 hO) (cwV 5 hts gX3_outcome_X3_outcome rfl rfl rfl (by decide +kernel) ⟨Nat.le_of_ble_eq_true rfl, Nat.le_of_ble_eq_true rfl⟩) (dk_at325 hW) rfl hK hT hW hS rfl hl.1 rfl (Nat.le_of_ble_eq_true rfl) dX3_outcome_31 ⟨Nat.zero_le _, Nat.zero_le _⟩ (fun v7 I7 H7 L7 hp7 hW hS => ?_)
      obtain ⟨hF7, hO, hc7⟩ := hp7
      have hF := dkF_call hF hF7 rfl
      obtain ⟨dv7, -⟩ := hc7
      refine lv_istore (lv' := [(6, .int v7), (0, .ref (z + 325)), (1, .int p0), (2, .int p1), (3, .int p2), (4, .int p3), (5, .int p4)]) hx hb dX3_outcome_34 hl (by decide) rfl (fun ls hl => ?_)
      refine lv_iload hx hb dX3_outcome_36 (lv_at hl 6 rfl) ?_
      refine lv_iconst (v := 2) hx hb dX3_outcome_38 (by decide) ?_
      refine lv_irem hx hb dX3_outcome_39 (dkN_ne0 (dkN_lit (x := 2) (2) rfl) rfl) ?_
      refine lv_topi (fun v8 ev8 => ?_)
      have dv8 : dkN [(0, 1)] v8 := by rw [ev8]; exact dkN_rem 2 (by decide) d4 (dkN_lit (x := 2) (2) rfl) rfl
      refine lv_if_ne (tgt := 73) hx hb dX3_outcome_40 (by decide) (fun c9 => ?_) (fun c9 => ?_)
      ·
        have d10 : dkN [(1, 1)] v8 := dkN_ne1 (0) dv8 (dkN_lit (x := 0) (0) rfl) (dk_ne c9) rfl
        refine lv_iload hx hb dX3_outcome_73 (lv_at hl 5 rfl) ?_
        refine lv_iconst (v := 1) hx hb dX3_outcome_75 (by decide) ?_
        refine lv_iadd hx hb dX3_outcome_76 ?_
        refine lv_topi (fun v11 ev11 => ?_)
        refine lv_bipush (v := 9) hx hb dX3_outcome_77 (by decide) ?_
        refine va_mmin hx hb (by rw [hml]; exact hl.1.symm) hown (hts (.methodLink RX3 95 Lib.Math.min.name) (List.mem_of_getElem? (i := 1) rfl)) (hts (.static Lib.Math.min.name) (List.mem_of_getElem? (i := 2) rfl)) (hts (.initialized "java/lang/Math") (List.mem_of_getElem? (i := 3) rfl)) (hts (.code Lib.Math.min.name Lib.Math.min.code 2 (some .int)) (List.mem_of_getElem? (i := 4) rfl)) (Nat.le_of_ble_eq_true rfl) (Nat.le_of_ble_eq_true rfl) (Nat.zero_le _) (Nat.zero_le _) dX3_outcome_79 ?_
        refine lv_topi (fun v12 ev12 => ?_)
        have dv12 : dkN [(-2147483648, 9)] v12 := by rw [ev12]; exact dkN_min (dkN_top v11) (dkN_lit (x := 9) (9) rfl) rfl
        refine lv_istore (lv' := [(7, .int v12), (6, .int v7), (0, .ref (z + 325)), (1, .int p0), (2, .int p1), (3, .int p2), (4, .int p3), (5, .int p4)]) hx hb dX3_outcome_82 hl (by decide) rfl (fun ls hl => ?_)
        refine lv_iload hx hb dX3_outcome_84 (lv_at hl 1 rfl) ?_
        refine lv_aload_n hx hb dX3_outcome_86 rfl (lv_at hl 2 rfl) ?_
        refine lv_iload_n hx hb dX3_outcome_87 rfl (lv_at hl 3 rfl) ?_
        refine lv_iload_n hx hb dX3_outcome_88 rfl (lv_at hl 4 rfl) ?_
        refine lv_iload_n hx hb dX3_outcome_89 rfl (lv_at hl 5 rfl) ?_
        refine lv_iload hx hb dX3_outcome_90 (lv_at hl 0 rfl) ?_
        refine lv_iload hx hb dX3_outcome_92 (lv_at hl 7 rfl) ?_
        refine lv_iconst (v := 1) hx hb dX3_outcome_94 (by decide) ?_
        refine lv_isub hx hb dX3_outcome_95 ?_
        refine lv_topi (fun v13 ev13 => ?_)
        have dv13 : dkN [(0, 2)] v13 := by rw [ev13]; exact dkN_subt d4 (dkN_lit (x := 1) (1) rfl) rfl
        refine dk_Vi (As := [.int p0, .int p1, .int p2, .int v12, .int v13]) (rest := [.int v7]) ⟨hx, hb, hml, hown, hts⟩ (c_X3_outcome_2 l g z I7 p0 p1 p2 v12 v13 dp0 dp1 dv13 hO) (cwV 5 hts gX3_outcome_X3_outcome rfl rfl rfl (by decide +kernel) ⟨Nat.le_of_ble_eq_true rfl, Nat.le_of_ble_eq_true rfl⟩) (dk_at325 hW) rfl hK hT hW hS rfl hl.1 rfl (Nat.le_of_ble_eq_true rfl) dX3_outcome_96 ⟨Nat.zero_le _, Nat.zero_le _⟩ (fun v14 I14 H14 L14 hp14 hW hS => ?_)
        obtain ⟨hF14, hO, hc14⟩ := hp14
        have hF := dkF_call hF hF14 rfl
        obtain ⟨dv14, -⟩ := hc14
        refine va_mmin hx hb (by rw [hml]; exact hl.1.symm) hown (hts (.methodLink RX3 95 Lib.Math.min.name) (List.mem_of_getElem? (i := 1) rfl)) (hts (.static Lib.Math.min.name) (List.mem_of_getElem? (i := 2) rfl)) (hts (.initialized "java/lang/Math") (List.mem_of_getElem? (i := 3) rfl)) (hts (.code Lib.Math.min.name Lib.Math.min.code 2 (some .int)) (List.mem_of_getElem? (i := 4) rfl)) (Nat.le_of_ble_eq_true rfl) (Nat.le_of_ble_eq_true rfl) (Nat.zero_le _) (Nat.zero_le _) dX3_outcome_99 ?_
        refine lv_topi (fun v15 ev15 => ?_)
        have dv15 : dkN [(-63, 63)] v15 := by rw [ev15]; exact dkN_min dv7 dv14 rfl
        exact W.iret (v := v15) hx hb hr (fun t ht hW9 => ⟨⟨v15, I14, rfl, ⟨hF, hO, ⟨dkN_sub dv15 rfl, trivial⟩⟩, dkW_eq ht hW⟩, hS.F ht⟩) hS.2.2 dX3_outcome_102
      ·
        have d16 : dkN [(0, 0)] v8 := dkN_eq1 dv8 (dkN_lit (x := 0) (0) rfl) (congrArg Int32.toInt c9) rfl
        refine lv_iload_n hx hb dX3_outcome_43 rfl (lv_at hl 4 rfl) ?_
        refine lv_iconst (v := 1) hx hb dX3_outcome_44 (by decide) ?_
        refine lv_iadd hx hb dX3_outcome_45 ?_
        refine lv_topi (fun v17 ev17 => ?_)
        refine lv_bipush (v := 9) hx hb dX3_outcome_46 (by decide) ?_
        refine va_mmin hx hb (by rw [hml]; exact hl.1.symm) hown (hts (.methodLink RX3 95 Lib.Math.min.name) (List.mem_of_getElem? (i := 1) rfl)) (hts (.static Lib.Math.min.name) (List.mem_of_getElem? (i := 2) rfl)) (hts (.initialized "java/lang/Math") (List.mem_of_getElem? (i := 3) rfl)) (hts (.code Lib.Math.min.name Lib.Math.min.code 2 (some .int)) (List.mem_of_getElem? (i := 4) rfl)) (Nat.le_of_ble_eq_true rfl) (Nat.le_of_ble_eq_true rfl) (Nat.zero_le _) (Nat.zero_le _) dX3_outcome_48 ?_
        refine lv_topi (fun v18 ev18 => ?_)
        have dv18 : dkN [(-2147483648, 9)] v18 := by rw [ev18]; exact dkN_min (dkN_top v17) (dkN_lit (x := 9) (9) rfl) rfl
        refine lv_istore (lv' := [(7, .int v18), (6, .int v7), (0, .ref (z + 325)), (1, .int p0), (2, .int p1), (3, .int p2), (4, .int p3), (5, .int p4)]) hx hb dX3_outcome_51 hl (by decide) rfl (fun ls hl => ?_)
        refine lv_iload hx hb dX3_outcome_53 (lv_at hl 1 rfl) ?_
        refine lv_aload_n hx hb dX3_outcome_55 rfl (lv_at hl 2 rfl) ?_
        refine lv_iload_n hx hb dX3_outcome_56 rfl (lv_at hl 3 rfl) ?_
        refine lv_iload_n hx hb dX3_outcome_57 rfl (lv_at hl 4 rfl) ?_
        refine lv_iload hx hb dX3_outcome_58 (lv_at hl 0 rfl) ?_
        refine lv_iload hx hb dX3_outcome_60 (lv_at hl 6 rfl) ?_
        refine lv_iload hx hb dX3_outcome_62 (lv_at hl 7 rfl) ?_
        refine lv_iconst (v := 1) hx hb dX3_outcome_64 (by decide) ?_
        refine lv_isub hx hb dX3_outcome_65 ?_
        refine lv_topi (fun v19 ev19 => ?_)
        have dv19 : dkN [(0, 2)] v19 := by rw [ev19]; exact dkN_subt d4 (dkN_lit (x := 1) (1) rfl) rfl
        refine dk_Vi (As := [.int p0, .int p1, .int v18, .int p3, .int v19]) (rest := [.int v7]) ⟨hx, hb, hml, hown, hts⟩ (c_X3_outcome_2 l g z I7 p0 p1 v18 p3 v19 dp0 dp1 dv19 hO) (cwV 5 hts gX3_outcome_X3_outcome rfl rfl rfl (by decide +kernel) ⟨Nat.le_of_ble_eq_true rfl, Nat.le_of_ble_eq_true rfl⟩) (dk_at325 hW) rfl hK hT hW hS rfl hl.1 rfl (Nat.le_of_ble_eq_true rfl) dX3_outcome_66 ⟨Nat.zero_le _, Nat.zero_le _⟩ (fun v20 I20 H20 L20 hp20 hW hS => ?_)
        obtain ⟨hF20, hO, hc20⟩ := hp20
        have hF := dkF_call hF hF20 rfl
        obtain ⟨dv20, -⟩ := hc20
        refine va_mmax hx hb (by rw [hml]; exact hl.1.symm) hown (hts (.methodLink RX3 101 Lib.Math.max.name) (List.mem_of_getElem? (i := 5) rfl)) (hts (.static Lib.Math.max.name) (List.mem_of_getElem? (i := 6) rfl)) (hts (.initialized "java/lang/Math") (List.mem_of_getElem? (i := 3) rfl)) (hts (.code Lib.Math.max.name Lib.Math.max.code 2 (some .int)) (List.mem_of_getElem? (i := 7) rfl)) (Nat.le_of_ble_eq_true rfl) (Nat.le_of_ble_eq_true rfl) (Nat.zero_le _) (Nat.zero_le _) dX3_outcome_69 ?_
        refine lv_topi (fun v21 ev21 => ?_)
        have dv21 : dkN [(-63, 63)] v21 := by rw [ev21]; exact dkN_max dv7 dv20 rfl
        exact W.iret (v := v21) hx hb hr (fun t ht hW9 => ⟨⟨v21, I20, rfl, ⟨hF, hO, ⟨dkN_sub dv21 rfl, trivial⟩⟩, dkW_eq ht hW⟩, hS.F ht⟩) hS.2.2 dX3_outcome_72
    ·
      exact (dkN_nil (show dkN [] p4 from dkN_le2 1 (dkN_lit (x := 4) (4) rfl) d4 (dkc_nle c5) rfl)).elim
set_option maxHeartbeats 4000000 in
set_option maxRecDepth 100000 in
theorem c_X3_outcome_0 (l : Launch) (g : dkG) (z : Nat) (I0 : dkI) (p0 : Int32) (p1 : Int32) (p2 : Int32) (p3 : Int32) (p4 : Int32) (dp0 : dkN [(0, 4)] p0) (dp1 : dkN [(0, 4)] p1) (dp4 : dkN [(0, 4)] p4)  (hO : dkOk I0) : Met l yX3_outcome wsX3_outcome (dkR 10) (dkPc g z [.ref (z + 325), .int p0, .int p1, .int p2, .int p3, .int p4] I0) (dkQi g z (fun r I1 => dkF [(326, 326, 0, 4), (326, 326, 11, 11), (326, 326, 15, 17), (327, 327, 0, 4), (328, 328, 0, 4), (329, 329, 0, 4), (330, 330, 0, 4), (331, 331, 0, 4), (332, 332, 0, 4), (333, 333, 0, 5), (334, 334, 0, 5), (335, 335, 0, 5), (336, 336, 0, 8)] I0 I1 ∧ dkOk I1 ∧ ((dkN [(-63, 63)] r ∧ True)))) 0 0 (dkA z) := by
  refine Met.ofW (cc := cX3_outcome) (maxL := 8) (ret := (some .int)) (by decide) rfl ?_
  intro p e s m args below meth c s₁ B hml hv
  obtain ⟨ha, hW, hK, hT⟩ := hv
  have hx := B.exec
  have hb := B.bytes
  have hr := B.returns
  have hts := atoms_spec (ws := wsX3_outcome) B.pre
  have hown : s.vm.findClass RX3 = some m.cls := findClass_of_methodNamed B.named
  have hlocks := B.notSynchronized
  have hS : va_S (dkA z) s.heap s.heap [] := va_S.rf
  have hF : dkF [(326, 326, 0, 4), (326, 326, 11, 11), (326, 326, 15, 17), (327, 327, 0, 4), (328, 328, 0, 4), (329, 329, 0, 4), (330, 330, 0, 4), (331, 331, 0, 4), (332, 332, 0, 4), (333, 333, 0, 5), (334, 334, 0, 5), (335, 335, 0, 5), (336, 336, 0, 8)] I0 I0 := dkF_rf _ _
  have hl := lv_entry ([.ref (z + 325), .int p0, .int p1, .int p2, .int p3, .int p4]) (n := 8) (Nat.le_of_ble_eq_true rfl)
  have hgo : entryFrame m args 8 = entryFrame m ([.ref (z + 325), .int p0, .int p1, .int p2, .int p3, .int p4] : List Value).toArray 8 := by rw [ha]
  rw [hgo, lg_entry_eq]
  generalize (lg_sl ([.ref (z + 325), .int p0, .int p1, .int p2, .int p3, .int p4]) ++ List.replicate (8 - (lg_sl ([.ref (z + 325), .int p0, .int p1, .int p2, .int p3, .int p4])).length) Slot.unset).toArray = ls at hl ⊢
  have hl : lv_has ls 8 [(0, .ref (z + 325)), (1, .int p0), (2, .int p1), (3, .int p2), (4, .int p3), (5, .int p4)] := hl
  have C11 : ∀ (I : dkI) (H : Heap) (locs : List Loc) (ls : Array Slot), dkW g z I H → va_S (dkA z) s.heap H locs → dkF [(326, 326, 0, 4), (326, 326, 11, 11), (326, 326, 15, 17), (327, 327, 0, 4), (328, 328, 0, 4), (329, 329, 0, 4), (330, 330, 0, 4), (331, 331, 0, 4), (332, 332, 0, 4), (333, 333, 0, 5), (334, 334, 0, 5), (335, 335, 0, 5), (336, 336, 0, 8)] I0 I → dkOk I → dkN [(0, 0)] p4 → lv_has ls 8 [(0, .ref (z + 325)), (1, .int p0), (2, .int p1), (3, .int p2), (4, .int p3), (5, .int p4)] → W p l e (headSpec wsX3_outcome (dkR 10)).room s m args below meth c H locs 0 0 (MQ below (dkQi g z (fun r I1 => dkF [(326, 326, 0, 4), (326, 326, 11, 11), (326, 326, 15, 17), (327, 327, 0, 4), (328, 328, 0, 4), (329, 329, 0, 4), (330, 330, 0, 4), (331, 331, 0, 4), (332, 332, 0, 4), (333, 333, 0, 5), (334, 334, 0, 5), (335, 335, 0, 5), (336, 336, 0, 8)] I0 I1 ∧ dkOk I1 ∧ ((dkN [(-63, 63)] r ∧ True)))) args s 0 0 (dkA z)) (F0 m 11 ls []) := by
    intro I11_ H locs ls hW hS hF_11 hO r11_0 hl
    have hF := hF_11
    refine lv_aload_n hx hb dX3_outcome_11 rfl (lv_at hl 0 rfl) ?_
    refine lv_iload_n hx hb dX3_outcome_12 rfl (lv_at hl 1 rfl) ?_
    refine lv_iload_n hx hb dX3_outcome_13 rfl (lv_at hl 2 rfl) ?_
    refine lv_iload_n hx hb dX3_outcome_14 rfl (lv_at hl 3 rfl) ?_
    refine lv_iload hx hb dX3_outcome_15 (lv_at hl 4 rfl) ?_
    refine dk_Vi (As := [.int p0, .int p1, .int p2, .int p3]) (rest := []) ⟨hx, hb, hml, hown, hts⟩ (c_X3_margin_0 l g z I11_ p0 p1 p2 p3 dp0 dp1 hO) (cwV 4 hts gX3_outcome_X3_margin rfl rfl rfl (by decide +kernel) ⟨Nat.le_of_ble_eq_true rfl, Nat.le_of_ble_eq_true rfl⟩) (dk_at325 hW) rfl hK hT hW hS rfl hl.1 rfl (Nat.le_of_ble_eq_true rfl) dX3_outcome_17 ⟨Nat.zero_le _, Nat.zero_le _⟩ (fun v1 I1 H1 L1 hp1 hW hS => ?_)
    obtain ⟨hF1, hO, hc1⟩ := hp1
    have hF := dkF_call hF hF1 rfl
    obtain ⟨dv1, -⟩ := hc1
    exact W.iret (v := v1) hx hb hr (fun t ht hW9 => ⟨⟨v1, I1, rfl, ⟨hF, hO, ⟨dkN_sub dv1 rfl, trivial⟩⟩, dkW_eq ht hW⟩, hS.F ht⟩) hS.2.2 dX3_outcome_20
  refine lv_iload hx hb dX3_outcome_0 (lv_at hl 5 rfl) ?_
  refine lv_if_le (tgt := 11) hx hb dX3_outcome_2 (by decide) (fun c2 => ?_) (fun c2 => ?_)
  ·
    have d3 : dkN [(0, 0)] p4 := dkN_le1 0 dp4 (dkN_lit (x := 0) (0) rfl) (dkc_le c2) rfl
    exact C11 I0 _ _ ls  hW hS hF hO (dkN_sub d3 rfl) (lv_sub hl [0, 1, 2, 3, 4, 5] rfl)
  ·
    have d4 : dkN [(1, 4)] p4 := dkN_le2 1 (dkN_lit (x := 0) (0) rfl) dp4 (dkc_nle c2) rfl
    refine lv_iload hx hb dX3_outcome_5 (lv_at hl 5 rfl) ?_
    refine lv_iconst (v := 4) hx hb dX3_outcome_7 (by decide) ?_
    refine lv_icmp_le (tgt := 21) hx hb dX3_outcome_8 (by decide) (fun c5 => ?_) (fun c5 => ?_)
    ·
      refine lv_aload_n hx hb dX3_outcome_21 rfl (lv_at hl 0 rfl) ?_
      refine lv_iload_n hx hb dX3_outcome_22 rfl (lv_at hl 1 rfl) ?_
      refine lv_iload_n hx hb dX3_outcome_23 rfl (lv_at hl 2 rfl) ?_
      refine lv_iload_n hx hb dX3_outcome_24 rfl (lv_at hl 3 rfl) ?_
      refine lv_iload hx hb dX3_outcome_25 (lv_at hl 4 rfl) ?_
      refine lv_iload hx hb dX3_outcome_27 (lv_at hl 5 rfl) ?_
      refine lv_iconst (v := 1) hx hb dX3_outcome_29 (by decide) ?_
      refine lv_isub hx hb dX3_outcome_30 ?_
      refine lv_topi (fun v6 ev6 => ?_)
      have dv6 : dkN [(0, 3)] v6 := by rw [ev6]; exact dkN_subt d4 (dkN_lit (x := 1) (1) rfl) rfl
      refine dk_Vi (As := [.int p0, .int p1, .int p2, .int p3, .int v6]) (rest := []) ⟨hx, hb, hml, hown, hts⟩ (c_X3_outcome_1 l g z I0 p0 p1 p2 p3 v6 dp0 dp1 dv6 hO) (cwV 5 hts gX3_outcome_X3_outcome rfl rfl rfl (by decide +kernel) ⟨Nat.le_of_ble_eq_true rfl, Nat.le_of_ble_eq_true rfl⟩) (dk_at325 hW) rfl hK hT hW hS rfl hl.1 rfl (Nat.le_of_ble_eq_true rfl) dX3_outcome_31 ⟨Nat.zero_le _, Nat.zero_le _⟩ (fun v7 I7 H7 L7 hp7 hW hS => ?_)
      obtain ⟨hF7, hO, hc7⟩ := hp7
      have hF := dkF_call hF hF7 rfl
      obtain ⟨dv7, -⟩ := hc7
      refine lv_istore (lv' := [(6, .int v7), (0, .ref (z + 325)), (1, .int p0), (2, .int p1), (3, .int p2), (4, .int p3), (5, .int p4)]) hx hb dX3_outcome_34 hl (by decide) rfl (fun ls hl => ?_)
      refine lv_iload hx hb dX3_outcome_36 (lv_at hl 6 rfl) ?_
      refine lv_iconst (v := 2) hx hb dX3_outcome_38 (by decide) ?_
      refine lv_irem hx hb dX3_outcome_39 (dkN_ne0 (dkN_lit (x := 2) (2) rfl) rfl) ?_
      refine lv_topi (fun v8 ev8 => ?_)
      have dv8 : dkN [(0, 1)] v8 := by rw [ev8]; exact dkN_rem 2 (by decide) d4 (dkN_lit (x := 2) (2) rfl) rfl
      refine lv_if_ne (tgt := 73) hx hb dX3_outcome_40 (by decide) (fun c9 => ?_) (fun c9 => ?_)
      ·
        have d10 : dkN [(1, 1)] v8 := dkN_ne1 (0) dv8 (dkN_lit (x := 0) (0) rfl) (dk_ne c9) rfl
        refine lv_iload hx hb dX3_outcome_73 (lv_at hl 5 rfl) ?_
        refine lv_iconst (v := 1) hx hb dX3_outcome_75 (by decide) ?_
        refine lv_iadd hx hb dX3_outcome_76 ?_
        refine lv_topi (fun v11 ev11 => ?_)
        refine lv_bipush (v := 9) hx hb dX3_outcome_77 (by decide) ?_
        refine va_mmin hx hb (by rw [hml]; exact hl.1.symm) hown (hts (.methodLink RX3 95 Lib.Math.min.name) (List.mem_of_getElem? (i := 1) rfl)) (hts (.static Lib.Math.min.name) (List.mem_of_getElem? (i := 2) rfl)) (hts (.initialized "java/lang/Math") (List.mem_of_getElem? (i := 3) rfl)) (hts (.code Lib.Math.min.name Lib.Math.min.code 2 (some .int)) (List.mem_of_getElem? (i := 4) rfl)) (Nat.le_of_ble_eq_true rfl) (Nat.le_of_ble_eq_true rfl) (Nat.zero_le _) (Nat.zero_le _) dX3_outcome_79 ?_
        refine lv_topi (fun v12 ev12 => ?_)
        have dv12 : dkN [(-2147483648, 9)] v12 := by rw [ev12]; exact dkN_min (dkN_top v11) (dkN_lit (x := 9) (9) rfl) rfl
        refine lv_istore (lv' := [(7, .int v12), (6, .int v7), (0, .ref (z + 325)), (1, .int p0), (2, .int p1), (3, .int p2), (4, .int p3), (5, .int p4)]) hx hb dX3_outcome_82 hl (by decide) rfl (fun ls hl => ?_)
        refine lv_iload hx hb dX3_outcome_84 (lv_at hl 1 rfl) ?_
        refine lv_aload_n hx hb dX3_outcome_86 rfl (lv_at hl 2 rfl) ?_
        refine lv_iload_n hx hb dX3_outcome_87 rfl (lv_at hl 3 rfl) ?_
        refine lv_iload_n hx hb dX3_outcome_88 rfl (lv_at hl 4 rfl) ?_
        refine lv_iload_n hx hb dX3_outcome_89 rfl (lv_at hl 5 rfl) ?_
        refine lv_iload hx hb dX3_outcome_90 (lv_at hl 0 rfl) ?_
        refine lv_iload hx hb dX3_outcome_92 (lv_at hl 7 rfl) ?_
        refine lv_iconst (v := 1) hx hb dX3_outcome_94 (by decide) ?_
        refine lv_isub hx hb dX3_outcome_95 ?_
        refine lv_topi (fun v13 ev13 => ?_)
        have dv13 : dkN [(0, 3)] v13 := by rw [ev13]; exact dkN_subt d4 (dkN_lit (x := 1) (1) rfl) rfl
        refine dk_Vi (As := [.int p0, .int p1, .int p2, .int v12, .int v13]) (rest := [.int v7]) ⟨hx, hb, hml, hown, hts⟩ (c_X3_outcome_1 l g z I7 p0 p1 p2 v12 v13 dp0 dp1 dv13 hO) (cwV 5 hts gX3_outcome_X3_outcome rfl rfl rfl (by decide +kernel) ⟨Nat.le_of_ble_eq_true rfl, Nat.le_of_ble_eq_true rfl⟩) (dk_at325 hW) rfl hK hT hW hS rfl hl.1 rfl (Nat.le_of_ble_eq_true rfl) dX3_outcome_96 ⟨Nat.zero_le _, Nat.zero_le _⟩ (fun v14 I14 H14 L14 hp14 hW hS => ?_)
        obtain ⟨hF14, hO, hc14⟩ := hp14
        have hF := dkF_call hF hF14 rfl
        obtain ⟨dv14, -⟩ := hc14
        refine va_mmin hx hb (by rw [hml]; exact hl.1.symm) hown (hts (.methodLink RX3 95 Lib.Math.min.name) (List.mem_of_getElem? (i := 1) rfl)) (hts (.static Lib.Math.min.name) (List.mem_of_getElem? (i := 2) rfl)) (hts (.initialized "java/lang/Math") (List.mem_of_getElem? (i := 3) rfl)) (hts (.code Lib.Math.min.name Lib.Math.min.code 2 (some .int)) (List.mem_of_getElem? (i := 4) rfl)) (Nat.le_of_ble_eq_true rfl) (Nat.le_of_ble_eq_true rfl) (Nat.zero_le _) (Nat.zero_le _) dX3_outcome_99 ?_
        refine lv_topi (fun v15 ev15 => ?_)
        have dv15 : dkN [(-63, 63)] v15 := by rw [ev15]; exact dkN_min dv7 dv14 rfl
        exact W.iret (v := v15) hx hb hr (fun t ht hW9 => ⟨⟨v15, I14, rfl, ⟨hF, hO, ⟨dkN_sub dv15 rfl, trivial⟩⟩, dkW_eq ht hW⟩, hS.F ht⟩) hS.2.2 dX3_outcome_102
      ·
        have d16 : dkN [(0, 0)] v8 := dkN_eq1 dv8 (dkN_lit (x := 0) (0) rfl) (congrArg Int32.toInt c9) rfl
        refine lv_iload_n hx hb dX3_outcome_43 rfl (lv_at hl 4 rfl) ?_
        refine lv_iconst (v := 1) hx hb dX3_outcome_44 (by decide) ?_
        refine lv_iadd hx hb dX3_outcome_45 ?_
        refine lv_topi (fun v17 ev17 => ?_)
        refine lv_bipush (v := 9) hx hb dX3_outcome_46 (by decide) ?_
        refine va_mmin hx hb (by rw [hml]; exact hl.1.symm) hown (hts (.methodLink RX3 95 Lib.Math.min.name) (List.mem_of_getElem? (i := 1) rfl)) (hts (.static Lib.Math.min.name) (List.mem_of_getElem? (i := 2) rfl)) (hts (.initialized "java/lang/Math") (List.mem_of_getElem? (i := 3) rfl)) (hts (.code Lib.Math.min.name Lib.Math.min.code 2 (some .int)) (List.mem_of_getElem? (i := 4) rfl)) (Nat.le_of_ble_eq_true rfl) (Nat.le_of_ble_eq_true rfl) (Nat.zero_le _) (Nat.zero_le _) dX3_outcome_48 ?_
        refine lv_topi (fun v18 ev18 => ?_)
        have dv18 : dkN [(-2147483648, 9)] v18 := by rw [ev18]; exact dkN_min (dkN_top v17) (dkN_lit (x := 9) (9) rfl) rfl
        refine lv_istore (lv' := [(7, .int v18), (6, .int v7), (0, .ref (z + 325)), (1, .int p0), (2, .int p1), (3, .int p2), (4, .int p3), (5, .int p4)]) hx hb dX3_outcome_51 hl (by decide) rfl (fun ls hl => ?_)
        refine lv_iload hx hb dX3_outcome_53 (lv_at hl 1 rfl) ?_
        refine lv_aload_n hx hb dX3_outcome_55 rfl (lv_at hl 2 rfl) ?_
        refine lv_iload_n hx hb dX3_outcome_56 rfl (lv_at hl 3 rfl) ?_
        refine lv_iload_n hx hb dX3_outcome_57 rfl (lv_at hl 4 rfl) ?_
        refine lv_iload hx hb dX3_outcome_58 (lv_at hl 0 rfl) ?_
        refine lv_iload hx hb dX3_outcome_60 (lv_at hl 6 rfl) ?_
        refine lv_iload hx hb dX3_outcome_62 (lv_at hl 7 rfl) ?_
        refine lv_iconst (v := 1) hx hb dX3_outcome_64 (by decide) ?_
        refine lv_isub hx hb dX3_outcome_65 ?_
        refine lv_topi (fun v19 ev19 => ?_)
        have dv19 : dkN [(0, 3)] v19 := by rw [ev19]; exact dkN_subt d4 (dkN_lit (x := 1) (1) rfl) rfl
        refine dk_Vi (As := [.int p0, .int p1, .int v18, .int p3, .int v19]) (rest := [.int v7]) ⟨hx, hb, hml, hown, hts⟩ (c_X3_outcome_1 l g z I7 p0 p1 v18 p3 v19 dp0 dp1 dv19 hO) (cwV 5 hts gX3_outcome_X3_outcome rfl rfl rfl (by decide +kernel) ⟨Nat.le_of_ble_eq_true rfl, Nat.le_of_ble_eq_true rfl⟩) (dk_at325 hW) rfl hK hT hW hS rfl hl.1 rfl (Nat.le_of_ble_eq_true rfl) dX3_outcome_66 ⟨Nat.zero_le _, Nat.zero_le _⟩ (fun v20 I20 H20 L20 hp20 hW hS => ?_)
        obtain ⟨hF20, hO, hc20⟩ := hp20
        have hF := dkF_call hF hF20 rfl
        obtain ⟨dv20, -⟩ := hc20
        refine va_mmax hx hb (by rw [hml]; exact hl.1.symm) hown (hts (.methodLink RX3 101 Lib.Math.max.name) (List.mem_of_getElem? (i := 5) rfl)) (hts (.static Lib.Math.max.name) (List.mem_of_getElem? (i := 6) rfl)) (hts (.initialized "java/lang/Math") (List.mem_of_getElem? (i := 3) rfl)) (hts (.code Lib.Math.max.name Lib.Math.max.code 2 (some .int)) (List.mem_of_getElem? (i := 7) rfl)) (Nat.le_of_ble_eq_true rfl) (Nat.le_of_ble_eq_true rfl) (Nat.zero_le _) (Nat.zero_le _) dX3_outcome_69 ?_
        refine lv_topi (fun v21 ev21 => ?_)
        have dv21 : dkN [(-63, 63)] v21 := by rw [ev21]; exact dkN_max dv7 dv20 rfl
        exact W.iret (v := v21) hx hb hr (fun t ht hW9 => ⟨⟨v21, I20, rfl, ⟨hF, hO, ⟨dkN_sub dv21 rfl, trivial⟩⟩, dkW_eq ht hW⟩, hS.F ht⟩) hS.2.2 dX3_outcome_72
    ·
      exact (dkN_nil (show dkN [] p4 from dkN_le2 1 (dkN_lit (x := 4) (4) rfl) d4 (dkc_nle c5) rfl)).elim
set_option maxHeartbeats 4000000 in
set_option maxRecDepth 100000 in
theorem c_X5_shows_0 (l : Launch) (g : dkG) (z : Nat) (I0 : dkI) (p0 : Int32) (p1 : Int32) (p2 : Int32)  (hO : dkOk I0) : Met l yX5_shows wsX5_shows (dkR 11) (dkPc g z [.ref (z + 0), .int p0, .int p1, .int p2] I0) (dkQi g z (fun r I1 => dkF [(326, 326, 0, 4), (326, 326, 11, 11), (326, 326, 15, 17), (327, 327, 0, 4), (328, 328, 0, 4), (329, 329, 0, 4), (330, 330, 0, 4), (331, 331, 0, 4), (332, 332, 0, 4), (333, 333, 0, 5), (334, 334, 0, 5), (335, 335, 0, 5), (336, 336, 0, 8)] I0 I1 ∧ dkOk I1 ∧ ((dkN [(-1000001, -1000001)] r ∧ True) ∨ (dkN [(-63, 63)] r ∧ dkN [(0, 4)] p0 ∧ dkN [(0, 4)] p1 ∧ dkN [(0, 2)] p2 ∧ dkN [(1, 5)] (I1 25 4) ∧ True)))) 0 0 (dkA z) := by
  refine Met.ofW (cc := cX5_shows) (maxL := 4) (ret := (some .int)) (by decide) rfl ?_
  intro p e s m args below meth c s₁ B hml hv
  obtain ⟨ha, hW, hK, hT⟩ := hv
  have hx := B.exec
  have hb := B.bytes
  have hr := B.returns
  have hts := atoms_spec (ws := wsX5_shows) B.pre
  have hown : s.vm.findClass RX5 = some m.cls := findClass_of_methodNamed B.named
  have hlocks := B.notSynchronized
  have hS : va_S (dkA z) s.heap s.heap [] := va_S.rf
  have hF : dkF [(326, 326, 0, 4), (326, 326, 11, 11), (326, 326, 15, 17), (327, 327, 0, 4), (328, 328, 0, 4), (329, 329, 0, 4), (330, 330, 0, 4), (331, 331, 0, 4), (332, 332, 0, 4), (333, 333, 0, 5), (334, 334, 0, 5), (335, 335, 0, 5), (336, 336, 0, 8)] I0 I0 := dkF_rf _ _
  have hl := lv_entry ([.ref (z + 0), .int p0, .int p1, .int p2]) (n := 4) (Nat.le_of_ble_eq_true rfl)
  have hgo : entryFrame m args 4 = entryFrame m ([.ref (z + 0), .int p0, .int p1, .int p2] : List Value).toArray 4 := by rw [ha]
  rw [hgo, lg_entry_eq]
  generalize (lg_sl ([.ref (z + 0), .int p0, .int p1, .int p2]) ++ List.replicate (4 - (lg_sl ([.ref (z + 0), .int p0, .int p1, .int p2])).length) Slot.unset).toArray = ls at hl ⊢
  have hl : lv_has ls 4 [(0, .ref (z + 0)), (1, .int p0), (2, .int p1), (3, .int p2)] := hl
  refine lv_aload_n hx hb dX5_shows_0 rfl (lv_at hl 0 rfl) ?_
  refine lv_iload_n hx hb dX5_shows_1 rfl (lv_at hl 1 rfl) ?_
  refine dk_Vi (As := [.int p0]) (rest := []) ⟨hx, hb, hml, hown, hts⟩ (c_X5_isPerson_0 l g z I0 p0 hO) (cwV 1 hts gX5_shows_X5_isPerson rfl rfl rfl (by decide +kernel) ⟨Nat.le_of_ble_eq_true rfl, Nat.le_of_ble_eq_true rfl⟩) (dk_at0 hW) rfl hK hT hW hS rfl hl.1 rfl (Nat.le_of_ble_eq_true rfl) dX5_shows_2 ⟨Nat.zero_le _, Nat.zero_le _⟩ (fun v1 I1 H1 L1 hp1 hW hS => ?_)
  obtain ⟨hF1, hO, hc1⟩ := hp1
  have hF := dkF_call hF hF1 rfl
  rcases hc1 with ⟨dv1, -⟩ | hc1
  ·
    refine lv_if_eq (tgt := 29) hx hb dX5_shows_5 (by decide) (fun c2 => ?_) (fun c2 => ?_)
    ·
      refine lv_ldc (v := (-1000001)) hx hb hown (hts (.constant RX5 70 (-1000001)) (List.mem_of_getElem? (i := 1) rfl)) dX5_shows_29 ?_
      exact W.iret (v := (-1000001)) hx hb hr (fun t ht hW9 => ⟨⟨(-1000001), I1, rfl, ⟨hF, hO, Or.inl ⟨dkN_sub (dkN_lit (x := (-1000001)) (-1000001) rfl) rfl, trivial⟩⟩, dkW_eq ht hW⟩, hS.F ht⟩) hS.2.2 dX5_shows_31
    ·
      exact (dkN_nil (show dkN [] v1 from dkN_ne1 (0) dv1 (dkN_lit (x := 0) (0) rfl) (dk_ne c2) rfl)).elim
  ·
    obtain ⟨dv1, a1_0, f1_25_4, -⟩ := hc1
    have d3 : dkN [(0, 4)] p0 := dkN_eq1 (dkN_top p0) a1_0 rfl rfl
    refine lv_if_eq (tgt := 29) hx hb dX5_shows_5 (by decide) (fun c4 => ?_) (fun c4 => ?_)
    ·
      exact (dkN_nil (show dkN [] v1 from dkN_eq1 dv1 (dkN_lit (x := 0) (0) rfl) (congrArg Int32.toInt c4) rfl)).elim
    ·
      refine lv_aload_n hx hb dX5_shows_8 rfl (lv_at hl 0 rfl) ?_
      refine lv_iload_n hx hb dX5_shows_9 rfl (lv_at hl 2 rfl) ?_
      refine dk_Vi (As := [.int p1]) (rest := []) ⟨hx, hb, hml, hown, hts⟩ (c_X5_isPerson_0 l g z I1 p1 hO) (cwV 1 hts gX5_shows_X5_isPerson rfl rfl rfl (by decide +kernel) ⟨Nat.le_of_ble_eq_true rfl, Nat.le_of_ble_eq_true rfl⟩) (dk_at0 hW) rfl hK hT hW hS rfl hl.1 rfl (Nat.le_of_ble_eq_true rfl) dX5_shows_10 ⟨Nat.zero_le _, Nat.zero_le _⟩ (fun v5 I5 H5 L5 hp5 hW hS => ?_)
      obtain ⟨hF5, hO, hc5⟩ := hp5
      have hF := dkF_call hF hF5 rfl
      rcases hc5 with ⟨dv5, -⟩ | hc5
      ·
        refine lv_if_eq (tgt := 29) hx hb dX5_shows_13 (by decide) (fun c6 => ?_) (fun c6 => ?_)
        ·
          refine lv_ldc (v := (-1000001)) hx hb hown (hts (.constant RX5 70 (-1000001)) (List.mem_of_getElem? (i := 1) rfl)) dX5_shows_29 ?_
          exact W.iret (v := (-1000001)) hx hb hr (fun t ht hW9 => ⟨⟨(-1000001), I5, rfl, ⟨hF, hO, Or.inl ⟨dkN_sub (dkN_lit (x := (-1000001)) (-1000001) rfl) rfl, trivial⟩⟩, dkW_eq ht hW⟩, hS.F ht⟩) hS.2.2 dX5_shows_31
        ·
          exact (dkN_nil (show dkN [] v5 from dkN_ne1 (0) dv5 (dkN_lit (x := 0) (0) rfl) (dk_ne c6) rfl)).elim
      ·
        obtain ⟨dv5, a5_0, f5_25_4, -⟩ := hc5
        have d7 : dkN [(0, 4)] p1 := dkN_eq1 (dkN_top p1) a5_0 rfl rfl
        refine lv_if_eq (tgt := 29) hx hb dX5_shows_13 (by decide) (fun c8 => ?_) (fun c8 => ?_)
        ·
          exact (dkN_nil (show dkN [] v5 from dkN_eq1 dv5 (dkN_lit (x := 0) (0) rfl) (congrArg Int32.toInt c8) rfl)).elim
        ·
          refine lv_iload_n hx hb dX5_shows_16 rfl (lv_at hl 1 rfl) ?_
          refine lv_iload_n hx hb dX5_shows_17 rfl (lv_at hl 2 rfl) ?_
          refine lv_icmp_eq (tgt := 29) hx hb dX5_shows_18 (by decide) (fun c9 => ?_) (fun c9 => ?_)
          ·
            refine lv_ldc (v := (-1000001)) hx hb hown (hts (.constant RX5 70 (-1000001)) (List.mem_of_getElem? (i := 1) rfl)) dX5_shows_29 ?_
            exact W.iret (v := (-1000001)) hx hb hr (fun t ht hW9 => ⟨⟨(-1000001), I5, rfl, ⟨hF, hO, Or.inl ⟨dkN_sub (dkN_lit (x := (-1000001)) (-1000001) rfl) rfl, trivial⟩⟩, dkW_eq ht hW⟩, hS.F ht⟩) hS.2.2 dX5_shows_31
          ·
            refine lv_iload_n hx hb dX5_shows_21 rfl (lv_at hl 3 rfl) ?_
            refine lv_iconst (v := 2) hx hb dX5_shows_22 (by decide) ?_
            refine dk_Si (As := [.int p2, .int 2]) (rest := []) ⟨hx, hb, hml, hown, hts⟩ (c_X5_isUpTo_1 l g z I5 p2 2 (dkN_lit (x := 2) (2) rfl) hO) (va_cwS 2 hts gX5_shows_X5_isUpTo rfl rfl rfl (by decide +kernel) ⟨Nat.le_of_ble_eq_true rfl, Nat.le_of_ble_eq_true rfl⟩) hK hT hW hS rfl hl.1 rfl (Nat.le_of_ble_eq_true rfl) dX5_shows_23 ⟨Nat.zero_le _, Nat.zero_le _⟩ (fun v10 I10 H10 L10 hp10 hW hS => ?_)
            obtain ⟨hF10, hO, hc10⟩ := hp10
            have hF := dkF_call hF hF10 rfl
            rcases hc10 with ⟨dv10, a10_0, -⟩ | hc10
            ·
              have d11 : dkN [(-2147483648, -1), (3, 2147483647)] p2 := dkN_eq1 (dkN_top p2) a10_0 rfl rfl
              refine lv_if_ne (tgt := 32) hx hb dX5_shows_26 (by decide) (fun c12 => ?_) (fun c12 => ?_)
              ·
                exact (dkN_nil (show dkN [] v10 from dkN_ne1 (0) dv10 (dkN_lit (x := 0) (0) rfl) (dk_ne c12) rfl)).elim
              ·
                refine lv_ldc (v := (-1000001)) hx hb hown (hts (.constant RX5 70 (-1000001)) (List.mem_of_getElem? (i := 1) rfl)) dX5_shows_29 ?_
                exact W.iret (v := (-1000001)) hx hb hr (fun t ht hW9 => ⟨⟨(-1000001), I10, rfl, ⟨hF, hO, Or.inl ⟨dkN_sub (dkN_lit (x := (-1000001)) (-1000001) rfl) rfl, trivial⟩⟩, dkW_eq ht hW⟩, hS.F ht⟩) hS.2.2 dX5_shows_31
            ·
              obtain ⟨dv10, a10_0, -⟩ := hc10
              have d13 : dkN [(0, 2)] p2 := dkN_eq1 (dkN_top p2) a10_0 rfl rfl
              refine lv_if_ne (tgt := 32) hx hb dX5_shows_26 (by decide) (fun c14 => ?_) (fun c14 => ?_)
              ·
                refine lv_aload_n hx hb dX5_shows_32 rfl (lv_at hl 0 rfl) ?_
                refine dk_get (k := 0) hx hb hts iX5_shows_5 hown hK (dk_at0 hW) rfl 8 (by decide) (hts (.fieldLink RX5 51 "DogKings" "seer" "LDogKings$Seer;") (List.mem_of_getElem? (i := 2) rfl)) rfl dX5_shows_33 ?_
                refine lv_iload_n hx hb dX5_shows_36 rfl (lv_at hl 1 rfl) ?_
                refine lv_iload_n hx hb dX5_shows_37 rfl (lv_at hl 2 rfl) ?_
                refine lv_aload_n hx hb dX5_shows_38 rfl (lv_at hl 0 rfl) ?_
                refine dk_get (k := 0) hx hb hts iX5_shows_5 hown hK (dk_at0 hW) rfl 5 (by decide) (hts (.fieldLink RX5 31 "DogKings" "now" "LDogKings$Town;") (List.mem_of_getElem? (i := 3) rfl)) rfl dX5_shows_39 ?_
                refine dk_get (k := 25) hx hb hts iX5_shows_4 hown hK (dk_at25 hW) rfl 8 (by decide) (hts (.fieldLink RX5 143 "DogKings$Town" "bones" "[I") (List.mem_of_getElem? (i := 4) rfl)) rfl dX5_shows_42 ?_
                refine lv_iload_n hx hb dX5_shows_45 rfl (lv_at hl 1 rfl) ?_
                refine dk_ild (k := 29) hx hb hK (dk_at29 hW) (dkN_in (n := 5) d3 rfl) dX5_shows_46 ?_
                refine lv_topi (fun v15 ev15 => ?_)
                refine lv_aload_n hx hb dX5_shows_47 rfl (lv_at hl 0 rfl) ?_
                refine dk_get (k := 0) hx hb hts iX5_shows_5 hown hK (dk_at0 hW) rfl 5 (by decide) (hts (.fieldLink RX5 31 "DogKings" "now" "LDogKings$Town;") (List.mem_of_getElem? (i := 3) rfl)) rfl dX5_shows_48 ?_
                refine dk_get (k := 25) hx hb hts iX5_shows_4 hown hK (dk_at25 hW) rfl 8 (by decide) (hts (.fieldLink RX5 143 "DogKings$Town" "bones" "[I") (List.mem_of_getElem? (i := 4) rfl)) rfl dX5_shows_51 ?_
                refine lv_iload_n hx hb dX5_shows_54 rfl (lv_at hl 2 rfl) ?_
                refine dk_ild (k := 29) hx hb hK (dk_at29 hW) (dkN_in (n := 5) d7 rfl) dX5_shows_55 ?_
                refine lv_topi (fun v16 ev16 => ?_)
                refine lv_iconst (v := 2) hx hb dX5_shows_56 (by decide) ?_
                refine lv_iload_n hx hb dX5_shows_57 rfl (lv_at hl 3 rfl) ?_
                refine lv_imul hx hb dX5_shows_58 ?_
                refine lv_topi (fun v17 ev17 => ?_)
                have dv17 : dkN [(0, 4)] v17 := by rw [ev17]; exact dkN_mulL 2 (by decide) (dkN_lit (x := 2) (2) rfl) d13 rfl
                refine dk_ViN (As := [.int p0, .int p1, .int v15, .int v16, .int v17]) (rest := []) ⟨hx, hb, hml, hown, hts⟩ (c_X3_outcome_0 l g z I10 p0 p1 v15 v16 v17 d3 d7 dv17 hO) ⟨va_cnB 5 hts gX5_shows_X3_outcome_n216 rfl rfl rfl (hK.2.1 (RX5, 216, yX3_outcome) (by decide)) (hts (.initialized RX3) (List.mem_of_getElem? (i := 15) rfl)) (by decide +kernel) ⟨Nat.le_of_ble_eq_true rfl, Nat.le_of_ble_eq_true rfl⟩, (hts (.instanceMethod yX3_outcome) (List.mem_of_getElem? (i := 14) rfl)), (hts (.selects RX3 yX3_outcome yX3_outcome) (List.mem_of_getElem? (i := 16) rfl))⟩ (dk_at325 hW) rfl hK hT hW hS rfl hl.1 rfl (Nat.le_of_ble_eq_true rfl) dX5_shows_59 ⟨Nat.zero_le _, Nat.zero_le _⟩ (fun v18 I18 H18 L18 hp18 hW hS => ?_)
                obtain ⟨hF18, hO, hc18⟩ := hp18
                have hF := dkF_call hF hF18 rfl
                obtain ⟨dv18, -⟩ := hc18
                exact W.iret (v := v18) hx hb hr (fun t ht hW9 => ⟨⟨v18, I18, rfl, ⟨hF, hO, Or.inr (⟨dkN_sub dv18 rfl, dkN_sub d3 rfl, dkN_sub d7 rfl, dkN_sub d13 rfl, (show dkN [(1, 5)] (I18 25 4) from dkN_sub (by rw [hF18 25 4 rfl]; exact (by rw [hF10 25 4 rfl]; exact f5_25_4)) rfl), trivial⟩)⟩, dkW_eq ht hW⟩, hS.F ht⟩) hS.2.2 dX5_shows_62
              ·
                exact (dkN_nil (show dkN [] v10 from dkN_eq1 dv10 (dkN_lit (x := 0) (0) rfl) (congrArg Int32.toInt c14) rfl)).elim
set_option maxHeartbeats 4000000 in
set_option maxRecDepth 100000 in
theorem c_X6_showing_0 (l : Launch) (g : dkG) (z : Nat) (I0 : dkI) (p0 : Int32) (p1 : Int32) (p2 : Int32) (p3 : Int32) (dp0 : dkN [(0, 4)] p0) (dp1 : dkN [(0, 4)] p1) (dp2 : dkN [(0, 0)] p2) (dp3 : dkN [(0, 0)] p3)  (hO : dkOk I0) : Met l yX6_showing wsX6_showing (dkR 6) (dkPc g z [.ref (z + 340), .int p0, .int p1, .int p2, .int p3] I0) (dkQi g z (fun r I1 => dkF [(340, 340, 20, 22), (348, 348, 0, 53)] I0 I1 ∧ dkOk I1 ∧ ((True ∧ dkN [(0, 0)] (I1 340 20) ∧ dkN [(0, 0)] (I1 340 21) ∧ dkN [(0, 0)] (I1 340 22) ∧ dkN [(0, 2147483647)] (I1 348 3) ∧ True)))) 0 0 (dkA z) := by
  refine Met.ofW (cc := cX6_showing) (maxL := 7) (ret := (some .int)) (by decide) rfl ?_
  intro p e s m args below meth c s₁ B hml hv
  obtain ⟨ha, hW, hK, hT⟩ := hv
  have hx := B.exec
  have hb := B.bytes
  have hr := B.returns
  have hts := atoms_spec (ws := wsX6_showing) B.pre
  have hown : s.vm.findClass RX6 = some m.cls := findClass_of_methodNamed B.named
  have hlocks := B.notSynchronized
  have hS : va_S (dkA z) s.heap s.heap [] := va_S.rf
  have hF : dkF [(340, 340, 20, 22), (348, 348, 0, 53)] I0 I0 := dkF_rf _ _
  have hl := lv_entry ([.ref (z + 340), .int p0, .int p1, .int p2, .int p3]) (n := 7) (Nat.le_of_ble_eq_true rfl)
  have hgo : entryFrame m args 7 = entryFrame m ([.ref (z + 340), .int p0, .int p1, .int p2, .int p3] : List Value).toArray 7 := by rw [ha]
  rw [hgo, lg_entry_eq]
  generalize (lg_sl ([.ref (z + 340), .int p0, .int p1, .int p2, .int p3]) ++ List.replicate (7 - (lg_sl ([.ref (z + 340), .int p0, .int p1, .int p2, .int p3])).length) Slot.unset).toArray = ls at hl ⊢
  have hl : lv_has ls 7 [(0, .ref (z + 340)), (1, .int p0), (2, .int p1), (3, .int p2), (4, .int p3)] := hl
  have C7 : ∀ (I : dkI) (H : Heap) (locs : List Loc) (ls : Array Slot) (x7_5 : Int32), dkW g z I H → va_S (dkA z) s.heap H locs → dkF [(340, 340, 20, 22), (348, 348, 0, 53)] I0 I → dkOk I → dkN [(0, 0)] x7_5 → dkN [(0, 0)] (I 340 20) → dkN [(0, 0)] (I 340 21) → dkN [(0, 0)] (I 340 22) → lv_has ls 7 [(0, .ref (z + 340)), (1, .int p0), (2, .int p1), (3, .int p2), (4, .int p3), (5, .int x7_5)] → W p l e (headSpec wsX6_showing (dkR 6)).room s m args below meth c H locs 0 0 (MQ below (dkQi g z (fun r I1 => dkF [(340, 340, 20, 22), (348, 348, 0, 53)] I0 I1 ∧ dkOk I1 ∧ ((True ∧ dkN [(0, 0)] (I1 340 20) ∧ dkN [(0, 0)] (I1 340 21) ∧ dkN [(0, 0)] (I1 340 22) ∧ dkN [(0, 2147483647)] (I1 348 3) ∧ True)))) args s 0 0 (dkA z)) (F0 m 7 ls []) := by
    intro I7_ H locs ls x7_5 hW hS hF_7 hO k7_0 f7_0 f7_1 f7_2 hl
    have hF := hF_7
    refine lv_iload hx hb dX6_showing_7 (lv_at hl 5 rfl) ?_
    refine lv_iconst (v := 2) hx hb dX6_showing_9 (by decide) ?_
    refine lv_iload_n hx hb dX6_showing_10 rfl (lv_at hl 3 rfl) ?_
    refine lv_imul hx hb dX6_showing_11 ?_
    refine lv_topi (fun v1 ev1 => ?_)
    have dv1 : dkN [(0, 0)] v1 := by rw [ev1]; exact dkN_mulR 0 (by decide) (dkN_lit (x := 2) (2) rfl) dp2 rfl
    refine lv_icmp_ge (tgt := 80) hx hb dX6_showing_12 (by decide) (fun c2 => ?_) (fun c2 => ?_)
    ·
      refine lv_aload_n hx hb dX6_showing_80 rfl (lv_at hl 0 rfl) ?_
      refine dk_Vv (As := []) (rest := []) ⟨hx, hb, hml, hown, hts⟩ (c_X6_toBell_0 l g z I7_ hO) (cwV 0 hts gX6_showing_X6_toBell rfl rfl rfl (by decide +kernel) ⟨Nat.le_of_ble_eq_true rfl, Nat.le_of_ble_eq_true rfl⟩) (dk_at340 hW) rfl hK hT hW hS rfl hl.1 rfl (Nat.le_of_ble_eq_true rfl) dX6_showing_81 ⟨Nat.zero_le _, Nat.zero_le _⟩ (fun I3 H3 L3 hp3 hW hS => ?_)
      obtain ⟨hF3, hO, hc3⟩ := hp3
      have hF := dkF_call hF hF3 rfl
      obtain ⟨f3_348_3, -⟩ := hc3
      refine lv_aload_n hx hb dX6_showing_84 rfl (lv_at hl 0 rfl) ?_
      refine dk_get (k := 340) hx hb hts iX6_showing_6 hown hK (dk_at340 hW) rfl 15 (by decide) (hts (.fieldLink RX6 31 "DogKingsModel" "tried" "[I") (List.mem_of_getElem? (i := 1) rfl)) rfl dX6_showing_85 ?_
      refine lv_aload_n hx hb dX6_showing_88 rfl (lv_at hl 0 rfl) ?_
      refine dk_get (k := 340) hx hb hts iX6_showing_6 hown hK (dk_at340 hW) rfl 15 (by decide) (hts (.fieldLink RX6 31 "DogKingsModel" "tried" "[I") (List.mem_of_getElem? (i := 1) rfl)) rfl dX6_showing_89 ?_
      refine lv_bipush (v := 6) hx hb dX6_showing_92 (by decide) ?_
      refine lv_bipush (v := 6) hx hb dX6_showing_94 (by decide) ?_
      refine lv_iload_n hx hb dX6_showing_96 rfl (lv_at hl 1 rfl) ?_
      refine lv_imul hx hb dX6_showing_97 ?_
      refine lv_topi (fun v4 ev4 => ?_)
      have dv4 : dkN [(0, 24)] v4 := by rw [ev4]; exact dkN_mulL 6 (by decide) (dkN_lit (x := 6) (6) rfl) dp0 rfl
      refine lv_iadd hx hb dX6_showing_98 ?_
      refine lv_topi (fun v5 ev5 => ?_)
      have dv5 : dkN [(6, 30)] v5 := by rw [ev5]; exact dkN_add (dkN_lit (x := 6) (6) rfl) dv4 rfl
      refine lv_iconst (v := 4) hx hb dX6_showing_99 (by decide) ?_
      refine lv_iadd hx hb dX6_showing_100 ?_
      refine lv_topi (fun v6 ev6 => ?_)
      have dv6 : dkN [(10, 34)] v6 := by rw [ev6]; exact dkN_add dv5 (dkN_lit (x := 4) (4) rfl) rfl
      refine dk_ild (k := 348) hx hb hK (dk_at348 hW) (dkN_in (n := 54) dv6 rfl) dX6_showing_101 ?_
      refine lv_topi (fun v7 ev7 => ?_)
      refine lv_ldc (v := (-1000000)) hx hb hown (hts (.constant RX6 50 (-1000000)) (List.mem_of_getElem? (i := 2) rfl)) dX6_showing_102 ?_
      refine lv_iconst (v := 0) hx hb dX6_showing_104 (by decide) ?_
      refine dk_Si (As := [.ref (z + 348), .int v7, .int ((-1000000)), .int 0]) (rest := []) ⟨hx, hb, hml, hown, hts⟩ (c_X6_othersIn_1 l g z I3 v7 ((-1000000)) 0 (dkN_sub (dkN_lit (x := (-1000000)) (-1000000) rfl) rfl) hO) (va_cwS 4 hts gX6_showing_X6_othersIn rfl rfl rfl (by decide +kernel) ⟨Nat.le_of_ble_eq_true rfl, Nat.le_of_ble_eq_true rfl⟩) hK hT hW hS rfl hl.1 rfl (Nat.le_of_ble_eq_true rfl) dX6_showing_105 ⟨Nat.zero_le _, Nat.zero_le _⟩ (fun v8 I8 H8 L8 hp8 hW hS => ?_)
      obtain ⟨hF8, hO, hc8⟩ := hp8
      have hF := dkF_call hF hF8 rfl
      obtain ⟨_, -⟩ := hc8
      refine lv_aload_n hx hb dX6_showing_108 rfl (lv_at hl 0 rfl) ?_
      refine dk_get (k := 340) hx hb hts iX6_showing_6 hown hK (dk_at340 hW) rfl 15 (by decide) (hts (.fieldLink RX6 31 "DogKingsModel" "tried" "[I") (List.mem_of_getElem? (i := 1) rfl)) rfl dX6_showing_109 ?_
      refine lv_aload_n hx hb dX6_showing_112 rfl (lv_at hl 0 rfl) ?_
      refine dk_get (k := 340) hx hb hts iX6_showing_6 hown hK (dk_at340 hW) rfl 15 (by decide) (hts (.fieldLink RX6 31 "DogKingsModel" "tried" "[I") (List.mem_of_getElem? (i := 1) rfl)) rfl dX6_showing_113 ?_
      refine lv_bipush (v := 6) hx hb dX6_showing_116 (by decide) ?_
      refine lv_bipush (v := 6) hx hb dX6_showing_118 (by decide) ?_
      refine lv_iload_n hx hb dX6_showing_120 rfl (lv_at hl 2 rfl) ?_
      refine lv_imul hx hb dX6_showing_121 ?_
      refine lv_topi (fun v9 ev9 => ?_)
      have dv9 : dkN [(0, 24)] v9 := by rw [ev9]; exact dkN_mulL 6 (by decide) (dkN_lit (x := 6) (6) rfl) dp1 rfl
      refine lv_iadd hx hb dX6_showing_122 ?_
      refine lv_topi (fun v10 ev10 => ?_)
      have dv10 : dkN [(6, 30)] v10 := by rw [ev10]; exact dkN_add (dkN_lit (x := 6) (6) rfl) dv9 rfl
      refine lv_iconst (v := 4) hx hb dX6_showing_123 (by decide) ?_
      refine lv_iadd hx hb dX6_showing_124 ?_
      refine lv_topi (fun v11 ev11 => ?_)
      have dv11 : dkN [(10, 34)] v11 := by rw [ev11]; exact dkN_add dv10 (dkN_lit (x := 4) (4) rfl) rfl
      refine dk_ild (k := 348) hx hb hK (dk_at348 hW) (dkN_in (n := 54) dv11 rfl) dX6_showing_125 ?_
      refine lv_topi (fun v12 ev12 => ?_)
      refine lv_ldc (v := (-1000000)) hx hb hown (hts (.constant RX6 50 (-1000000)) (List.mem_of_getElem? (i := 2) rfl)) dX6_showing_126 ?_
      refine lv_iconst (v := 0) hx hb dX6_showing_128 (by decide) ?_
      refine dk_Si (As := [.ref (z + 348), .int v12, .int ((-1000000)), .int 0]) (rest := [.int v8]) ⟨hx, hb, hml, hown, hts⟩ (c_X6_othersIn_1 l g z I8 v12 ((-1000000)) 0 (dkN_sub (dkN_lit (x := (-1000000)) (-1000000) rfl) rfl) hO) (va_cwS 4 hts gX6_showing_X6_othersIn rfl rfl rfl (by decide +kernel) ⟨Nat.le_of_ble_eq_true rfl, Nat.le_of_ble_eq_true rfl⟩) hK hT hW hS rfl hl.1 rfl (Nat.le_of_ble_eq_true rfl) dX6_showing_129 ⟨Nat.zero_le _, Nat.zero_le _⟩ (fun v13 I13 H13 L13 hp13 hW hS => ?_)
      obtain ⟨hF13, hO, hc13⟩ := hp13
      have hF := dkF_call hF hF13 rfl
      obtain ⟨_, -⟩ := hc13
      refine lv_isub hx hb dX6_showing_132 ?_
      refine lv_topi (fun v14 ev14 => ?_)
      exact W.iret (v := v14) hx hb hr (fun t ht hW9 => ⟨⟨v14, I13, rfl, ⟨hF, hO, ⟨trivial, (show dkN [(0, 0)] (I13 340 20) from dkN_sub (by rw [hF13 340 20 rfl]; exact (by rw [hF8 340 20 rfl]; exact (by rw [hF3 340 20 rfl]; exact f7_0))) rfl), (show dkN [(0, 0)] (I13 340 21) from dkN_sub (by rw [hF13 340 21 rfl]; exact (by rw [hF8 340 21 rfl]; exact (by rw [hF3 340 21 rfl]; exact f7_1))) rfl), (show dkN [(0, 0)] (I13 340 22) from dkN_sub (by rw [hF13 340 22 rfl]; exact (by rw [hF8 340 22 rfl]; exact (by rw [hF3 340 22 rfl]; exact f7_2))) rfl), (show dkN [(0, 2147483647)] (I13 348 3) from dkN_sub (by rw [hF13 348 3 rfl]; exact (by rw [hF8 348 3 rfl]; exact f3_348_3)) rfl), trivial⟩⟩, dkW_eq ht hW⟩, hS.F ht⟩) hS.2.2 dX6_showing_133
    ·
      exact (dkN_nil (show dkN [] v1 from dkN_le2 1 k7_0 dv1 (dkc_nle c2) rfl)).elim
  refine lv_aload_n hx hb dX6_showing_0 rfl (lv_at hl 0 rfl) ?_
  refine dk_Vv (As := []) (rest := []) ⟨hx, hb, hml, hown, hts⟩ (c_X6_tries_0 l g z I0 hO) (cwV 0 hts gX6_showing_X6_tries rfl rfl rfl (by decide +kernel) ⟨Nat.le_of_ble_eq_true rfl, Nat.le_of_ble_eq_true rfl⟩) (dk_at340 hW) rfl hK hT hW hS rfl hl.1 rfl (Nat.le_of_ble_eq_true rfl) dX6_showing_1 ⟨Nat.zero_le _, Nat.zero_le _⟩ (fun I15 H15 L15 hp15 hW hS => ?_)
  obtain ⟨hF15, hO, hc15⟩ := hp15
  have hF := dkF_call hF hF15 rfl
  obtain ⟨f15_340_20, f15_340_21, f15_340_22, -⟩ := hc15
  refine lv_iconst (v := 0) hx hb dX6_showing_4 (by decide) ?_
  refine lv_istore (lv' := [(5, .int 0), (0, .ref (z + 340)), (1, .int p0), (2, .int p1), (3, .int p2), (4, .int p3)]) hx hb dX6_showing_5 hl (by decide) rfl (fun ls hl => ?_)
  exact C7 I15 _ _ ls 0 hW hS hF hO (dkN_sub (dkN_lit (x := 0) (0) rfl) rfl) (show dkN [(0, 0)] (I15 340 20) from dkN_sub f15_340_20 rfl) (show dkN [(0, 0)] (I15 340 21) from dkN_sub f15_340_21 rfl) (show dkN [(0, 0)] (I15 340 22) from dkN_sub f15_340_22 rfl) (lv_sub hl [1, 2, 3, 4, 5, 0] rfl)
