set_option maxHeartbeats 4000000 in
set_option maxRecDepth 100000 in
theorem c_X6_passes_0 (l : Launch) (g : dkG) (z : Nat) (I0 : dkI)  (hO : dkOk I0) : Met l yX6_passes wsX6_passes (dkR 5) (dkPc g z [.ref (z + 346)] I0) (dkQv g z (fun I1 => dkF [(346, 346, 2, 3), (346, 346, 8, 35), (346, 346, 38, 38), (346, 346, 41, 41), (346, 346, 44, 44), (346, 346, 47, 47), (346, 346, 50, 50), (346, 346, 53, 53)] I0 I1 ∧ dkOk I1 ∧ ((True)))) 0 0 (dkA z) := by
  refine Met.ofW (cc := cX6_passes) (maxL := 1) (ret := none) (by decide) rfl ?_
  intro p e s m args below meth c s₁ B hml hv
  obtain ⟨ha, hW, hK, hT⟩ := hv
  have hx := B.exec
  have hb := B.bytes
  have hr := B.returns
  have hts := atoms_spec (ws := wsX6_passes) B.pre
  have hown : s.vm.findClass RX6 = some m.cls := findClass_of_methodNamed B.named
  have hlocks := B.notSynchronized
  have hS : va_S (dkA z) s.heap s.heap [] := va_S.rf
  have hF : dkF [(346, 346, 2, 3), (346, 346, 8, 35), (346, 346, 38, 38), (346, 346, 41, 41), (346, 346, 44, 44), (346, 346, 47, 47), (346, 346, 50, 50), (346, 346, 53, 53)] I0 I0 := dkF_rf _ _
  have hl := lv_entry ([.ref (z + 346)]) (n := 1) (Nat.le_of_ble_eq_true rfl)
  have hgo : entryFrame m args 1 = entryFrame m ([.ref (z + 346)] : List Value).toArray 1 := by rw [ha]
  rw [hgo, lg_entry_eq]
  generalize (lg_sl ([.ref (z + 346)]) ++ List.replicate (1 - (lg_sl ([.ref (z + 346)])).length) Slot.unset).toArray = ls at hl ⊢
  have hl : lv_has ls 1 [(0, .ref (z + 346))] := hl
  refine lv_aload_n hx hb dX6_passes_0 rfl (lv_at hl 0 rfl) ?_
  refine lv_iconst (v := 0) hx hb dX6_passes_1 (by decide) ?_
  refine lv_iconst (v := 0) hx hb dX6_passes_2 (by decide) ?_
  refine lv_iconst (v := 0) hx hb dX6_passes_3 (by decide) ?_
  refine dk_Sv (As := [.ref (z + 346), .int 0, .int 0, .int 0]) (rest := []) ⟨hx, hb, hml, hown, hts⟩ (c_X6_steps_0 l g z I0 0 0 0 hO) (va_cwS 4 hts gX6_passes_X6_steps rfl rfl rfl (by decide +kernel) ⟨Nat.le_of_ble_eq_true rfl, Nat.le_of_ble_eq_true rfl⟩) hK hT hW hS rfl hl.1 rfl (Nat.le_of_ble_eq_true rfl) dX6_passes_4 ⟨Nat.zero_le _, Nat.zero_le _⟩ (fun I1 H1 L1 hp1 hW hS => ?_)
  obtain ⟨hF1, hO, hi1_0, hc1⟩ := hp1
  have hF := dkF_call hF hF1 rfl
  refine lv_aload_n hx hb dX6_passes_7 rfl (lv_at hl 0 rfl) ?_
  refine lv_iconst (v := 3) hx hb dX6_passes_8 (by decide) ?_
  refine dk_ild (k := 346) hx hb hK (dk_at346 hW) (dkN_in (n := 54) (dkN_lit (x := 3) (3) rfl) rfl) dX6_passes_9 ?_
  refine lv_topi (fun v2 ev2 => ?_)
  have ev2 : v2 = I1 346 3 := ev2
  refine lv_aload_n hx hb dX6_passes_10 rfl (lv_at hl 0 rfl) ?_
  refine lv_iconst (v := 1) hx hb dX6_passes_11 (by decide) ?_
  refine dk_ild (k := 346) hx hb hK (dk_at346 hW) (dkN_in (n := 54) (dkN_lit (x := 1) (1) rfl) rfl) dX6_passes_12 ?_
  refine lv_topi (fun v3 ev3 => ?_)
  have ev3 : v3 = I1 346 1 := ev3
  have dv3 : dkN [(0, 30)] v3 := by rw [ev3]; exact (show dkN [(0, 30)] (I1 346 1) from (hO 346 1))
  refine lv_icmp_ne (tgt := 21) hx hb dX6_passes_13 (by decide) (fun c4 => ?_) (fun c4 => ?_)
  ·
    exact W.vret hx hb hr (fun t ht hW9 => ⟨⟨I1, rfl, ⟨hF, hO, trivial⟩, dkW_eq ht hW⟩, hS.F ht⟩) hS.2.2 dX6_passes_21
  ·
    have d5 : dkN [(0, 30)] v2 := dkN_eq1 (dkN_top v2) dv3 (congrArg Int32.toInt c4) rfl
    have f6 : dkN [(0, 30)] (I1 346 3) := by rw [← ev2]; exact d5
    refine lv_aload_n hx hb dX6_passes_16 rfl (lv_at hl 0 rfl) ?_
    refine dk_Si (As := [.ref (z + 346)]) (rest := []) ⟨hx, hb, hml, hown, hts⟩ (c_X6_rings_0 l g z I1 hO) (va_cwS 1 hts gX6_passes_X6_rings rfl rfl rfl (by decide +kernel) ⟨Nat.le_of_ble_eq_true rfl, Nat.le_of_ble_eq_true rfl⟩) hK hT hW hS rfl hl.1 rfl (Nat.le_of_ble_eq_true rfl) dX6_passes_17 ⟨Nat.zero_le _, Nat.zero_le _⟩ (fun v7 I7 H7 L7 hp7 hW hS => ?_)
    obtain ⟨hF7, hO, hc7⟩ := hp7
    have hF := dkF_call hF hF7 rfl
    obtain ⟨dv7, f7_346_3, -⟩ := hc7
    refine lv_pop hx hb dX6_passes_20 rfl ?_
    exact W.vret hx hb hr (fun t ht hW9 => ⟨⟨I7, rfl, ⟨hF, hO, trivial⟩, dkW_eq ht hW⟩, hS.F ht⟩) hS.2.2 dX6_passes_21
set_option maxHeartbeats 4000000 in
set_option maxRecDepth 100000 in
theorem c_X6_minutes_0 (l : Launch) (g : dkG) (z : Nat) (I0 : dkI) (p0 : Int32)  (hO : dkOk I0) (hP : dkPP I0) : Met l yX6_minutes wsX6_minutes (dkR 6) (dkPc g z [.ref (z + 340), .int p0] I0) (dkQi g z (fun r I1 => dkF [(340, 340, 17, 17), (346, 346, 2, 3), (346, 346, 8, 35), (346, 346, 38, 38), (346, 346, 41, 41), (346, 346, 44, 44), (346, 346, 47, 47), (346, 346, 50, 50), (346, 346, 53, 53), (349, 349, 0, 1295)] I0 I1 ∧ dkOk I1 ∧ dkPP I1 ∧ ((True ∧ True)))) 0 0 (dkA z) := by
  refine Met.ofW (cc := cX6_minutes) (maxL := 3) (ret := (some .int)) (by decide) rfl ?_
  intro p e s m args below meth c s₁ B hml hv
  obtain ⟨ha, hW, hK, hT⟩ := hv
  have hx := B.exec
  have hb := B.bytes
  have hr := B.returns
  have hts := atoms_spec (ws := wsX6_minutes) B.pre
  have hown : s.vm.findClass RX6 = some m.cls := findClass_of_methodNamed B.named
  have hlocks := B.notSynchronized
  have hS : va_S (dkA z) s.heap s.heap [] := va_S.rf
  have hF : dkF [(340, 340, 17, 17), (346, 346, 2, 3), (346, 346, 8, 35), (346, 346, 38, 38), (346, 346, 41, 41), (346, 346, 44, 44), (346, 346, 47, 47), (346, 346, 50, 50), (346, 346, 53, 53), (349, 349, 0, 1295)] I0 I0 := dkF_rf _ _
  have hl := lv_entry ([.ref (z + 340), .int p0]) (n := 3) (Nat.le_of_ble_eq_true rfl)
  have hgo : entryFrame m args 3 = entryFrame m ([.ref (z + 340), .int p0] : List Value).toArray 3 := by rw [ha]
  rw [hgo, lg_entry_eq]
  generalize (lg_sl ([.ref (z + 340), .int p0]) ++ List.replicate (3 - (lg_sl ([.ref (z + 340), .int p0])).length) Slot.unset).toArray = ls at hl ⊢
  have hl : lv_has ls 3 [(0, .ref (z + 340)), (1, .int p0)] := hl
  have C40 : ∀ (n : Nat), ∀ (I : dkI) (H : Heap) (locs : List Loc) (ls : Array Slot) (x40_2 : Int32), (24 - x40_2.toInt).toNat < n → dkW g z I H → va_S (dkA z) s.heap H locs → dkF [(340, 340, 17, 17), (346, 346, 2, 3), (346, 346, 8, 35), (346, 346, 38, 38), (346, 346, 41, 41), (346, 346, 44, 44), (346, 346, 47, 47), (346, 346, 50, 50), (346, 346, 53, 53), (349, 349, 0, 1295)] I0 I → dkOk I → dkPP I → dkN [(0, 24)] x40_2 → dkN [(1, 24)] p0 → dkN [(1, 9)] (I 346 0) → lv_has ls 3 [(0, .ref (z + 340)), (1, .int p0), (2, .int x40_2)] → W p l e (headSpec wsX6_minutes (dkR 6)).room s m args below meth c H locs 0 0 (MQ below (dkQi g z (fun r I1 => dkF [(340, 340, 17, 17), (346, 346, 2, 3), (346, 346, 8, 35), (346, 346, 38, 38), (346, 346, 41, 41), (346, 346, 44, 44), (346, 346, 47, 47), (346, 346, 50, 50), (346, 346, 53, 53), (349, 349, 0, 1295)] I0 I1 ∧ dkOk I1 ∧ dkPP I1 ∧ ((True ∧ True)))) args s 0 0 (dkA z)) (F0 m 40 ls []) := by
    intro n
    induction n with
    | zero => intro I H locs ls x40_2 hn; exact absurd hn (Nat.not_lt_zero _)
    | succ n ih40 =>
      intro I40_ H locs ls x40_2 hn40 hW hS hF_40 hO hP k40_0 r40_0 f40_0 hl
      have hF := hF_40
      refine lv_iload_n hx hb dX6_minutes_40 rfl (lv_at hl 2 rfl) ?_
      refine lv_iload_n hx hb dX6_minutes_41 rfl (lv_at hl 1 rfl) ?_
      refine lv_icmp_ge (tgt := 62) hx hb dX6_minutes_42 (by decide) (fun c1 => ?_) (fun c1 => ?_)
      ·
        have d2 : dkN [(1, 24)] x40_2 := dkN_le2 0 r40_0 k40_0 (dkc_le c1) rfl
        refine lv_aload_n hx hb dX6_minutes_62 rfl (lv_at hl 0 rfl) ?_
        refine dk_get (k := 340) hx hb hts iX6_minutes_6 hown hK (dk_at340 hW) rfl 13 (by decide) (hts (.fieldLink RX6 25 "DogKingsModel" "now" "[I") (List.mem_of_getElem? (i := 3) rfl)) rfl dX6_minutes_63 ?_
        refine lv_iconst (v := 2) hx hb dX6_minutes_66 (by decide) ?_
        refine dk_ild (k := 346) hx hb hK (dk_at346 hW) (dkN_in (n := 54) (dkN_lit (x := 2) (2) rfl) rfl) dX6_minutes_67 ?_
        refine lv_topi (fun v3 ev3 => ?_)
        have ev3 : v3 = I40_ 346 2 := ev3
        exact W.iret (v := v3) hx hb hr (fun t ht hW9 => ⟨⟨v3, I40_, rfl, ⟨hF, hO, hP, ⟨trivial, trivial⟩⟩, dkW_eq ht hW⟩, hS.F ht⟩) hS.2.2 dX6_minutes_68
      ·
        have d4 : dkN [(0, 23)] x40_2 := dkN_le1 1 k40_0 r40_0 (dkc_nle c1) rfl
        refine lv_aload_n hx hb dX6_minutes_45 rfl (lv_at hl 0 rfl) ?_
        refine dk_Vv (As := []) (rest := []) ⟨hx, hb, hml, hown, hts⟩ (c_X6_notes l g z I40_ hO hP) (cwV 0 hts gX6_minutes_X6_notes rfl rfl rfl (by decide +kernel) ⟨Nat.le_of_ble_eq_true rfl, Nat.le_of_ble_eq_true rfl⟩) (dk_at340 hW) rfl hK hT hW hS rfl hl.1 rfl (Nat.le_of_ble_eq_true rfl) dX6_minutes_46 ⟨Nat.zero_le _, Nat.zero_le _⟩ (fun I5 H5 L5 hp5 hW hS => ?_)
        obtain ⟨hF5, hO, hP, hc5⟩ := hp5
        have hF := dkF_call hF hF5 rfl
        obtain ⟨f5_340_17, -⟩ := hc5
        refine lv_aload_n hx hb dX6_minutes_49 rfl (lv_at hl 0 rfl) ?_
        refine dk_get (k := 340) hx hb hts iX6_minutes_6 hown hK (dk_at340 hW) rfl 13 (by decide) (hts (.fieldLink RX6 25 "DogKingsModel" "now" "[I") (List.mem_of_getElem? (i := 3) rfl)) rfl dX6_minutes_50 ?_
        refine dk_Sv (As := [.ref (z + 346)]) (rest := []) ⟨hx, hb, hml, hown, hts⟩ (c_X6_passes_0 l g z I5 hO) (va_cwS 1 hts gX6_minutes_X6_passes rfl rfl rfl (by decide +kernel) ⟨Nat.le_of_ble_eq_true rfl, Nat.le_of_ble_eq_true rfl⟩) hK hT hW hS rfl hl.1 rfl (Nat.le_of_ble_eq_true rfl) dX6_minutes_53 ⟨Nat.zero_le _, Nat.zero_le _⟩ (fun I6 H6 L6 hp6 hW hS => ?_)
        obtain ⟨hF6, hO, hc6⟩ := hp6
        have hF := dkF_call hF hF6 rfl
        have hP := dkPP_F hP hF6 rfl
        obtain ⟨v7, ev7⟩ : ∃ y : Int32, y = x40_2 + 1 := ⟨_, rfl⟩
        have dv7 : dkN [(1, 24)] v7 := by rw [ev7]; exact dkN_add d4 (dkN_lit (x := 1) (1) rfl) rfl
        refine lv_iinc (v := v7) (lv' := [(2, .int v7), (0, .ref (z + 340)), (1, .int p0)]) hx hb dX6_minutes_56 hl (k := 2) rfl (by rw [ev7]; rfl) (by decide) rfl (fun ls hl => ?_)
        refine lv_goto (tgt := 40) hx hb dX6_minutes_59 (by decide) ?_
        exact ih40 I6 _ _ ls v7 (dk_near hn40 (by rw [ev7]; exact dk_inc d4 rfl) (dkN_lt d4 rfl)) hW hS hF hO hP (dkN_sub dv7 rfl) (dkN_sub r40_0 rfl) (show dkN [(1, 9)] (I6 346 0) from dkN_sub (by rw [hF6 346 0 rfl]; exact (by rw [hF5 346 0 rfl]; exact f40_0)) rfl) (lv_sub hl [1, 2, 0] rfl)
  refine lv_aload_n hx hb dX6_minutes_0 rfl (lv_at hl 0 rfl) ?_
  refine dk_Vi (As := []) (rest := []) ⟨hx, hb, hml, hown, hts⟩ (c_X6_isTown_0 l g z I0 hO) (cwV 0 hts gX6_minutes_X6_isTown rfl rfl rfl (by decide +kernel) ⟨Nat.le_of_ble_eq_true rfl, Nat.le_of_ble_eq_true rfl⟩) (dk_at340 hW) rfl hK hT hW hS rfl hl.1 rfl (Nat.le_of_ble_eq_true rfl) dX6_minutes_1 ⟨Nat.zero_le _, Nat.zero_le _⟩ (fun v8 I8 H8 L8 hp8 hW hS => ?_)
  obtain ⟨hF8, hO, hc8⟩ := hp8
  have hF := dkF_call hF hF8 rfl
  have hP := dkPP_F hP hF8 rfl
  rcases hc8 with ⟨dv8, f8_346_0, -⟩ | hc8
  ·
    refine lv_if_ne (tgt := 10) hx hb dX6_minutes_4 (by decide) (fun c9 => ?_) (fun c9 => ?_)
    ·
      exact (dkN_nil (show dkN [] v8 from dkN_ne1 (0) dv8 (dkN_lit (x := 0) (0) rfl) (dk_ne c9) rfl)).elim
    ·
      refine lv_ldc (v := (-1000002)) hx hb hown (hts (.constant RX6 185 (-1000002)) (List.mem_of_getElem? (i := 1) rfl)) dX6_minutes_7 ?_
      exact W.iret (v := (-1000002)) hx hb hr (fun t ht hW9 => ⟨⟨(-1000002), I8, rfl, ⟨hF, hO, hP, ⟨trivial, trivial⟩⟩, dkW_eq ht hW⟩, hS.F ht⟩) hS.2.2 dX6_minutes_9
  ·
    obtain ⟨dv8, f8_346_0, -⟩ := hc8
    refine lv_if_ne (tgt := 10) hx hb dX6_minutes_4 (by decide) (fun c10 => ?_) (fun c10 => ?_)
    ·
      refine lv_iload_n hx hb dX6_minutes_10 rfl (lv_at hl 1 rfl) ?_
      refine lv_iconst (v := 1) hx hb dX6_minutes_11 (by decide) ?_
      refine lv_bipush (v := 24) hx hb dX6_minutes_12 (by decide) ?_
      refine dk_Si (As := [.int p0, .int 1, .int 24]) (rest := []) ⟨hx, hb, hml, hown, hts⟩ (c_X6_in_11 l g z I8 p0 1 24 (dkN_lit (x := 1) (1) rfl) (dkN_lit (x := 24) (24) rfl) hO) (va_cwS 3 hts gX6_minutes_X6_in rfl rfl rfl (by decide +kernel) ⟨Nat.le_of_ble_eq_true rfl, Nat.le_of_ble_eq_true rfl⟩) hK hT hW hS rfl hl.1 rfl (Nat.le_of_ble_eq_true rfl) dX6_minutes_14 ⟨Nat.zero_le _, Nat.zero_le _⟩ (fun v11 I11 H11 L11 hp11 hW hS => ?_)
      obtain ⟨hF11, hO, hc11⟩ := hp11
      have hF := dkF_call hF hF11 rfl
      have hP := dkPP_F hP hF11 rfl
      rcases hc11 with ⟨dv11, a11_0, -⟩ | hc11
      ·
        have d12 : dkN [(-2147483648, 0), (25, 2147483647)] p0 := dkN_eq1 (dkN_top p0) a11_0 rfl rfl
        refine lv_if_ne (tgt := 23) hx hb dX6_minutes_17 (by decide) (fun c13 => ?_) (fun c13 => ?_)
        ·
          exact (dkN_nil (show dkN [] v11 from dkN_ne1 (0) dv11 (dkN_lit (x := 0) (0) rfl) (dk_ne c13) rfl)).elim
        ·
          refine lv_ldc (v := (-1000001)) hx hb hown (hts (.constant RX6 64 (-1000001)) (List.mem_of_getElem? (i := 2) rfl)) dX6_minutes_20 ?_
          exact W.iret (v := (-1000001)) hx hb hr (fun t ht hW9 => ⟨⟨(-1000001), I11, rfl, ⟨hF, hO, hP, ⟨trivial, trivial⟩⟩, dkW_eq ht hW⟩, hS.F ht⟩) hS.2.2 dX6_minutes_22
      ·
        obtain ⟨dv11, a11_0, -⟩ := hc11
        have d14 : dkN [(1, 24)] p0 := dkN_eq1 (dkN_top p0) a11_0 rfl rfl
        refine lv_if_ne (tgt := 23) hx hb dX6_minutes_17 (by decide) (fun c15 => ?_) (fun c15 => ?_)
        ·
          refine lv_aload_n hx hb dX6_minutes_23 rfl (lv_at hl 0 rfl) ?_
          refine dk_get (k := 340) hx hb hts iX6_minutes_6 hown hK (dk_at340 hW) rfl 13 (by decide) (hts (.fieldLink RX6 25 "DogKingsModel" "now" "[I") (List.mem_of_getElem? (i := 3) rfl)) rfl dX6_minutes_24 ?_
          refine lv_iconst (v := 2) hx hb dX6_minutes_27 (by decide) ?_
          refine dk_ild (k := 346) hx hb hK (dk_at346 hW) (dkN_in (n := 54) (dkN_lit (x := 2) (2) rfl) rfl) dX6_minutes_28 ?_
          refine lv_topi (fun v16 ev16 => ?_)
          have ev16 : v16 = I11 346 2 := ev16
          refine lv_sipush (v := 999) hx hb dX6_minutes_29 (by decide) ?_
          refine lv_icmp_lt (tgt := 38) hx hb dX6_minutes_32 (by decide) (fun c17 => ?_) (fun c17 => ?_)
          ·
            have d18 : dkN [(-2147483648, 998)] v16 := dkN_le1 1 (dkN_top v16) (dkN_lit (x := 999) (999) rfl) (dkc_lt c17) rfl
            have f19 : dkN [(-2147483648, 998)] (I11 346 2) := by rw [← ev16]; exact d18
            refine lv_iconst (v := 0) hx hb dX6_minutes_38 (by decide) ?_
            refine lv_istore_n (lv' := [(2, .int 0), (0, .ref (z + 340)), (1, .int p0)]) hx hb dX6_minutes_39 rfl hl (by decide) rfl (fun ls hl => ?_)
            exact C40 _ I11 _ _ ls 0 (Nat.lt_succ_self _) hW hS hF hO hP (dkN_sub (dkN_lit (x := 0) (0) rfl) rfl) (dkN_sub d14 rfl) (show dkN [(1, 9)] (I11 346 0) from dkN_sub (by rw [hF11 346 0 rfl]; exact f8_346_0) rfl) (lv_sub hl [1, 2, 0] rfl)
          ·
            have d20 : dkN [(999, 2147483647)] v16 := dkN_le2 0 (dkN_lit (x := 999) (999) rfl) (dkN_top v16) (dkc_nlt c17) rfl
            have f21 : dkN [(999, 2147483647)] (I11 346 2) := by rw [← ev16]; exact d20
            refine lv_ldc (v := (-1000003)) hx hb hown (hts (.constant RX6 85 (-1000003)) (List.mem_of_getElem? (i := 4) rfl)) dX6_minutes_35 ?_
            exact W.iret (v := (-1000003)) hx hb hr (fun t ht hW9 => ⟨⟨(-1000003), I11, rfl, ⟨hF, hO, hP, ⟨trivial, trivial⟩⟩, dkW_eq ht hW⟩, hS.F ht⟩) hS.2.2 dX6_minutes_37
        ·
          exact (dkN_nil (show dkN [] v11 from dkN_eq1 dv11 (dkN_lit (x := 0) (0) rfl) (congrArg Int32.toInt c15) rfl)).elim
    ·
      exact (dkN_nil (show dkN [] v8 from dkN_eq1 dv8 (dkN_lit (x := 0) (0) rfl) (congrArg Int32.toInt c10) rfl)).elim
set_option maxHeartbeats 4000000 in
set_option maxRecDepth 100000 in
theorem c_X5_isPerson_0 (l : Launch) (g : dkG) (z : Nat) (I0 : dkI) (p0 : Int32)  (hO : dkOk I0) : Met l yX5_isPerson wsX5_isPerson (dkR 0) (dkPc g z [.ref (z + 0), .int p0] I0) (dkQi g z (fun r I1 => dkF [] I0 I1 ∧ dkOk I1 ∧ ((dkN [(0, 0)] r ∧ True) ∨ (dkN [(1, 1)] r ∧ dkN [(0, 4)] p0 ∧ dkN [(1, 5)] (I1 25 4) ∧ True)))) 0 0 (dkA z) := by
  refine Met.ofW (cc := cX5_isPerson) (maxL := 2) (ret := (some .boolean)) (by decide) rfl ?_
  intro p e s m args below meth c s₁ B hml hv
  obtain ⟨ha, hW, hK, hT⟩ := hv
  have hx := B.exec
  have hb := B.bytes
  have hr := B.returns
  have hts := atoms_spec (ws := wsX5_isPerson) B.pre
  have hown : s.vm.findClass RX5 = some m.cls := findClass_of_methodNamed B.named
  have hlocks := B.notSynchronized
  have hS : va_S (dkA z) s.heap s.heap [] := va_S.rf
  have hF : dkF [] I0 I0 := dkF_rf _ _
  have hl := lv_entry ([.ref (z + 0), .int p0]) (n := 2) (Nat.le_of_ble_eq_true rfl)
  have hgo : entryFrame m args 2 = entryFrame m ([.ref (z + 0), .int p0] : List Value).toArray 2 := by rw [ha]
  rw [hgo, lg_entry_eq]
  generalize (lg_sl ([.ref (z + 0), .int p0]) ++ List.replicate (2 - (lg_sl ([.ref (z + 0), .int p0])).length) Slot.unset).toArray = ls at hl ⊢
  have hl : lv_has ls 2 [(0, .ref (z + 0)), (1, .int p0)] := hl
  refine lv_iload_n hx hb dX5_isPerson_0 rfl (lv_at hl 1 rfl) ?_
  refine lv_if_lt (tgt := 19) hx hb dX5_isPerson_1 (by decide) (fun c1 => ?_) (fun c1 => ?_)
  ·
    have d2 : dkN [(-2147483648, -1)] p0 := dkN_le1 1 (dkN_top p0) (dkN_lit (x := 0) (0) rfl) (dkc_lt c1) rfl
    refine lv_iconst (v := 0) hx hb dX5_isPerson_19 (by decide) ?_
    exact W.zret (v := 0) (ty := .boolean) hx hb hr rfl (fun t ht hW9 => ⟨⟨0, I0, rfl, ⟨hF, hO, Or.inl ⟨dkN_sub (dkN_lit (x := 0) (0) rfl) rfl, trivial⟩⟩, dkW_eq ht hW⟩, hS.F ht⟩) hS.2.2 dX5_isPerson_20
  ·
    have d3 : dkN [(0, 2147483647)] p0 := dkN_le2 0 (dkN_lit (x := 0) (0) rfl) (dkN_top p0) (dkc_nlt c1) rfl
    refine lv_iload_n hx hb dX5_isPerson_4 rfl (lv_at hl 1 rfl) ?_
    refine lv_aload_n hx hb dX5_isPerson_5 rfl (lv_at hl 0 rfl) ?_
    refine dk_get (k := 0) hx hb hts iX5_isPerson_5 hown hK (dk_at0 hW) rfl 5 (by decide) (hts (.fieldLink RX5 31 "DogKings" "now" "LDogKings$Town;") (List.mem_of_getElem? (i := 1) rfl)) rfl dX5_isPerson_6 ?_
    refine dk_get (k := 25) hx hb hts iX5_isPerson_4 hown hK (dk_at25 hW) rfl 4 (by decide) (hts (.fieldLink RX5 277 "DogKings$Town" "people" "I") (List.mem_of_getElem? (i := 2) rfl)) rfl dX5_isPerson_9 ?_
    refine lv_topi (fun v4 ev4 => ?_)
    have dv4 : dkN [(0, 5)] v4 := by rw [ev4]; exact (hO 25 4)
    refine lv_icmp_ge (tgt := 19) hx hb dX5_isPerson_12 (by decide) (fun c5 => ?_) (fun c5 => ?_)
    ·
      refine lv_iconst (v := 0) hx hb dX5_isPerson_19 (by decide) ?_
      exact W.zret (v := 0) (ty := .boolean) hx hb hr rfl (fun t ht hW9 => ⟨⟨0, I0, rfl, ⟨hF, hO, Or.inl ⟨dkN_sub (dkN_lit (x := 0) (0) rfl) rfl, trivial⟩⟩, dkW_eq ht hW⟩, hS.F ht⟩) hS.2.2 dX5_isPerson_20
    ·
      have d6 : dkN [(1, 5)] v4 := dkN_le2 1 d3 dv4 (dkc_nle c5) rfl
      have f7 : dkN [(1, 5)] (I0 25 4) := by rw [← ev4]; exact d6
      have d8 : dkN [(0, 4)] p0 := dkN_le1 1 d3 dv4 (dkc_nle c5) rfl
      refine lv_iconst (v := 1) hx hb dX5_isPerson_15 (by decide) ?_
      refine lv_goto (tgt := 20) hx hb dX5_isPerson_16 (by decide) ?_
      exact W.zret (v := 1) (ty := .boolean) hx hb hr rfl (fun t ht hW9 => ⟨⟨1, I0, rfl, ⟨hF, hO, Or.inr (⟨dkN_sub (dkN_lit (x := 1) (1) rfl) rfl, dkN_sub d8 rfl, (show dkN [(1, 5)] (I0 25 4) from dkN_sub f7 rfl), trivial⟩)⟩, dkW_eq ht hW⟩, hS.F ht⟩) hS.2.2 dX5_isPerson_20
set_option maxHeartbeats 4000000 in
set_option maxRecDepth 100000 in
theorem c_X5_isUpTo_3 (l : Launch) (g : dkG) (z : Nat) (I0 : dkI) (p0 : Int32) (p1 : Int32) (dp1 : dkN [(9, 9)] p1)  (hO : dkOk I0) : Met l yX5_isUpTo wsX5_isUpTo (dkR 0) (dkPc g z [.int p0, .int p1] I0) (dkQi g z (fun r I1 => dkF [] I0 I1 ∧ dkOk I1 ∧ ((dkN [(0, 0)] r ∧ dkN [(-2147483648, -1), (10, 2147483647)] p0 ∧ True) ∨ (dkN [(1, 1)] r ∧ dkN [(0, 9)] p0 ∧ True)))) 0 0 (dkA z) := by
  refine Met.ofW (cc := cX5_isUpTo) (maxL := 2) (ret := (some .boolean)) (by decide) rfl ?_
  intro p e s m args below meth c s₁ B hml hv
  obtain ⟨ha, hW, hK, hT⟩ := hv
  have hx := B.exec
  have hb := B.bytes
  have hr := B.returns
  have hts := atoms_spec (ws := wsX5_isUpTo) B.pre
  have hown : s.vm.findClass RX5 = some m.cls := findClass_of_methodNamed B.named
  have hlocks := B.notSynchronized
  have hS : va_S (dkA z) s.heap s.heap [] := va_S.rf
  have hF : dkF [] I0 I0 := dkF_rf _ _
  have hl := lv_entry ([.int p0, .int p1]) (n := 2) (Nat.le_of_ble_eq_true rfl)
  have hgo : entryFrame m args 2 = entryFrame m ([.int p0, .int p1] : List Value).toArray 2 := by rw [ha]
  rw [hgo, lg_entry_eq]
  generalize (lg_sl ([.int p0, .int p1]) ++ List.replicate (2 - (lg_sl ([.int p0, .int p1])).length) Slot.unset).toArray = ls at hl ⊢
  have hl : lv_has ls 2 [(0, .int p0), (1, .int p1)] := hl
  refine lv_iload_n hx hb dX5_isUpTo_0 rfl (lv_at hl 0 rfl) ?_
  refine lv_if_lt (tgt := 13) hx hb dX5_isUpTo_1 (by decide) (fun c1 => ?_) (fun c1 => ?_)
  ·
    have d2 : dkN [(-2147483648, -1)] p0 := dkN_le1 1 (dkN_top p0) (dkN_lit (x := 0) (0) rfl) (dkc_lt c1) rfl
    refine lv_iconst (v := 0) hx hb dX5_isUpTo_13 (by decide) ?_
    exact W.zret (v := 0) (ty := .boolean) hx hb hr rfl (fun t ht hW9 => ⟨⟨0, I0, rfl, ⟨hF, hO, Or.inl ⟨dkN_sub (dkN_lit (x := 0) (0) rfl) rfl, dkN_sub d2 rfl, trivial⟩⟩, dkW_eq ht hW⟩, hS.F ht⟩) hS.2.2 dX5_isUpTo_14
  ·
    have d3 : dkN [(0, 2147483647)] p0 := dkN_le2 0 (dkN_lit (x := 0) (0) rfl) (dkN_top p0) (dkc_nlt c1) rfl
    refine lv_iload_n hx hb dX5_isUpTo_4 rfl (lv_at hl 0 rfl) ?_
    refine lv_iload_n hx hb dX5_isUpTo_5 rfl (lv_at hl 1 rfl) ?_
    refine lv_icmp_gt (tgt := 13) hx hb dX5_isUpTo_6 (by decide) (fun c4 => ?_) (fun c4 => ?_)
    ·
      have d5 : dkN [(10, 2147483647)] p0 := dkN_le2 1 dp1 d3 (dkc_lt c4) rfl
      refine lv_iconst (v := 0) hx hb dX5_isUpTo_13 (by decide) ?_
      exact W.zret (v := 0) (ty := .boolean) hx hb hr rfl (fun t ht hW9 => ⟨⟨0, I0, rfl, ⟨hF, hO, Or.inl ⟨dkN_sub (dkN_lit (x := 0) (0) rfl) rfl, dkN_sub d5 rfl, trivial⟩⟩, dkW_eq ht hW⟩, hS.F ht⟩) hS.2.2 dX5_isUpTo_14
    ·
      have d6 : dkN [(0, 9)] p0 := dkN_le1 0 d3 dp1 (dkc_nlt c4) rfl
      refine lv_iconst (v := 1) hx hb dX5_isUpTo_9 (by decide) ?_
      refine lv_goto (tgt := 14) hx hb dX5_isUpTo_10 (by decide) ?_
      exact W.zret (v := 1) (ty := .boolean) hx hb hr rfl (fun t ht hW9 => ⟨⟨1, I0, rfl, ⟨hF, hO, Or.inr (⟨dkN_sub (dkN_lit (x := 1) (1) rfl) rfl, dkN_sub d6 rfl, trivial⟩)⟩, dkW_eq ht hW⟩, hS.F ht⟩) hS.2.2 dX5_isUpTo_14
set_option maxHeartbeats 4000000 in
set_option maxRecDepth 100000 in
theorem c_X6_in_12 (l : Launch) (g : dkG) (z : Nat) (I0 : dkI) (p0 : Int32) (p1 : Int32) (p2 : Int32) (dp1 : dkN [(0, 0)] p1) (dp2 : dkN [(-1, 4)] p2)  (hO : dkOk I0) : Met l yX6_in wsX6_in (dkR 0) (dkPc g z [.int p0, .int p1, .int p2] I0) (dkQi g z (fun r I1 => dkF [] I0 I1 ∧ dkOk I1 ∧ ((dkN [(0, 0)] r ∧ True) ∨ (dkN [(1, 1)] r ∧ dkN [(0, 4)] p0 ∧ dkN [(0, 4)] p2 ∧ True)))) 0 0 (dkA z) := by
  refine Met.ofW (cc := cX6_in) (maxL := 3) (ret := (some .boolean)) (by decide) rfl ?_
  intro p e s m args below meth c s₁ B hml hv
  obtain ⟨ha, hW, hK, hT⟩ := hv
  have hx := B.exec
  have hb := B.bytes
  have hr := B.returns
  have hts := atoms_spec (ws := wsX6_in) B.pre
  have hown : s.vm.findClass RX6 = some m.cls := findClass_of_methodNamed B.named
  have hlocks := B.notSynchronized
  have hS : va_S (dkA z) s.heap s.heap [] := va_S.rf
  have hF : dkF [] I0 I0 := dkF_rf _ _
  have hl := lv_entry ([.int p0, .int p1, .int p2]) (n := 3) (Nat.le_of_ble_eq_true rfl)
  have hgo : entryFrame m args 3 = entryFrame m ([.int p0, .int p1, .int p2] : List Value).toArray 3 := by rw [ha]
  rw [hgo, lg_entry_eq]
  generalize (lg_sl ([.int p0, .int p1, .int p2]) ++ List.replicate (3 - (lg_sl ([.int p0, .int p1, .int p2])).length) Slot.unset).toArray = ls at hl ⊢
  have hl : lv_has ls 3 [(0, .int p0), (1, .int p1), (2, .int p2)] := hl
  refine lv_iload_n hx hb dX6_in_0 rfl (lv_at hl 0 rfl) ?_
  refine lv_iload_n hx hb dX6_in_1 rfl (lv_at hl 1 rfl) ?_
  refine lv_icmp_lt (tgt := 14) hx hb dX6_in_2 (by decide) (fun c1 => ?_) (fun c1 => ?_)
  ·
    have d2 : dkN [(-2147483648, -1)] p0 := dkN_le1 1 (dkN_top p0) dp1 (dkc_lt c1) rfl
    refine lv_iconst (v := 0) hx hb dX6_in_14 (by decide) ?_
    exact W.zret (v := 0) (ty := .boolean) hx hb hr rfl (fun t ht hW9 => ⟨⟨0, I0, rfl, ⟨hF, hO, Or.inl ⟨dkN_sub (dkN_lit (x := 0) (0) rfl) rfl, trivial⟩⟩, dkW_eq ht hW⟩, hS.F ht⟩) hS.2.2 dX6_in_15
  ·
    have d3 : dkN [(0, 2147483647)] p0 := dkN_le2 0 dp1 (dkN_top p0) (dkc_nlt c1) rfl
    refine lv_iload_n hx hb dX6_in_5 rfl (lv_at hl 0 rfl) ?_
    refine lv_iload_n hx hb dX6_in_6 rfl (lv_at hl 2 rfl) ?_
    refine lv_icmp_gt (tgt := 14) hx hb dX6_in_7 (by decide) (fun c4 => ?_) (fun c4 => ?_)
    ·
      refine lv_iconst (v := 0) hx hb dX6_in_14 (by decide) ?_
      exact W.zret (v := 0) (ty := .boolean) hx hb hr rfl (fun t ht hW9 => ⟨⟨0, I0, rfl, ⟨hF, hO, Or.inl ⟨dkN_sub (dkN_lit (x := 0) (0) rfl) rfl, trivial⟩⟩, dkW_eq ht hW⟩, hS.F ht⟩) hS.2.2 dX6_in_15
    ·
      have d5 : dkN [(0, 4)] p2 := dkN_le2 0 d3 dp2 (dkc_nlt c4) rfl
      have d6 : dkN [(0, 4)] p0 := dkN_le1 0 d3 dp2 (dkc_nlt c4) rfl
      refine lv_iconst (v := 1) hx hb dX6_in_10 (by decide) ?_
      refine lv_goto (tgt := 15) hx hb dX6_in_11 (by decide) ?_
      exact W.zret (v := 1) (ty := .boolean) hx hb hr rfl (fun t ht hW9 => ⟨⟨1, I0, rfl, ⟨hF, hO, Or.inr (⟨dkN_sub (dkN_lit (x := 1) (1) rfl) rfl, dkN_sub d6 rfl, dkN_sub d5 rfl, trivial⟩)⟩, dkW_eq ht hW⟩, hS.F ht⟩) hS.2.2 dX6_in_15
set_option maxHeartbeats 4000000 in
set_option maxRecDepth 100000 in
theorem c_X6_isPerson_0 (l : Launch) (g : dkG) (z : Nat) (I0 : dkI) (p0 : Int32)  (hO : dkOk I0) : Met l yX6_isPerson wsX6_isPerson (dkR 1) (dkPc g z [.ref (z + 340), .int p0] I0) (dkQi g z (fun r I1 => dkF [] I0 I1 ∧ dkOk I1 ∧ ((dkN [(0, 0)] r ∧ True) ∨ (dkN [(1, 1)] r ∧ dkN [(0, 4)] p0 ∧ True)))) 0 0 (dkA z) := by
  refine Met.ofW (cc := cX6_isPerson) (maxL := 2) (ret := (some .boolean)) (by decide) rfl ?_
  intro p e s m args below meth c s₁ B hml hv
  obtain ⟨ha, hW, hK, hT⟩ := hv
  have hx := B.exec
  have hb := B.bytes
  have hr := B.returns
  have hts := atoms_spec (ws := wsX6_isPerson) B.pre
  have hown : s.vm.findClass RX6 = some m.cls := findClass_of_methodNamed B.named
  have hlocks := B.notSynchronized
  have hS : va_S (dkA z) s.heap s.heap [] := va_S.rf
  have hF : dkF [] I0 I0 := dkF_rf _ _
  have hl := lv_entry ([.ref (z + 340), .int p0]) (n := 2) (Nat.le_of_ble_eq_true rfl)
  have hgo : entryFrame m args 2 = entryFrame m ([.ref (z + 340), .int p0] : List Value).toArray 2 := by rw [ha]
  rw [hgo, lg_entry_eq]
  generalize (lg_sl ([.ref (z + 340), .int p0]) ++ List.replicate (2 - (lg_sl ([.ref (z + 340), .int p0])).length) Slot.unset).toArray = ls at hl ⊢
  have hl : lv_has ls 2 [(0, .ref (z + 340)), (1, .int p0)] := hl
  refine lv_iload_n hx hb dX6_isPerson_0 rfl (lv_at hl 1 rfl) ?_
  refine lv_iconst (v := 0) hx hb dX6_isPerson_1 (by decide) ?_
  refine lv_aload_n hx hb dX6_isPerson_2 rfl (lv_at hl 0 rfl) ?_
  refine dk_get (k := 340) hx hb hts iX6_isPerson_6 hown hK (dk_at340 hW) rfl 13 (by decide) (hts (.fieldLink RX6 25 "DogKingsModel" "now" "[I") (List.mem_of_getElem? (i := 1) rfl)) rfl dX6_isPerson_3 ?_
  refine lv_iconst (v := 4) hx hb dX6_isPerson_6 (by decide) ?_
  refine dk_ild (k := 346) hx hb hK (dk_at346 hW) (dkN_in (n := 54) (dkN_lit (x := 4) (4) rfl) rfl) dX6_isPerson_7 ?_
  refine lv_topi (fun v1 ev1 => ?_)
  have ev1 : v1 = I0 346 4 := ev1
  have dv1 : dkN [(0, 5)] v1 := by rw [ev1]; exact (show dkN [(0, 5)] (I0 346 4) from (hO 346 4))
  refine lv_iconst (v := 1) hx hb dX6_isPerson_8 (by decide) ?_
  refine lv_isub hx hb dX6_isPerson_9 ?_
  refine lv_topi (fun v2 ev2 => ?_)
  have dv2 : dkN [(-1, 4)] v2 := by rw [ev2]; exact dkN_subt dv1 (dkN_lit (x := 1) (1) rfl) rfl
  refine dk_Si (As := [.int p0, .int 0, .int v2]) (rest := []) ⟨hx, hb, hml, hown, hts⟩ (c_X6_in_12 l g z I0 p0 0 v2 (dkN_lit (x := 0) (0) rfl) dv2 hO) (va_cwS 3 hts gX6_isPerson_X6_in rfl rfl rfl (by decide +kernel) ⟨Nat.le_of_ble_eq_true rfl, Nat.le_of_ble_eq_true rfl⟩) hK hT hW hS rfl hl.1 rfl (Nat.le_of_ble_eq_true rfl) dX6_isPerson_10 ⟨Nat.zero_le _, Nat.zero_le _⟩ (fun v3 I3 H3 L3 hp3 hW hS => ?_)
  obtain ⟨hF3, hO, hc3⟩ := hp3
  have hF := dkF_call hF hF3 rfl
  rcases hc3 with ⟨dv3, -⟩ | hc3
  ·
    exact W.zret (v := v3) (ty := .boolean) hx hb hr (dkN_zr dv3 rfl) (fun t ht hW9 => ⟨⟨v3, I3, rfl, ⟨hF, hO, Or.inl ⟨dkN_sub dv3 rfl, trivial⟩⟩, dkW_eq ht hW⟩, hS.F ht⟩) hS.2.2 dX6_isPerson_13
  ·
    obtain ⟨dv3, a3_0, a3_2, -⟩ := hc3
    have d4 : dkN [(0, 4)] p0 := dkN_eq1 (dkN_top p0) a3_0 rfl rfl
    have d5 : dkN [(0, 4)] v2 := dkN_eq1 dv2 a3_2 rfl rfl
    exact W.zret (v := v3) (ty := .boolean) hx hb hr (dkN_zr dv3 rfl) (fun t ht hW9 => ⟨⟨v3, I3, rfl, ⟨hF, hO, Or.inr (⟨dkN_sub dv3 rfl, dkN_sub d4 rfl, trivial⟩)⟩, dkW_eq ht hW⟩, hS.F ht⟩) hS.2.2 dX6_isPerson_13
set_option maxHeartbeats 4000000 in
set_option maxRecDepth 100000 in
theorem c_X6_bones_0 (l : Launch) (g : dkG) (z : Nat) (I0 : dkI) (p0 : Int32) (p1 : Int32)  (hO : dkOk I0) (hP : dkPP I0) : Met l yX6_bones wsX6_bones (dkR 2) (dkPc g z [.ref (z + 340), .int p0, .int p1] I0) (dkQi g z (fun r I1 => dkF [(340, 340, 17, 17), (346, 346, 9, 33), (349, 349, 0, 1295)] I0 I1 ∧ dkOk I1 ∧ dkPP I1 ∧ ((True ∧ True)))) 0 0 (dkA z) := by
  refine Met.ofW (cc := cX6_bones) (maxL := 4) (ret := (some .int)) (by decide) rfl ?_
  intro p e s m args below meth c s₁ B hml hv
  obtain ⟨ha, hW, hK, hT⟩ := hv
  have hx := B.exec
  have hb := B.bytes
  have hr := B.returns
  have hts := atoms_spec (ws := wsX6_bones) B.pre
  have hown : s.vm.findClass RX6 = some m.cls := findClass_of_methodNamed B.named
  have hlocks := B.notSynchronized
  have hS : va_S (dkA z) s.heap s.heap [] := va_S.rf
  have hF : dkF [(340, 340, 17, 17), (346, 346, 9, 33), (349, 349, 0, 1295)] I0 I0 := dkF_rf _ _
  have hl := lv_entry ([.ref (z + 340), .int p0, .int p1]) (n := 4) (Nat.le_of_ble_eq_true rfl)
  have hgo : entryFrame m args 4 = entryFrame m ([.ref (z + 340), .int p0, .int p1] : List Value).toArray 4 := by rw [ha]
  rw [hgo, lg_entry_eq]
  generalize (lg_sl ([.ref (z + 340), .int p0, .int p1]) ++ List.replicate (4 - (lg_sl ([.ref (z + 340), .int p0, .int p1])).length) Slot.unset).toArray = ls at hl ⊢
  have hl : lv_has ls 4 [(0, .ref (z + 340)), (1, .int p0), (2, .int p1)] := hl
  refine lv_aload_n hx hb dX6_bones_0 rfl (lv_at hl 0 rfl) ?_
  refine lv_iload_n hx hb dX6_bones_1 rfl (lv_at hl 1 rfl) ?_
  refine dk_Vi (As := [.int p0]) (rest := []) ⟨hx, hb, hml, hown, hts⟩ (c_X6_isPerson_0 l g z I0 p0 hO) (cwV 1 hts gX6_bones_X6_isPerson rfl rfl rfl (by decide +kernel) ⟨Nat.le_of_ble_eq_true rfl, Nat.le_of_ble_eq_true rfl⟩) (dk_at340 hW) rfl hK hT hW hS rfl hl.1 rfl (Nat.le_of_ble_eq_true rfl) dX6_bones_2 ⟨Nat.zero_le _, Nat.zero_le _⟩ (fun v1 I1 H1 L1 hp1 hW hS => ?_)
  obtain ⟨hF1, hO, hc1⟩ := hp1
  have hF := dkF_call hF hF1 rfl
  have hP := dkPP_F hP hF1 rfl
  rcases hc1 with ⟨dv1, -⟩ | hc1
  ·
    refine lv_if_eq (tgt := 18) hx hb dX6_bones_5 (by decide) (fun c2 => ?_) (fun c2 => ?_)
    ·
      refine lv_ldc (v := (-1000001)) hx hb hown (hts (.constant RX6 64 (-1000001)) (List.mem_of_getElem? (i := 1) rfl)) dX6_bones_18 ?_
      exact W.iret (v := (-1000001)) hx hb hr (fun t ht hW9 => ⟨⟨(-1000001), I1, rfl, ⟨hF, hO, hP, ⟨trivial, trivial⟩⟩, dkW_eq ht hW⟩, hS.F ht⟩) hS.2.2 dX6_bones_20
    ·
      exact (dkN_nil (show dkN [] v1 from dkN_ne1 (0) dv1 (dkN_lit (x := 0) (0) rfl) (dk_ne c2) rfl)).elim
  ·
    obtain ⟨dv1, a1_0, -⟩ := hc1
    have d3 : dkN [(0, 4)] p0 := dkN_eq1 (dkN_top p0) a1_0 rfl rfl
    refine lv_if_eq (tgt := 18) hx hb dX6_bones_5 (by decide) (fun c4 => ?_) (fun c4 => ?_)
    ·
      exact (dkN_nil (show dkN [] v1 from dkN_eq1 dv1 (dkN_lit (x := 0) (0) rfl) (congrArg Int32.toInt c4) rfl)).elim
    ·
      refine lv_iload_n hx hb dX6_bones_8 rfl (lv_at hl 2 rfl) ?_
      refine lv_iconst (v := 0) hx hb dX6_bones_9 (by decide) ?_
      refine lv_bipush (v := 9) hx hb dX6_bones_10 (by decide) ?_
      refine dk_Si (As := [.int p1, .int 0, .int 9]) (rest := []) ⟨hx, hb, hml, hown, hts⟩ (c_X6_in_10 l g z I1 p1 0 9 (dkN_lit (x := 0) (0) rfl) (dkN_lit (x := 9) (9) rfl) hO) (va_cwS 3 hts gX6_bones_X6_in rfl rfl rfl (by decide +kernel) ⟨Nat.le_of_ble_eq_true rfl, Nat.le_of_ble_eq_true rfl⟩) hK hT hW hS rfl hl.1 rfl (Nat.le_of_ble_eq_true rfl) dX6_bones_12 ⟨Nat.zero_le _, Nat.zero_le _⟩ (fun v5 I5 H5 L5 hp5 hW hS => ?_)
      obtain ⟨hF5, hO, hc5⟩ := hp5
      have hF := dkF_call hF hF5 rfl
      have hP := dkPP_F hP hF5 rfl
      rcases hc5 with ⟨dv5, a5_0, -⟩ | hc5
      ·
        have d6 : dkN [(-2147483648, -1), (10, 2147483647)] p1 := dkN_eq1 (dkN_top p1) a5_0 rfl rfl
        refine lv_if_ne (tgt := 21) hx hb dX6_bones_15 (by decide) (fun c7 => ?_) (fun c7 => ?_)
        ·
          exact (dkN_nil (show dkN [] v5 from dkN_ne1 (0) dv5 (dkN_lit (x := 0) (0) rfl) (dk_ne c7) rfl)).elim
        ·
          refine lv_ldc (v := (-1000001)) hx hb hown (hts (.constant RX6 64 (-1000001)) (List.mem_of_getElem? (i := 1) rfl)) dX6_bones_18 ?_
          exact W.iret (v := (-1000001)) hx hb hr (fun t ht hW9 => ⟨⟨(-1000001), I5, rfl, ⟨hF, hO, hP, ⟨trivial, trivial⟩⟩, dkW_eq ht hW⟩, hS.F ht⟩) hS.2.2 dX6_bones_20
      ·
        obtain ⟨dv5, a5_0, -⟩ := hc5
        have d8 : dkN [(0, 9)] p1 := dkN_eq1 (dkN_top p1) a5_0 rfl rfl
        refine lv_if_ne (tgt := 21) hx hb dX6_bones_15 (by decide) (fun c9 => ?_) (fun c9 => ?_)
        ·
          refine lv_aload_n hx hb dX6_bones_21 rfl (lv_at hl 0 rfl) ?_
          refine dk_Vv (As := []) (rest := []) ⟨hx, hb, hml, hown, hts⟩ (c_X6_notes l g z I5 hO hP) (cwV 0 hts gX6_bones_X6_notes rfl rfl rfl (by decide +kernel) ⟨Nat.le_of_ble_eq_true rfl, Nat.le_of_ble_eq_true rfl⟩) (dk_at340 hW) rfl hK hT hW hS rfl hl.1 rfl (Nat.le_of_ble_eq_true rfl) dX6_bones_22 ⟨Nat.zero_le _, Nat.zero_le _⟩ (fun I10 H10 L10 hp10 hW hS => ?_)
          obtain ⟨hF10, hO, hP, hc10⟩ := hp10
          have hF := dkF_call hF hF10 rfl
          obtain ⟨f10_340_17, -⟩ := hc10
          refine lv_aload_n hx hb dX6_bones_25 rfl (lv_at hl 0 rfl) ?_
          refine dk_get (k := 340) hx hb hts iX6_bones_6 hown hK (dk_at340 hW) rfl 13 (by decide) (hts (.fieldLink RX6 25 "DogKingsModel" "now" "[I") (List.mem_of_getElem? (i := 2) rfl)) rfl dX6_bones_26 ?_
          refine lv_bipush (v := 6) hx hb dX6_bones_29 (by decide) ?_
          refine lv_bipush (v := 6) hx hb dX6_bones_31 (by decide) ?_
          refine lv_iload_n hx hb dX6_bones_33 rfl (lv_at hl 1 rfl) ?_
          refine lv_imul hx hb dX6_bones_34 ?_
          refine lv_topi (fun v11 ev11 => ?_)
          have dv11 : dkN [(0, 24)] v11 := by rw [ev11]; exact dkN_mulL 6 (by decide) (dkN_lit (x := 6) (6) rfl) d3 rfl
          refine lv_iadd hx hb dX6_bones_35 ?_
          refine lv_topi (fun v12 ev12 => ?_)
          have dv12 : dkN [(6, 30)] v12 := by rw [ev12]; exact dkN_add (dkN_lit (x := 6) (6) rfl) dv11 rfl
          refine lv_iconst (v := 3) hx hb dX6_bones_36 (by decide) ?_
          refine lv_iadd hx hb dX6_bones_37 ?_
          refine lv_topi (fun v13 ev13 => ?_)
          have dv13 : dkN [(9, 33)] v13 := by rw [ev13]; exact dkN_add dv12 (dkN_lit (x := 3) (3) rfl) rfl
          refine dk_ild (k := 346) hx hb hK (dk_at346 hW) (dkN_in (n := 54) dv13 rfl) dX6_bones_38 ?_
          refine lv_topi (fun v14 ev14 => ?_)
          refine lv_istore_n (lv' := [(3, .int v14), (0, .ref (z + 340)), (1, .int p0), (2, .int p1)]) hx hb dX6_bones_39 rfl hl (by decide) rfl (fun ls hl => ?_)
          refine lv_aload_n hx hb dX6_bones_40 rfl (lv_at hl 1 rfl) ?_
          refine dk_get (k := 340) hx hb hts iX6_bones_6 hown hK (dk_at340 hW) rfl 13 (by decide) (hts (.fieldLink RX6 25 "DogKingsModel" "now" "[I") (List.mem_of_getElem? (i := 2) rfl)) rfl dX6_bones_41 ?_
          refine lv_bipush (v := 6) hx hb dX6_bones_44 (by decide) ?_
          refine lv_bipush (v := 6) hx hb dX6_bones_46 (by decide) ?_
          refine lv_iload_n hx hb dX6_bones_48 rfl (lv_at hl 2 rfl) ?_
          refine lv_imul hx hb dX6_bones_49 ?_
          refine lv_topi (fun v15 ev15 => ?_)
          have dv15 : dkN [(0, 24)] v15 := by rw [ev15]; exact dkN_mulL 6 (by decide) (dkN_lit (x := 6) (6) rfl) d3 rfl
          refine lv_iadd hx hb dX6_bones_50 ?_
          refine lv_topi (fun v16 ev16 => ?_)
          have dv16 : dkN [(6, 30)] v16 := by rw [ev16]; exact dkN_add (dkN_lit (x := 6) (6) rfl) dv15 rfl
          refine lv_iconst (v := 3) hx hb dX6_bones_51 (by decide) ?_
          refine lv_iadd hx hb dX6_bones_52 ?_
          refine lv_topi (fun v17 ev17 => ?_)
          have dv17 : dkN [(9, 33)] v17 := by rw [ev17]; exact dkN_add dv16 (dkN_lit (x := 3) (3) rfl) rfl
          refine lv_iload_n hx hb dX6_bones_53 rfl (lv_at hl 3 rfl) ?_
          refine dk_ist (k := 346) hx hb hK hW (fun _ => rfl) (by decide) hS (dkN_in (n := 54) dv17 rfl) dX6_bones_54 (fun I18 H18 L18 eI18 hW hS => ?_)
          have hO := dkO_set hO eI18 (by rw [dkB_w (k := 346) (B := [(-2147483648, 2147483647)]) (by decide) dv17 rfl]; exact dkN_top _)
          have hF := dkF_set hF eI18 (dkIn_v dv17 rfl)
          have hP := dkPP_set hP eI18 (dkPPb_v dv17 rfl)
          refine lv_iload_n hx hb dX6_bones_55 rfl (lv_at hl 0 rfl) ?_
          exact W.iret (v := v14) hx hb hr (fun t ht hW9 => ⟨⟨v14, I18, rfl, ⟨hF, hO, hP, ⟨trivial, trivial⟩⟩, dkW_eq ht hW⟩, hS.F ht⟩) hS.2.2 dX6_bones_56
        ·
          exact (dkN_nil (show dkN [] v5 from dkN_eq1 dv5 (dkN_lit (x := 0) (0) rfl) (congrArg Int32.toInt c9) rfl)).elim
set_option maxHeartbeats 4000000 in
set_option maxRecDepth 100000 in
theorem c_X6_walk_0 (l : Launch) (g : dkG) (z : Nat) (I0 : dkI) (p0 : Int32) (p1 : Int32)  (hO : dkOk I0) (hP : dkPP I0) : Met l yX6_walk wsX6_walk (dkR 2) (dkPc g z [.ref (z + 340), .int p0, .int p1] I0) (dkQi g z (fun r I1 => dkF [(340, 340, 17, 17), (346, 346, 8, 32), (349, 349, 0, 1295)] I0 I1 ∧ dkOk I1 ∧ dkPP I1 ∧ ((True ∧ True)))) 0 0 (dkA z) := by
  refine Met.ofW (cc := cX6_walk) (maxL := 4) (ret := (some .int)) (by decide) rfl ?_
  intro p e s m args below meth c s₁ B hml hv
  obtain ⟨ha, hW, hK, hT⟩ := hv
  have hx := B.exec
  have hb := B.bytes
  have hr := B.returns
  have hts := atoms_spec (ws := wsX6_walk) B.pre
  have hown : s.vm.findClass RX6 = some m.cls := findClass_of_methodNamed B.named
  have hlocks := B.notSynchronized
  have hS : va_S (dkA z) s.heap s.heap [] := va_S.rf
  have hF : dkF [(340, 340, 17, 17), (346, 346, 8, 32), (349, 349, 0, 1295)] I0 I0 := dkF_rf _ _
  have hl := lv_entry ([.ref (z + 340), .int p0, .int p1]) (n := 4) (Nat.le_of_ble_eq_true rfl)
  have hgo : entryFrame m args 4 = entryFrame m ([.ref (z + 340), .int p0, .int p1] : List Value).toArray 4 := by rw [ha]
  rw [hgo, lg_entry_eq]
  generalize (lg_sl ([.ref (z + 340), .int p0, .int p1]) ++ List.replicate (4 - (lg_sl ([.ref (z + 340), .int p0, .int p1])).length) Slot.unset).toArray = ls at hl ⊢
  have hl : lv_has ls 4 [(0, .ref (z + 340)), (1, .int p0), (2, .int p1)] := hl
  refine lv_aload_n hx hb dX6_walk_0 rfl (lv_at hl 0 rfl) ?_
  refine lv_iload_n hx hb dX6_walk_1 rfl (lv_at hl 1 rfl) ?_
  refine dk_Vi (As := [.int p0]) (rest := []) ⟨hx, hb, hml, hown, hts⟩ (c_X6_isPerson_0 l g z I0 p0 hO) (cwV 1 hts gX6_walk_X6_isPerson rfl rfl rfl (by decide +kernel) ⟨Nat.le_of_ble_eq_true rfl, Nat.le_of_ble_eq_true rfl⟩) (dk_at340 hW) rfl hK hT hW hS rfl hl.1 rfl (Nat.le_of_ble_eq_true rfl) dX6_walk_2 ⟨Nat.zero_le _, Nat.zero_le _⟩ (fun v1 I1 H1 L1 hp1 hW hS => ?_)
  obtain ⟨hF1, hO, hc1⟩ := hp1
  have hF := dkF_call hF hF1 rfl
  have hP := dkPP_F hP hF1 rfl
  rcases hc1 with ⟨dv1, -⟩ | hc1
  ·
    refine lv_if_eq (tgt := 17) hx hb dX6_walk_5 (by decide) (fun c2 => ?_) (fun c2 => ?_)
    ·
      refine lv_ldc (v := (-1000001)) hx hb hown (hts (.constant RX6 64 (-1000001)) (List.mem_of_getElem? (i := 1) rfl)) dX6_walk_17 ?_
      exact W.iret (v := (-1000001)) hx hb hr (fun t ht hW9 => ⟨⟨(-1000001), I1, rfl, ⟨hF, hO, hP, ⟨trivial, trivial⟩⟩, dkW_eq ht hW⟩, hS.F ht⟩) hS.2.2 dX6_walk_19
    ·
      exact (dkN_nil (show dkN [] v1 from dkN_ne1 (0) dv1 (dkN_lit (x := 0) (0) rfl) (dk_ne c2) rfl)).elim
  ·
    obtain ⟨dv1, a1_0, -⟩ := hc1
    have d3 : dkN [(0, 4)] p0 := dkN_eq1 (dkN_top p0) a1_0 rfl rfl
    refine lv_if_eq (tgt := 17) hx hb dX6_walk_5 (by decide) (fun c4 => ?_) (fun c4 => ?_)
    ·
      exact (dkN_nil (show dkN [] v1 from dkN_eq1 dv1 (dkN_lit (x := 0) (0) rfl) (congrArg Int32.toInt c4) rfl)).elim
    ·
      refine lv_iload_n hx hb dX6_walk_8 rfl (lv_at hl 2 rfl) ?_
      refine lv_iconst (v := 0) hx hb dX6_walk_9 (by decide) ?_
      refine lv_iconst (v := 2) hx hb dX6_walk_10 (by decide) ?_
      refine dk_Si (As := [.int p1, .int 0, .int 2]) (rest := []) ⟨hx, hb, hml, hown, hts⟩ (c_X6_in_1 l g z I1 p1 0 2 (dkN_lit (x := 0) (0) rfl) (dkN_lit (x := 2) (2) rfl) hO) (va_cwS 3 hts gX6_walk_X6_in rfl rfl rfl (by decide +kernel) ⟨Nat.le_of_ble_eq_true rfl, Nat.le_of_ble_eq_true rfl⟩) hK hT hW hS rfl hl.1 rfl (Nat.le_of_ble_eq_true rfl) dX6_walk_11 ⟨Nat.zero_le _, Nat.zero_le _⟩ (fun v5 I5 H5 L5 hp5 hW hS => ?_)
      obtain ⟨hF5, hO, hc5⟩ := hp5
      have hF := dkF_call hF hF5 rfl
      have hP := dkPP_F hP hF5 rfl
      rcases hc5 with ⟨dv5, a5_0, -⟩ | hc5
      ·
        have d6 : dkN [(-2147483648, -1), (3, 2147483647)] p1 := dkN_eq1 (dkN_top p1) a5_0 rfl rfl
        refine lv_if_ne (tgt := 20) hx hb dX6_walk_14 (by decide) (fun c7 => ?_) (fun c7 => ?_)
        ·
          exact (dkN_nil (show dkN [] v5 from dkN_ne1 (0) dv5 (dkN_lit (x := 0) (0) rfl) (dk_ne c7) rfl)).elim
        ·
          refine lv_ldc (v := (-1000001)) hx hb hown (hts (.constant RX6 64 (-1000001)) (List.mem_of_getElem? (i := 1) rfl)) dX6_walk_17 ?_
          exact W.iret (v := (-1000001)) hx hb hr (fun t ht hW9 => ⟨⟨(-1000001), I5, rfl, ⟨hF, hO, hP, ⟨trivial, trivial⟩⟩, dkW_eq ht hW⟩, hS.F ht⟩) hS.2.2 dX6_walk_19
      ·
        obtain ⟨dv5, a5_0, -⟩ := hc5
        have d8 : dkN [(0, 2)] p1 := dkN_eq1 (dkN_top p1) a5_0 rfl rfl
        refine lv_if_ne (tgt := 20) hx hb dX6_walk_14 (by decide) (fun c9 => ?_) (fun c9 => ?_)
        ·
          refine lv_aload_n hx hb dX6_walk_20 rfl (lv_at hl 0 rfl) ?_
          refine dk_Vv (As := []) (rest := []) ⟨hx, hb, hml, hown, hts⟩ (c_X6_notes l g z I5 hO hP) (cwV 0 hts gX6_walk_X6_notes rfl rfl rfl (by decide +kernel) ⟨Nat.le_of_ble_eq_true rfl, Nat.le_of_ble_eq_true rfl⟩) (dk_at340 hW) rfl hK hT hW hS rfl hl.1 rfl (Nat.le_of_ble_eq_true rfl) dX6_walk_21 ⟨Nat.zero_le _, Nat.zero_le _⟩ (fun I10 H10 L10 hp10 hW hS => ?_)
          obtain ⟨hF10, hO, hP, hc10⟩ := hp10
          have hF := dkF_call hF hF10 rfl
          obtain ⟨f10_340_17, -⟩ := hc10
          refine lv_aload_n hx hb dX6_walk_24 rfl (lv_at hl 0 rfl) ?_
          refine dk_get (k := 340) hx hb hts iX6_walk_6 hown hK (dk_at340 hW) rfl 13 (by decide) (hts (.fieldLink RX6 25 "DogKingsModel" "now" "[I") (List.mem_of_getElem? (i := 2) rfl)) rfl dX6_walk_25 ?_
          refine lv_bipush (v := 6) hx hb dX6_walk_28 (by decide) ?_
          refine lv_bipush (v := 6) hx hb dX6_walk_30 (by decide) ?_
          refine lv_iload_n hx hb dX6_walk_32 rfl (lv_at hl 1 rfl) ?_
          refine lv_imul hx hb dX6_walk_33 ?_
          refine lv_topi (fun v11 ev11 => ?_)
          have dv11 : dkN [(0, 24)] v11 := by rw [ev11]; exact dkN_mulL 6 (by decide) (dkN_lit (x := 6) (6) rfl) d3 rfl
          refine lv_iadd hx hb dX6_walk_34 ?_
          refine lv_topi (fun v12 ev12 => ?_)
          have dv12 : dkN [(6, 30)] v12 := by rw [ev12]; exact dkN_add (dkN_lit (x := 6) (6) rfl) dv11 rfl
          refine lv_iconst (v := 2) hx hb dX6_walk_35 (by decide) ?_
          refine lv_iadd hx hb dX6_walk_36 ?_
          refine lv_topi (fun v13 ev13 => ?_)
          have dv13 : dkN [(8, 32)] v13 := by rw [ev13]; exact dkN_add dv12 (dkN_lit (x := 2) (2) rfl) rfl
          refine dk_ild (k := 346) hx hb hK (dk_at346 hW) (dkN_in (n := 54) dv13 rfl) dX6_walk_37 ?_
          refine lv_topi (fun v14 ev14 => ?_)
          refine lv_istore_n (lv' := [(3, .int v14), (0, .ref (z + 340)), (1, .int p0), (2, .int p1)]) hx hb dX6_walk_38 rfl hl (by decide) rfl (fun ls hl => ?_)
          refine lv_aload_n hx hb dX6_walk_39 rfl (lv_at hl 1 rfl) ?_
          refine dk_get (k := 340) hx hb hts iX6_walk_6 hown hK (dk_at340 hW) rfl 13 (by decide) (hts (.fieldLink RX6 25 "DogKingsModel" "now" "[I") (List.mem_of_getElem? (i := 2) rfl)) rfl dX6_walk_40 ?_
          refine lv_bipush (v := 6) hx hb dX6_walk_43 (by decide) ?_
          refine lv_bipush (v := 6) hx hb dX6_walk_45 (by decide) ?_
          refine lv_iload_n hx hb dX6_walk_47 rfl (lv_at hl 2 rfl) ?_
          refine lv_imul hx hb dX6_walk_48 ?_
          refine lv_topi (fun v15 ev15 => ?_)
          have dv15 : dkN [(0, 24)] v15 := by rw [ev15]; exact dkN_mulL 6 (by decide) (dkN_lit (x := 6) (6) rfl) d3 rfl
          refine lv_iadd hx hb dX6_walk_49 ?_
          refine lv_topi (fun v16 ev16 => ?_)
          have dv16 : dkN [(6, 30)] v16 := by rw [ev16]; exact dkN_add (dkN_lit (x := 6) (6) rfl) dv15 rfl
          refine lv_iconst (v := 2) hx hb dX6_walk_50 (by decide) ?_
          refine lv_iadd hx hb dX6_walk_51 ?_
          refine lv_topi (fun v17 ev17 => ?_)
          have dv17 : dkN [(8, 32)] v17 := by rw [ev17]; exact dkN_add dv16 (dkN_lit (x := 2) (2) rfl) rfl
          refine lv_iload_n hx hb dX6_walk_52 rfl (lv_at hl 3 rfl) ?_
          refine dk_ist (k := 346) hx hb hK hW (fun _ => rfl) (by decide) hS (dkN_in (n := 54) dv17 rfl) dX6_walk_53 (fun I18 H18 L18 eI18 hW hS => ?_)
          have hO := dkO_set hO eI18 (by rw [dkB_w (k := 346) (B := [(-2147483648, 2147483647)]) (by decide) dv17 rfl]; exact dkN_top _)
          have hF := dkF_set hF eI18 (dkIn_v dv17 rfl)
          have hP := dkPP_set hP eI18 (dkPPb_v dv17 rfl)
          refine lv_iload_n hx hb dX6_walk_54 rfl (lv_at hl 0 rfl) ?_
          exact W.iret (v := v14) hx hb hr (fun t ht hW9 => ⟨⟨v14, I18, rfl, ⟨hF, hO, hP, ⟨trivial, trivial⟩⟩, dkW_eq ht hW⟩, hS.F ht⟩) hS.2.2 dX6_walk_55
        ·
          exact (dkN_nil (show dkN [] v5 from dkN_eq1 dv5 (dkN_lit (x := 0) (0) rfl) (congrArg Int32.toInt c9) rfl)).elim
set_option maxHeartbeats 4000000 in
set_option maxRecDepth 100000 in
theorem c_X5_isDog_0 (l : Launch) (g : dkG) (z : Nat) (I0 : dkI) (p0 : Int32)  (hO : dkOk I0) : Met l yX5_isDog wsX5_isDog (dkR 0) (dkPc g z [.ref (z + 0), .int p0] I0) (dkQi g z (fun r I1 => dkF [] I0 I1 ∧ dkOk I1 ∧ ((dkN [(0, 0)] r ∧ True) ∨ (dkN [(1, 1)] r ∧ dkN [(0, 5)] p0 ∧ dkN [(1, 6)] (I1 25 11) ∧ True)))) 0 0 (dkA z) := by
  refine Met.ofW (cc := cX5_isDog) (maxL := 2) (ret := (some .boolean)) (by decide) rfl ?_
  intro p e s m args below meth c s₁ B hml hv
  obtain ⟨ha, hW, hK, hT⟩ := hv
  have hx := B.exec
  have hb := B.bytes
  have hr := B.returns
  have hts := atoms_spec (ws := wsX5_isDog) B.pre
  have hown : s.vm.findClass RX5 = some m.cls := findClass_of_methodNamed B.named
  have hlocks := B.notSynchronized
  have hS : va_S (dkA z) s.heap s.heap [] := va_S.rf
  have hF : dkF [] I0 I0 := dkF_rf _ _
  have hl := lv_entry ([.ref (z + 0), .int p0]) (n := 2) (Nat.le_of_ble_eq_true rfl)
  have hgo : entryFrame m args 2 = entryFrame m ([.ref (z + 0), .int p0] : List Value).toArray 2 := by rw [ha]
  rw [hgo, lg_entry_eq]
  generalize (lg_sl ([.ref (z + 0), .int p0]) ++ List.replicate (2 - (lg_sl ([.ref (z + 0), .int p0])).length) Slot.unset).toArray = ls at hl ⊢
  have hl : lv_has ls 2 [(0, .ref (z + 0)), (1, .int p0)] := hl
  refine lv_iload_n hx hb dX5_isDog_0 rfl (lv_at hl 1 rfl) ?_
  refine lv_if_lt (tgt := 19) hx hb dX5_isDog_1 (by decide) (fun c1 => ?_) (fun c1 => ?_)
  ·
    have d2 : dkN [(-2147483648, -1)] p0 := dkN_le1 1 (dkN_top p0) (dkN_lit (x := 0) (0) rfl) (dkc_lt c1) rfl
    refine lv_iconst (v := 0) hx hb dX5_isDog_19 (by decide) ?_
    exact W.zret (v := 0) (ty := .boolean) hx hb hr rfl (fun t ht hW9 => ⟨⟨0, I0, rfl, ⟨hF, hO, Or.inl ⟨dkN_sub (dkN_lit (x := 0) (0) rfl) rfl, trivial⟩⟩, dkW_eq ht hW⟩, hS.F ht⟩) hS.2.2 dX5_isDog_20
  ·
    have d3 : dkN [(0, 2147483647)] p0 := dkN_le2 0 (dkN_lit (x := 0) (0) rfl) (dkN_top p0) (dkc_nlt c1) rfl
    refine lv_iload_n hx hb dX5_isDog_4 rfl (lv_at hl 1 rfl) ?_
    refine lv_aload_n hx hb dX5_isDog_5 rfl (lv_at hl 0 rfl) ?_
    refine dk_get (k := 0) hx hb hts iX5_isDog_5 hown hK (dk_at0 hW) rfl 5 (by decide) (hts (.fieldLink RX5 31 "DogKings" "now" "LDogKings$Town;") (List.mem_of_getElem? (i := 1) rfl)) rfl dX5_isDog_6 ?_
    refine dk_get (k := 25) hx hb hts iX5_isDog_4 hown hK (dk_at25 hW) rfl 11 (by decide) (hts (.fieldLink RX5 120 "DogKings$Town" "dogs" "I") (List.mem_of_getElem? (i := 2) rfl)) rfl dX5_isDog_9 ?_
    refine lv_topi (fun v4 ev4 => ?_)
    have dv4 : dkN [(0, 6)] v4 := by rw [ev4]; exact (hO 25 11)
    refine lv_icmp_ge (tgt := 19) hx hb dX5_isDog_12 (by decide) (fun c5 => ?_) (fun c5 => ?_)
    ·
      refine lv_iconst (v := 0) hx hb dX5_isDog_19 (by decide) ?_
      exact W.zret (v := 0) (ty := .boolean) hx hb hr rfl (fun t ht hW9 => ⟨⟨0, I0, rfl, ⟨hF, hO, Or.inl ⟨dkN_sub (dkN_lit (x := 0) (0) rfl) rfl, trivial⟩⟩, dkW_eq ht hW⟩, hS.F ht⟩) hS.2.2 dX5_isDog_20
    ·
      have d6 : dkN [(1, 6)] v4 := dkN_le2 1 d3 dv4 (dkc_nle c5) rfl
      have f7 : dkN [(1, 6)] (I0 25 11) := by rw [← ev4]; exact d6
      have d8 : dkN [(0, 5)] p0 := dkN_le1 1 d3 dv4 (dkc_nle c5) rfl
      refine lv_iconst (v := 1) hx hb dX5_isDog_15 (by decide) ?_
      refine lv_goto (tgt := 20) hx hb dX5_isDog_16 (by decide) ?_
      exact W.zret (v := 1) (ty := .boolean) hx hb hr rfl (fun t ht hW9 => ⟨⟨1, I0, rfl, ⟨hF, hO, Or.inr (⟨dkN_sub (dkN_lit (x := 1) (1) rfl) rfl, dkN_sub d8 rfl, (show dkN [(1, 6)] (I0 25 11) from dkN_sub f7 rfl), trivial⟩)⟩, dkW_eq ht hW⟩, hS.F ht⟩) hS.2.2 dX5_isDog_20
set_option maxHeartbeats 4000000 in
set_option maxRecDepth 100000 in
theorem c_X5_isPlace_0 (l : Launch) (g : dkG) (z : Nat) (I0 : dkI) (p0 : Int32)  (hO : dkOk I0) : Met l yX5_isPlace wsX5_isPlace (dkR 0) (dkPc g z [.ref (z + 0), .int p0] I0) (dkQi g z (fun r I1 => dkF [] I0 I1 ∧ dkOk I1 ∧ ((dkN [(0, 0)] r ∧ True) ∨ (dkN [(1, 1)] r ∧ dkN [(0, 8)] p0 ∧ dkN [(1, 9)] (I1 25 0) ∧ True)))) 0 0 (dkA z) := by
  refine Met.ofW (cc := cX5_isPlace) (maxL := 2) (ret := (some .boolean)) (by decide) rfl ?_
  intro p e s m args below meth c s₁ B hml hv
  obtain ⟨ha, hW, hK, hT⟩ := hv
  have hx := B.exec
  have hb := B.bytes
  have hr := B.returns
  have hts := atoms_spec (ws := wsX5_isPlace) B.pre
  have hown : s.vm.findClass RX5 = some m.cls := findClass_of_methodNamed B.named
  have hlocks := B.notSynchronized
  have hS : va_S (dkA z) s.heap s.heap [] := va_S.rf
  have hF : dkF [] I0 I0 := dkF_rf _ _
  have hl := lv_entry ([.ref (z + 0), .int p0]) (n := 2) (Nat.le_of_ble_eq_true rfl)
  have hgo : entryFrame m args 2 = entryFrame m ([.ref (z + 0), .int p0] : List Value).toArray 2 := by rw [ha]
  rw [hgo, lg_entry_eq]
  generalize (lg_sl ([.ref (z + 0), .int p0]) ++ List.replicate (2 - (lg_sl ([.ref (z + 0), .int p0])).length) Slot.unset).toArray = ls at hl ⊢
  have hl : lv_has ls 2 [(0, .ref (z + 0)), (1, .int p0)] := hl
  refine lv_iload_n hx hb dX5_isPlace_0 rfl (lv_at hl 1 rfl) ?_
  refine lv_if_lt (tgt := 19) hx hb dX5_isPlace_1 (by decide) (fun c1 => ?_) (fun c1 => ?_)
  ·
    have d2 : dkN [(-2147483648, -1)] p0 := dkN_le1 1 (dkN_top p0) (dkN_lit (x := 0) (0) rfl) (dkc_lt c1) rfl
    refine lv_iconst (v := 0) hx hb dX5_isPlace_19 (by decide) ?_
    exact W.zret (v := 0) (ty := .boolean) hx hb hr rfl (fun t ht hW9 => ⟨⟨0, I0, rfl, ⟨hF, hO, Or.inl ⟨dkN_sub (dkN_lit (x := 0) (0) rfl) rfl, trivial⟩⟩, dkW_eq ht hW⟩, hS.F ht⟩) hS.2.2 dX5_isPlace_20
  ·
    have d3 : dkN [(0, 2147483647)] p0 := dkN_le2 0 (dkN_lit (x := 0) (0) rfl) (dkN_top p0) (dkc_nlt c1) rfl
    refine lv_iload_n hx hb dX5_isPlace_4 rfl (lv_at hl 1 rfl) ?_
    refine lv_aload_n hx hb dX5_isPlace_5 rfl (lv_at hl 0 rfl) ?_
    refine dk_get (k := 0) hx hb hts iX5_isPlace_5 hown hK (dk_at0 hW) rfl 5 (by decide) (hts (.fieldLink RX5 31 "DogKings" "now" "LDogKings$Town;") (List.mem_of_getElem? (i := 1) rfl)) rfl dX5_isPlace_6 ?_
    refine dk_get (k := 25) hx hb hts iX5_isPlace_4 hown hK (dk_at25 hW) rfl 0 (by decide) (hts (.fieldLink RX5 274 "DogKings$Town" "places" "I") (List.mem_of_getElem? (i := 2) rfl)) rfl dX5_isPlace_9 ?_
    refine lv_topi (fun v4 ev4 => ?_)
    have dv4 : dkN [(0, 9)] v4 := by rw [ev4]; exact (hO 25 0)
    refine lv_icmp_ge (tgt := 19) hx hb dX5_isPlace_12 (by decide) (fun c5 => ?_) (fun c5 => ?_)
    ·
      refine lv_iconst (v := 0) hx hb dX5_isPlace_19 (by decide) ?_
      exact W.zret (v := 0) (ty := .boolean) hx hb hr rfl (fun t ht hW9 => ⟨⟨0, I0, rfl, ⟨hF, hO, Or.inl ⟨dkN_sub (dkN_lit (x := 0) (0) rfl) rfl, trivial⟩⟩, dkW_eq ht hW⟩, hS.F ht⟩) hS.2.2 dX5_isPlace_20
    ·
      have d6 : dkN [(1, 9)] v4 := dkN_le2 1 d3 dv4 (dkc_nle c5) rfl
      have f7 : dkN [(1, 9)] (I0 25 0) := by rw [← ev4]; exact d6
      have d8 : dkN [(0, 8)] p0 := dkN_le1 1 d3 dv4 (dkc_nle c5) rfl
      refine lv_iconst (v := 1) hx hb dX5_isPlace_15 (by decide) ?_
      refine lv_goto (tgt := 20) hx hb dX5_isPlace_16 (by decide) ?_
      exact W.zret (v := 1) (ty := .boolean) hx hb hr rfl (fun t ht hW9 => ⟨⟨1, I0, rfl, ⟨hF, hO, Or.inr (⟨dkN_sub (dkN_lit (x := 1) (1) rfl) rfl, dkN_sub d8 rfl, (show dkN [(1, 9)] (I0 25 0) from dkN_sub f7 rfl), trivial⟩)⟩, dkW_eq ht hW⟩, hS.F ht⟩) hS.2.2 dX5_isPlace_20
set_option maxHeartbeats 4000000 in
set_option maxRecDepth 100000 in
theorem c_X6_in_13 (l : Launch) (g : dkG) (z : Nat) (I0 : dkI) (p0 : Int32) (p1 : Int32) (p2 : Int32) (dp1 : dkN [(0, 0)] p1) (dp2 : dkN [(-1, 5)] p2)  (hO : dkOk I0) : Met l yX6_in wsX6_in (dkR 0) (dkPc g z [.int p0, .int p1, .int p2] I0) (dkQi g z (fun r I1 => dkF [] I0 I1 ∧ dkOk I1 ∧ ((dkN [(0, 0)] r ∧ True) ∨ (dkN [(1, 1)] r ∧ dkN [(0, 5)] p0 ∧ dkN [(0, 5)] p2 ∧ True)))) 0 0 (dkA z) := by
  refine Met.ofW (cc := cX6_in) (maxL := 3) (ret := (some .boolean)) (by decide) rfl ?_
  intro p e s m args below meth c s₁ B hml hv
  obtain ⟨ha, hW, hK, hT⟩ := hv
  have hx := B.exec
  have hb := B.bytes
  have hr := B.returns
  have hts := atoms_spec (ws := wsX6_in) B.pre
  have hown : s.vm.findClass RX6 = some m.cls := findClass_of_methodNamed B.named
  have hlocks := B.notSynchronized
  have hS : va_S (dkA z) s.heap s.heap [] := va_S.rf
  have hF : dkF [] I0 I0 := dkF_rf _ _
  have hl := lv_entry ([.int p0, .int p1, .int p2]) (n := 3) (Nat.le_of_ble_eq_true rfl)
  have hgo : entryFrame m args 3 = entryFrame m ([.int p0, .int p1, .int p2] : List Value).toArray 3 := by rw [ha]
  rw [hgo, lg_entry_eq]
  generalize (lg_sl ([.int p0, .int p1, .int p2]) ++ List.replicate (3 - (lg_sl ([.int p0, .int p1, .int p2])).length) Slot.unset).toArray = ls at hl ⊢
  have hl : lv_has ls 3 [(0, .int p0), (1, .int p1), (2, .int p2)] := hl
  refine lv_iload_n hx hb dX6_in_0 rfl (lv_at hl 0 rfl) ?_
  refine lv_iload_n hx hb dX6_in_1 rfl (lv_at hl 1 rfl) ?_
  refine lv_icmp_lt (tgt := 14) hx hb dX6_in_2 (by decide) (fun c1 => ?_) (fun c1 => ?_)
  ·
    have d2 : dkN [(-2147483648, -1)] p0 := dkN_le1 1 (dkN_top p0) dp1 (dkc_lt c1) rfl
    refine lv_iconst (v := 0) hx hb dX6_in_14 (by decide) ?_
    exact W.zret (v := 0) (ty := .boolean) hx hb hr rfl (fun t ht hW9 => ⟨⟨0, I0, rfl, ⟨hF, hO, Or.inl ⟨dkN_sub (dkN_lit (x := 0) (0) rfl) rfl, trivial⟩⟩, dkW_eq ht hW⟩, hS.F ht⟩) hS.2.2 dX6_in_15
  ·
    have d3 : dkN [(0, 2147483647)] p0 := dkN_le2 0 dp1 (dkN_top p0) (dkc_nlt c1) rfl
    refine lv_iload_n hx hb dX6_in_5 rfl (lv_at hl 0 rfl) ?_
    refine lv_iload_n hx hb dX6_in_6 rfl (lv_at hl 2 rfl) ?_
    refine lv_icmp_gt (tgt := 14) hx hb dX6_in_7 (by decide) (fun c4 => ?_) (fun c4 => ?_)
    ·
      refine lv_iconst (v := 0) hx hb dX6_in_14 (by decide) ?_
      exact W.zret (v := 0) (ty := .boolean) hx hb hr rfl (fun t ht hW9 => ⟨⟨0, I0, rfl, ⟨hF, hO, Or.inl ⟨dkN_sub (dkN_lit (x := 0) (0) rfl) rfl, trivial⟩⟩, dkW_eq ht hW⟩, hS.F ht⟩) hS.2.2 dX6_in_15
    ·
      have d5 : dkN [(0, 5)] p2 := dkN_le2 0 d3 dp2 (dkc_nlt c4) rfl
      have d6 : dkN [(0, 5)] p0 := dkN_le1 0 d3 dp2 (dkc_nlt c4) rfl
      refine lv_iconst (v := 1) hx hb dX6_in_10 (by decide) ?_
      refine lv_goto (tgt := 15) hx hb dX6_in_11 (by decide) ?_
      exact W.zret (v := 1) (ty := .boolean) hx hb hr rfl (fun t ht hW9 => ⟨⟨1, I0, rfl, ⟨hF, hO, Or.inr (⟨dkN_sub (dkN_lit (x := 1) (1) rfl) rfl, dkN_sub d6 rfl, dkN_sub d5 rfl, trivial⟩)⟩, dkW_eq ht hW⟩, hS.F ht⟩) hS.2.2 dX6_in_15
set_option maxHeartbeats 4000000 in
set_option maxRecDepth 100000 in
theorem c_X6_isDog_0 (l : Launch) (g : dkG) (z : Nat) (I0 : dkI) (p0 : Int32)  (hO : dkOk I0) : Met l yX6_isDog wsX6_isDog (dkR 1) (dkPc g z [.ref (z + 340), .int p0] I0) (dkQi g z (fun r I1 => dkF [] I0 I1 ∧ dkOk I1 ∧ ((dkN [(0, 0)] r ∧ True) ∨ (dkN [(1, 1)] r ∧ dkN [(0, 5)] p0 ∧ True)))) 0 0 (dkA z) := by
  refine Met.ofW (cc := cX6_isDog) (maxL := 2) (ret := (some .boolean)) (by decide) rfl ?_
  intro p e s m args below meth c s₁ B hml hv
  obtain ⟨ha, hW, hK, hT⟩ := hv
  have hx := B.exec
  have hb := B.bytes
  have hr := B.returns
  have hts := atoms_spec (ws := wsX6_isDog) B.pre
  have hown : s.vm.findClass RX6 = some m.cls := findClass_of_methodNamed B.named
  have hlocks := B.notSynchronized
  have hS : va_S (dkA z) s.heap s.heap [] := va_S.rf
  have hF : dkF [] I0 I0 := dkF_rf _ _
  have hl := lv_entry ([.ref (z + 340), .int p0]) (n := 2) (Nat.le_of_ble_eq_true rfl)
  have hgo : entryFrame m args 2 = entryFrame m ([.ref (z + 340), .int p0] : List Value).toArray 2 := by rw [ha]
  rw [hgo, lg_entry_eq]
  generalize (lg_sl ([.ref (z + 340), .int p0]) ++ List.replicate (2 - (lg_sl ([.ref (z + 340), .int p0])).length) Slot.unset).toArray = ls at hl ⊢
  have hl : lv_has ls 2 [(0, .ref (z + 340)), (1, .int p0)] := hl
  refine lv_iload_n hx hb dX6_isDog_0 rfl (lv_at hl 1 rfl) ?_
  refine lv_iconst (v := 0) hx hb dX6_isDog_1 (by decide) ?_
  refine lv_aload_n hx hb dX6_isDog_2 rfl (lv_at hl 0 rfl) ?_
  refine dk_get (k := 340) hx hb hts iX6_isDog_6 hown hK (dk_at340 hW) rfl 13 (by decide) (hts (.fieldLink RX6 25 "DogKingsModel" "now" "[I") (List.mem_of_getElem? (i := 1) rfl)) rfl dX6_isDog_3 ?_
  refine lv_iconst (v := 5) hx hb dX6_isDog_6 (by decide) ?_
  refine dk_ild (k := 346) hx hb hK (dk_at346 hW) (dkN_in (n := 54) (dkN_lit (x := 5) (5) rfl) rfl) dX6_isDog_7 ?_
  refine lv_topi (fun v1 ev1 => ?_)
  have ev1 : v1 = I0 346 5 := ev1
  have dv1 : dkN [(0, 6)] v1 := by rw [ev1]; exact (show dkN [(0, 6)] (I0 346 5) from (hO 346 5))
  refine lv_iconst (v := 1) hx hb dX6_isDog_8 (by decide) ?_
  refine lv_isub hx hb dX6_isDog_9 ?_
  refine lv_topi (fun v2 ev2 => ?_)
  have dv2 : dkN [(-1, 5)] v2 := by rw [ev2]; exact dkN_subt dv1 (dkN_lit (x := 1) (1) rfl) rfl
  refine dk_Si (As := [.int p0, .int 0, .int v2]) (rest := []) ⟨hx, hb, hml, hown, hts⟩ (c_X6_in_13 l g z I0 p0 0 v2 (dkN_lit (x := 0) (0) rfl) dv2 hO) (va_cwS 3 hts gX6_isDog_X6_in rfl rfl rfl (by decide +kernel) ⟨Nat.le_of_ble_eq_true rfl, Nat.le_of_ble_eq_true rfl⟩) hK hT hW hS rfl hl.1 rfl (Nat.le_of_ble_eq_true rfl) dX6_isDog_10 ⟨Nat.zero_le _, Nat.zero_le _⟩ (fun v3 I3 H3 L3 hp3 hW hS => ?_)
  obtain ⟨hF3, hO, hc3⟩ := hp3
  have hF := dkF_call hF hF3 rfl
  rcases hc3 with ⟨dv3, -⟩ | hc3
  ·
    exact W.zret (v := v3) (ty := .boolean) hx hb hr (dkN_zr dv3 rfl) (fun t ht hW9 => ⟨⟨v3, I3, rfl, ⟨hF, hO, Or.inl ⟨dkN_sub dv3 rfl, trivial⟩⟩, dkW_eq ht hW⟩, hS.F ht⟩) hS.2.2 dX6_isDog_13
  ·
    obtain ⟨dv3, a3_0, a3_2, -⟩ := hc3
    have d4 : dkN [(0, 5)] p0 := dkN_eq1 (dkN_top p0) a3_0 rfl rfl
    have d5 : dkN [(0, 5)] v2 := dkN_eq1 dv2 a3_2 rfl rfl
    exact W.zret (v := v3) (ty := .boolean) hx hb hr (dkN_zr dv3 rfl) (fun t ht hW9 => ⟨⟨v3, I3, rfl, ⟨hF, hO, Or.inr (⟨dkN_sub dv3 rfl, dkN_sub d4 rfl, trivial⟩)⟩, dkW_eq ht hW⟩, hS.F ht⟩) hS.2.2 dX6_isDog_13
set_option maxHeartbeats 4000000 in
set_option maxRecDepth 100000 in
theorem c_X6_isStreet_0 (l : Launch) (g : dkG) (z : Nat) (I0 : dkI) (p0 : Int32)  (hO : dkOk I0) : Met l yX6_isStreet wsX6_isStreet (dkR 1) (dkPc g z [.ref (z + 340), .int p0] I0) (dkQi g z (fun r I1 => dkF [] I0 I1 ∧ dkOk I1 ∧ ((dkN [(0, 0)] r ∧ True) ∨ (dkN [(1, 1)] r ∧ dkN [(0, 8)] p0 ∧ True)))) 0 0 (dkA z) := by
  refine Met.ofW (cc := cX6_isStreet) (maxL := 2) (ret := (some .boolean)) (by decide) rfl ?_
  intro p e s m args below meth c s₁ B hml hv
  obtain ⟨ha, hW, hK, hT⟩ := hv
  have hx := B.exec
  have hb := B.bytes
  have hr := B.returns
  have hts := atoms_spec (ws := wsX6_isStreet) B.pre
  have hown : s.vm.findClass RX6 = some m.cls := findClass_of_methodNamed B.named
  have hlocks := B.notSynchronized
  have hS : va_S (dkA z) s.heap s.heap [] := va_S.rf
  have hF : dkF [] I0 I0 := dkF_rf _ _
  have hl := lv_entry ([.ref (z + 340), .int p0]) (n := 2) (Nat.le_of_ble_eq_true rfl)
  have hgo : entryFrame m args 2 = entryFrame m ([.ref (z + 340), .int p0] : List Value).toArray 2 := by rw [ha]
  rw [hgo, lg_entry_eq]
  generalize (lg_sl ([.ref (z + 340), .int p0]) ++ List.replicate (2 - (lg_sl ([.ref (z + 340), .int p0])).length) Slot.unset).toArray = ls at hl ⊢
  have hl : lv_has ls 2 [(0, .ref (z + 340)), (1, .int p0)] := hl
  refine lv_iload_n hx hb dX6_isStreet_0 rfl (lv_at hl 1 rfl) ?_
  refine lv_iconst (v := 0) hx hb dX6_isStreet_1 (by decide) ?_
  refine lv_aload_n hx hb dX6_isStreet_2 rfl (lv_at hl 0 rfl) ?_
  refine dk_get (k := 340) hx hb hts iX6_isStreet_6 hown hK (dk_at340 hW) rfl 13 (by decide) (hts (.fieldLink RX6 25 "DogKingsModel" "now" "[I") (List.mem_of_getElem? (i := 1) rfl)) rfl dX6_isStreet_3 ?_
  refine lv_iconst (v := 0) hx hb dX6_isStreet_6 (by decide) ?_
  refine dk_ild (k := 346) hx hb hK (dk_at346 hW) (dkN_in (n := 54) (dkN_lit (x := 0) (0) rfl) rfl) dX6_isStreet_7 ?_
  refine lv_topi (fun v1 ev1 => ?_)
  have ev1 : v1 = I0 346 0 := ev1
  have dv1 : dkN [(0, 9)] v1 := by rw [ev1]; exact (show dkN [(0, 9)] (I0 346 0) from (hO 346 0))
  refine lv_iconst (v := 1) hx hb dX6_isStreet_8 (by decide) ?_
  refine lv_isub hx hb dX6_isStreet_9 ?_
  refine lv_topi (fun v2 ev2 => ?_)
  have dv2 : dkN [(-1, 8)] v2 := by rw [ev2]; exact dkN_subt dv1 (dkN_lit (x := 1) (1) rfl) rfl
  refine dk_Si (As := [.int p0, .int 0, .int v2]) (rest := []) ⟨hx, hb, hml, hown, hts⟩ (c_X6_in_9 l g z I0 p0 0 v2 (dkN_lit (x := 0) (0) rfl) dv2 hO) (va_cwS 3 hts gX6_isStreet_X6_in rfl rfl rfl (by decide +kernel) ⟨Nat.le_of_ble_eq_true rfl, Nat.le_of_ble_eq_true rfl⟩) hK hT hW hS rfl hl.1 rfl (Nat.le_of_ble_eq_true rfl) dX6_isStreet_10 ⟨Nat.zero_le _, Nat.zero_le _⟩ (fun v3 I3 H3 L3 hp3 hW hS => ?_)
  obtain ⟨hF3, hO, hc3⟩ := hp3
  have hF := dkF_call hF hF3 rfl
  rcases hc3 with ⟨dv3, -⟩ | hc3
  ·
    exact W.zret (v := v3) (ty := .boolean) hx hb hr (dkN_zr dv3 rfl) (fun t ht hW9 => ⟨⟨v3, I3, rfl, ⟨hF, hO, Or.inl ⟨dkN_sub dv3 rfl, trivial⟩⟩, dkW_eq ht hW⟩, hS.F ht⟩) hS.2.2 dX6_isStreet_13
  ·
    obtain ⟨dv3, a3_0, a3_2, -⟩ := hc3
    have d4 : dkN [(0, 8)] p0 := dkN_eq1 (dkN_top p0) a3_0 rfl rfl
    have d5 : dkN [(0, 8)] v2 := dkN_eq1 dv2 a3_2 rfl rfl
    exact W.zret (v := v3) (ty := .boolean) hx hb hr (dkN_zr dv3 rfl) (fun t ht hW9 => ⟨⟨v3, I3, rfl, ⟨hF, hO, Or.inr (⟨dkN_sub dv3 rfl, dkN_sub d4 rfl, trivial⟩)⟩, dkW_eq ht hW⟩, hS.F ht⟩) hS.2.2 dX6_isStreet_13
set_option maxHeartbeats 4000000 in
set_option maxRecDepth 100000 in
theorem c_X6_put_0 (l : Launch) (g : dkG) (z : Nat) (I0 : dkI) (p0 : Int32) (p1 : Int32)  (hO : dkOk I0) (hP : dkPP I0) : Met l yX6_put wsX6_put (dkR 2) (dkPc g z [.ref (z + 340), .int p0, .int p1] I0) (dkQi g z (fun r I1 => dkF [(340, 340, 17, 17), (346, 346, 38, 38), (346, 346, 41, 41), (346, 346, 44, 44), (346, 346, 47, 47), (346, 346, 50, 50), (346, 346, 53, 53), (349, 349, 0, 1295)] I0 I1 ∧ dkOk I1 ∧ dkPP I1 ∧ ((True ∧ True)))) 0 0 (dkA z) := by
  refine Met.ofW (cc := cX6_put) (maxL := 4) (ret := (some .int)) (by decide) rfl ?_
  intro p e s m args below meth c s₁ B hml hv
  obtain ⟨ha, hW, hK, hT⟩ := hv
  have hx := B.exec
  have hb := B.bytes
  have hr := B.returns
  have hts := atoms_spec (ws := wsX6_put) B.pre
  have hown : s.vm.findClass RX6 = some m.cls := findClass_of_methodNamed B.named
  have hlocks := B.notSynchronized
  have hS : va_S (dkA z) s.heap s.heap [] := va_S.rf
  have hF : dkF [(340, 340, 17, 17), (346, 346, 38, 38), (346, 346, 41, 41), (346, 346, 44, 44), (346, 346, 47, 47), (346, 346, 50, 50), (346, 346, 53, 53), (349, 349, 0, 1295)] I0 I0 := dkF_rf _ _
  have hl := lv_entry ([.ref (z + 340), .int p0, .int p1]) (n := 4) (Nat.le_of_ble_eq_true rfl)
  have hgo : entryFrame m args 4 = entryFrame m ([.ref (z + 340), .int p0, .int p1] : List Value).toArray 4 := by rw [ha]
  rw [hgo, lg_entry_eq]
  generalize (lg_sl ([.ref (z + 340), .int p0, .int p1]) ++ List.replicate (4 - (lg_sl ([.ref (z + 340), .int p0, .int p1])).length) Slot.unset).toArray = ls at hl ⊢
  have hl : lv_has ls 4 [(0, .ref (z + 340)), (1, .int p0), (2, .int p1)] := hl
  refine lv_aload_n hx hb dX6_put_0 rfl (lv_at hl 0 rfl) ?_
  refine lv_iload_n hx hb dX6_put_1 rfl (lv_at hl 1 rfl) ?_
  refine dk_Vi (As := [.int p0]) (rest := []) ⟨hx, hb, hml, hown, hts⟩ (c_X6_isDog_0 l g z I0 p0 hO) (cwV 1 hts gX6_put_X6_isDog rfl rfl rfl (by decide +kernel) ⟨Nat.le_of_ble_eq_true rfl, Nat.le_of_ble_eq_true rfl⟩) (dk_at340 hW) rfl hK hT hW hS rfl hl.1 rfl (Nat.le_of_ble_eq_true rfl) dX6_put_2 ⟨Nat.zero_le _, Nat.zero_le _⟩ (fun v1 I1 H1 L1 hp1 hW hS => ?_)
  obtain ⟨hF1, hO, hc1⟩ := hp1
  have hF := dkF_call hF hF1 rfl
  have hP := dkPP_F hP hF1 rfl
  rcases hc1 with ⟨dv1, -⟩ | hc1
  ·
    refine lv_if_eq (tgt := 16) hx hb dX6_put_5 (by decide) (fun c2 => ?_) (fun c2 => ?_)
    ·
      refine lv_ldc (v := (-1000001)) hx hb hown (hts (.constant RX6 64 (-1000001)) (List.mem_of_getElem? (i := 1) rfl)) dX6_put_16 ?_
      exact W.iret (v := (-1000001)) hx hb hr (fun t ht hW9 => ⟨⟨(-1000001), I1, rfl, ⟨hF, hO, hP, ⟨trivial, trivial⟩⟩, dkW_eq ht hW⟩, hS.F ht⟩) hS.2.2 dX6_put_18
    ·
      exact (dkN_nil (show dkN [] v1 from dkN_ne1 (0) dv1 (dkN_lit (x := 0) (0) rfl) (dk_ne c2) rfl)).elim
  ·
    obtain ⟨dv1, a1_0, -⟩ := hc1
    have d3 : dkN [(0, 5)] p0 := dkN_eq1 (dkN_top p0) a1_0 rfl rfl
    refine lv_if_eq (tgt := 16) hx hb dX6_put_5 (by decide) (fun c4 => ?_) (fun c4 => ?_)
    ·
      exact (dkN_nil (show dkN [] v1 from dkN_eq1 dv1 (dkN_lit (x := 0) (0) rfl) (congrArg Int32.toInt c4) rfl)).elim
    ·
      refine lv_aload_n hx hb dX6_put_8 rfl (lv_at hl 0 rfl) ?_
      refine lv_iload_n hx hb dX6_put_9 rfl (lv_at hl 2 rfl) ?_
      refine dk_Vi (As := [.int p1]) (rest := []) ⟨hx, hb, hml, hown, hts⟩ (c_X6_isStreet_0 l g z I1 p1 hO) (cwV 1 hts gX6_put_X6_isStreet rfl rfl rfl (by decide +kernel) ⟨Nat.le_of_ble_eq_true rfl, Nat.le_of_ble_eq_true rfl⟩) (dk_at340 hW) rfl hK hT hW hS rfl hl.1 rfl (Nat.le_of_ble_eq_true rfl) dX6_put_10 ⟨Nat.zero_le _, Nat.zero_le _⟩ (fun v5 I5 H5 L5 hp5 hW hS => ?_)
      obtain ⟨hF5, hO, hc5⟩ := hp5
      have hF := dkF_call hF hF5 rfl
      have hP := dkPP_F hP hF5 rfl
      rcases hc5 with ⟨dv5, -⟩ | hc5
      ·
        refine lv_if_ne (tgt := 19) hx hb dX6_put_13 (by decide) (fun c6 => ?_) (fun c6 => ?_)
        ·
          exact (dkN_nil (show dkN [] v5 from dkN_ne1 (0) dv5 (dkN_lit (x := 0) (0) rfl) (dk_ne c6) rfl)).elim
        ·
          refine lv_ldc (v := (-1000001)) hx hb hown (hts (.constant RX6 64 (-1000001)) (List.mem_of_getElem? (i := 1) rfl)) dX6_put_16 ?_
          exact W.iret (v := (-1000001)) hx hb hr (fun t ht hW9 => ⟨⟨(-1000001), I5, rfl, ⟨hF, hO, hP, ⟨trivial, trivial⟩⟩, dkW_eq ht hW⟩, hS.F ht⟩) hS.2.2 dX6_put_18
      ·
        obtain ⟨dv5, a5_0, -⟩ := hc5
        have d7 : dkN [(0, 8)] p1 := dkN_eq1 (dkN_top p1) a5_0 rfl rfl
        refine lv_if_ne (tgt := 19) hx hb dX6_put_13 (by decide) (fun c8 => ?_) (fun c8 => ?_)
        ·
          refine lv_aload_n hx hb dX6_put_19 rfl (lv_at hl 0 rfl) ?_
          refine dk_get (k := 340) hx hb hts iX6_put_6 hown hK (dk_at340 hW) rfl 13 (by decide) (hts (.fieldLink RX6 25 "DogKingsModel" "now" "[I") (List.mem_of_getElem? (i := 2) rfl)) rfl dX6_put_20 ?_
          refine lv_bipush (v := 36) hx hb dX6_put_23 (by decide) ?_
          refine lv_iconst (v := 3) hx hb dX6_put_25 (by decide) ?_
          refine lv_iload_n hx hb dX6_put_26 rfl (lv_at hl 1 rfl) ?_
          refine lv_imul hx hb dX6_put_27 ?_
          refine lv_topi (fun v9 ev9 => ?_)
          have dv9 : dkN [(0, 0), (3, 3), (6, 6), (9, 9), (12, 12), (15, 15)] v9 := by rw [ev9]; exact dkN_mulPt 3 (dkN_lit (x := 3) (3) rfl) d3 rfl
          refine lv_iadd hx hb dX6_put_28 ?_
          refine lv_topi (fun v10 ev10 => ?_)
          have dv10 : dkN [(36, 36), (39, 39), (42, 42), (45, 45), (48, 48), (51, 51)] v10 := by rw [ev10]; exact dkN_add (dkN_lit (x := 36) (36) rfl) dv9 rfl
          refine lv_iconst (v := 2) hx hb dX6_put_29 (by decide) ?_
          refine lv_iadd hx hb dX6_put_30 ?_
          refine lv_topi (fun v11 ev11 => ?_)
          have dv11 : dkN [(38, 38), (41, 41), (44, 44), (47, 47), (50, 50), (53, 53)] v11 := by rw [ev11]; exact dkN_add dv10 (dkN_lit (x := 2) (2) rfl) rfl
          refine dk_ild (k := 346) hx hb hK (dk_at346 hW) (dkN_in (n := 54) dv11 rfl) dX6_put_31 ?_
          refine lv_topi (fun v12 ev12 => ?_)
          refine lv_istore_n (lv' := [(3, .int v12), (0, .ref (z + 340)), (1, .int p0), (2, .int p1)]) hx hb dX6_put_32 rfl hl (by decide) rfl (fun ls hl => ?_)
          refine lv_iload_n hx hb dX6_put_33 rfl (lv_at hl 0 rfl) ?_
          refine lv_iload_n hx hb dX6_put_34 rfl (lv_at hl 3 rfl) ?_
          refine lv_icmp_ne (tgt := 41) hx hb dX6_put_35 (by decide) (fun c13 => ?_) (fun c13 => ?_)
          ·
            refine lv_aload_n hx hb dX6_put_41 rfl (lv_at hl 1 rfl) ?_
            refine dk_Vv (As := []) (rest := []) ⟨hx, hb, hml, hown, hts⟩ (c_X6_notes l g z I5 hO hP) (cwV 0 hts gX6_put_X6_notes rfl rfl rfl (by decide +kernel) ⟨Nat.le_of_ble_eq_true rfl, Nat.le_of_ble_eq_true rfl⟩) (dk_at340 hW) rfl hK hT hW hS rfl hl.1 rfl (Nat.le_of_ble_eq_true rfl) dX6_put_42 ⟨Nat.zero_le _, Nat.zero_le _⟩ (fun I14 H14 L14 hp14 hW hS => ?_)
            obtain ⟨hF14, hO, hP, hc14⟩ := hp14
            have hF := dkF_call hF hF14 rfl
            obtain ⟨f14_340_17, -⟩ := hc14
            refine lv_aload_n hx hb dX6_put_45 rfl (lv_at hl 1 rfl) ?_
            refine dk_get (k := 340) hx hb hts iX6_put_6 hown hK (dk_at340 hW) rfl 13 (by decide) (hts (.fieldLink RX6 25 "DogKingsModel" "now" "[I") (List.mem_of_getElem? (i := 2) rfl)) rfl dX6_put_46 ?_
            refine lv_bipush (v := 36) hx hb dX6_put_49 (by decide) ?_
            refine lv_iconst (v := 3) hx hb dX6_put_51 (by decide) ?_
            refine lv_iload_n hx hb dX6_put_52 rfl (lv_at hl 2 rfl) ?_
            refine lv_imul hx hb dX6_put_53 ?_
            refine lv_topi (fun v15 ev15 => ?_)
            have dv15 : dkN [(0, 0), (3, 3), (6, 6), (9, 9), (12, 12), (15, 15)] v15 := by rw [ev15]; exact dkN_mulPt 3 (dkN_lit (x := 3) (3) rfl) d3 rfl
            refine lv_iadd hx hb dX6_put_54 ?_
            refine lv_topi (fun v16 ev16 => ?_)
            have dv16 : dkN [(36, 36), (39, 39), (42, 42), (45, 45), (48, 48), (51, 51)] v16 := by rw [ev16]; exact dkN_add (dkN_lit (x := 36) (36) rfl) dv15 rfl
            refine lv_iconst (v := 2) hx hb dX6_put_55 (by decide) ?_
            refine lv_iadd hx hb dX6_put_56 ?_
            refine lv_topi (fun v17 ev17 => ?_)
            have dv17 : dkN [(38, 38), (41, 41), (44, 44), (47, 47), (50, 50), (53, 53)] v17 := by rw [ev17]; exact dkN_add dv16 (dkN_lit (x := 2) (2) rfl) rfl
            refine lv_iload_n hx hb dX6_put_57 rfl (lv_at hl 3 rfl) ?_
            refine dk_ist (k := 346) hx hb hK hW (fun _ => rfl) (by decide) hS (dkN_in (n := 54) dv17 rfl) dX6_put_58 (fun I18 H18 L18 eI18 hW hS => ?_)
            have hO := dkO_set hO eI18 (by rw [dkB_w (k := 346) (B := [(-2147483648, 2147483647)]) (by decide) dv17 rfl]; exact dkN_top _)
            have hF := dkF_set hF eI18 (dkIn_v dv17 rfl)
            have hP := dkPP_set hP eI18 (dkPPb_v dv17 rfl)
            refine lv_iload_n hx hb dX6_put_59 rfl (lv_at hl 0 rfl) ?_
            exact W.iret (v := v12) hx hb hr (fun t ht hW9 => ⟨⟨v12, I18, rfl, ⟨hF, hO, hP, ⟨trivial, trivial⟩⟩, dkW_eq ht hW⟩, hS.F ht⟩) hS.2.2 dX6_put_60
          ·
            have d19 : dkN [(0, 8)] v12 := dkN_eq1 (dkN_top v12) d7 (congrArg Int32.toInt c13) rfl
            refine lv_ldc (v := (-1000002)) hx hb hown (hts (.constant RX6 185 (-1000002)) (List.mem_of_getElem? (i := 3) rfl)) dX6_put_38 ?_
            exact W.iret (v := (-1000002)) hx hb hr (fun t ht hW9 => ⟨⟨(-1000002), I5, rfl, ⟨hF, hO, hP, ⟨trivial, trivial⟩⟩, dkW_eq ht hW⟩, hS.F ht⟩) hS.2.2 dX6_put_40
        ·
          exact (dkN_nil (show dkN [] v5 from dkN_eq1 dv5 (dkN_lit (x := 0) (0) rfl) (congrArg Int32.toInt c8) rfl)).elim
set_option maxHeartbeats 4000000 in
set_option maxRecDepth 100000 in
theorem c_X5_dog_0 (l : Launch) (g : dkG) (z : Nat) (I0 : dkI) (p0 : Int32) (p1 : Int32)  (hO : dkOk I0) : Met l yX5_dog wsX5_dog (dkR 3) (dkPc g z [.ref (z + 0), .int p0, .int p1] I0) (dkQi g z (fun r I1 => dkF [(35, 35, 0, 8)] I0 I1 ∧ dkOk I1 ∧ ((True ∧ True)))) 0 0 (dkA z) := by
  refine Met.ofW (cc := cX5_dog) (maxL := 3) (ret := (some .int)) (by decide) rfl ?_
  intro p e s m args below meth c s₁ B hml hv
  obtain ⟨ha, hW, hK, hT⟩ := hv
  have hx := B.exec
  have hb := B.bytes
  have hr := B.returns
  have hts := atoms_spec (ws := wsX5_dog) B.pre
  have hown : s.vm.findClass RX5 = some m.cls := findClass_of_methodNamed B.named
  have hlocks := B.notSynchronized
  have hS : va_S (dkA z) s.heap s.heap [] := va_S.rf
  have hF : dkF [(35, 35, 0, 8)] I0 I0 := dkF_rf _ _
  have hl := lv_entry ([.ref (z + 0), .int p0, .int p1]) (n := 3) (Nat.le_of_ble_eq_true rfl)
  have hgo : entryFrame m args 3 = entryFrame m ([.ref (z + 0), .int p0, .int p1] : List Value).toArray 3 := by rw [ha]
  rw [hgo, lg_entry_eq]
  generalize (lg_sl ([.ref (z + 0), .int p0, .int p1]) ++ List.replicate (3 - (lg_sl ([.ref (z + 0), .int p0, .int p1])).length) Slot.unset).toArray = ls at hl ⊢
  have hl : lv_has ls 3 [(0, .ref (z + 0)), (1, .int p0), (2, .int p1)] := hl
  refine lv_aload_n hx hb dX5_dog_0 rfl (lv_at hl 0 rfl) ?_
  refine lv_iload_n hx hb dX5_dog_1 rfl (lv_at hl 1 rfl) ?_
  refine dk_Vi (As := [.int p0]) (rest := []) ⟨hx, hb, hml, hown, hts⟩ (c_X5_isDog_0 l g z I0 p0 hO) (cwV 1 hts gX5_dog_X5_isDog rfl rfl rfl (by decide +kernel) ⟨Nat.le_of_ble_eq_true rfl, Nat.le_of_ble_eq_true rfl⟩) (dk_at0 hW) rfl hK hT hW hS rfl hl.1 rfl (Nat.le_of_ble_eq_true rfl) dX5_dog_2 ⟨Nat.zero_le _, Nat.zero_le _⟩ (fun v1 I1 H1 L1 hp1 hW hS => ?_)
  obtain ⟨hF1, hO, hc1⟩ := hp1
  have hF := dkF_call hF hF1 rfl
  rcases hc1 with ⟨dv1, -⟩ | hc1
  ·
    refine lv_if_ne (tgt := 11) hx hb dX5_dog_5 (by decide) (fun c2 => ?_) (fun c2 => ?_)
    ·
      exact (dkN_nil (show dkN [] v1 from dkN_ne1 (0) dv1 (dkN_lit (x := 0) (0) rfl) (dk_ne c2) rfl)).elim
    ·
      refine lv_ldc (v := (-1000001)) hx hb hown (hts (.constant RX5 70 (-1000001)) (List.mem_of_getElem? (i := 1) rfl)) dX5_dog_8 ?_
      exact W.iret (v := (-1000001)) hx hb hr (fun t ht hW9 => ⟨⟨(-1000001), I1, rfl, ⟨hF, hO, ⟨trivial, trivial⟩⟩, dkW_eq ht hW⟩, hS.F ht⟩) hS.2.2 dX5_dog_10
  ·
    obtain ⟨dv1, a1_0, f1_25_11, -⟩ := hc1
    have d3 : dkN [(0, 5)] p0 := dkN_eq1 (dkN_top p0) a1_0 rfl rfl
    refine lv_if_ne (tgt := 11) hx hb dX5_dog_5 (by decide) (fun c4 => ?_) (fun c4 => ?_)
    ·
      refine lv_iload_n hx hb dX5_dog_11 rfl (lv_at hl 2 rfl) ?_
      by_cases c5 : p1 = 0
      ·
        have qc5 : p1.toInt = 0 := by rw [c5]; rfl
        have d6 : dkN [(0, 0)] p1 := dkN_lit (0) qc5
        refine lv_tableIn (tgt := 44) hx hb dX5_dog_12 (by rw [qc5]; decide) (by rw [qc5]; decide) (by rw [qc5]; rfl) (by decide) ?_
        refine lv_aload_n hx hb dX5_dog_44 rfl (lv_at hl 0 rfl) ?_
        refine dk_get (k := 0) hx hb hts iX5_dog_5 hown hK (dk_at0 hW) rfl 5 (by decide) (hts (.fieldLink RX5 31 "DogKings" "now" "LDogKings$Town;") (List.mem_of_getElem? (i := 2) rfl)) rfl dX5_dog_45 ?_
        refine dk_get (k := 25) hx hb hts iX5_dog_4 hown hK (dk_at25 hW) rfl 14 (by decide) (hts (.fieldLink RX5 155 "DogKings$Town" "dogAt" "[I") (List.mem_of_getElem? (i := 3) rfl)) rfl dX5_dog_48 ?_
        refine lv_iload_n hx hb dX5_dog_51 rfl (lv_at hl 1 rfl) ?_
        refine dk_ild (k := 34) hx hb hK (dk_at34 hW) (dkN_in (n := 6) d3 rfl) dX5_dog_52 ?_
        refine lv_topi (fun v7 ev7 => ?_)
        exact W.iret (v := v7) hx hb hr (fun t ht hW9 => ⟨⟨v7, I1, rfl, ⟨hF, hO, ⟨trivial, trivial⟩⟩, dkW_eq ht hW⟩, hS.F ht⟩) hS.2.2 dX5_dog_53
      ·
        have d8 : dkN [(-2147483648, -1), (1, 2147483647)] p1 := dkN_ne1 (0) (dkN_top p1) (dkN_lit (x := 0) (0) rfl) (dk_ne c5) rfl
        by_cases c9 : p1 = 1
        ·
          have qc9 : p1.toInt = 1 := by rw [c9]; rfl
          have d10 : dkN [(1, 1)] p1 := dkN_lit (1) qc9
          refine lv_tableIn (tgt := 54) hx hb dX5_dog_12 (by rw [qc9]; decide) (by rw [qc9]; decide) (by rw [qc9]; rfl) (by decide) ?_
          refine lv_aload_n hx hb dX5_dog_54 rfl (lv_at hl 0 rfl) ?_
          refine dk_get (k := 0) hx hb hts iX5_dog_5 hown hK (dk_at0 hW) rfl 5 (by decide) (hts (.fieldLink RX5 31 "DogKings" "now" "LDogKings$Town;") (List.mem_of_getElem? (i := 2) rfl)) rfl dX5_dog_55 ?_
          refine dk_get (k := 25) hx hb hts iX5_dog_4 hown hK (dk_at25 hW) rfl 13 (by decide) (hts (.fieldLink RX5 165 "DogKings$Town" "dogHome" "[I") (List.mem_of_getElem? (i := 4) rfl)) rfl dX5_dog_58 ?_
          refine lv_iload_n hx hb dX5_dog_61 rfl (lv_at hl 1 rfl) ?_
          refine dk_ild (k := 33) hx hb hK (dk_at33 hW) (dkN_in (n := 6) d3 rfl) dX5_dog_62 ?_
          refine lv_topi (fun v11 ev11 => ?_)
          exact W.iret (v := v11) hx hb hr (fun t ht hW9 => ⟨⟨v11, I1, rfl, ⟨hF, hO, ⟨trivial, trivial⟩⟩, dkW_eq ht hW⟩, hS.F ht⟩) hS.2.2 dX5_dog_63
        ·
          have d12 : dkN [(-2147483648, -1), (2, 2147483647)] p1 := dkN_ne1 (1) d8 (dkN_lit (x := 1) (1) rfl) (dk_ne c9) rfl
          by_cases c13 : p1 = 2
          ·
            have qc13 : p1.toInt = 2 := by rw [c13]; rfl
            have d14 : dkN [(2, 2)] p1 := dkN_lit (2) qc13
            refine lv_tableIn (tgt := 64) hx hb dX5_dog_12 (by rw [qc13]; decide) (by rw [qc13]; decide) (by rw [qc13]; rfl) (by decide) ?_
            refine lv_aload_n hx hb dX5_dog_64 rfl (lv_at hl 0 rfl) ?_
            refine dk_get (k := 0) hx hb hts iX5_dog_5 hown hK (dk_at0 hW) rfl 5 (by decide) (hts (.fieldLink RX5 31 "DogKings" "now" "LDogKings$Town;") (List.mem_of_getElem? (i := 2) rfl)) rfl dX5_dog_65 ?_
            refine lv_iload_n hx hb dX5_dog_68 rfl (lv_at hl 1 rfl) ?_
            refine dk_Vi (As := [.int p0]) (rest := []) ⟨hx, hb, hml, hown, hts⟩ (c_X4_favourite_0 l g z I1 (25) (by unfold dkT; omega) p0 d3 hO) (cwV 1 hts gX5_dog_X4_favourite rfl rfl rfl (by decide +kernel) ⟨Nat.le_of_ble_eq_true rfl, Nat.le_of_ble_eq_true rfl⟩) (dk_at25 hW) rfl hK hT hW hS rfl hl.1 rfl (Nat.le_of_ble_eq_true rfl) dX5_dog_69 ⟨Nat.zero_le _, Nat.zero_le _⟩ (fun v15 I15 H15 L15 hp15 hW hS => ?_)
            obtain ⟨hF15, hO, hc15⟩ := hp15
            have hF := dkF_call hF hF15 rfl
            obtain ⟨dv15, -⟩ := hc15
            exact W.iret (v := v15) hx hb hr (fun t ht hW9 => ⟨⟨v15, I15, rfl, ⟨hF, hO, ⟨trivial, trivial⟩⟩, dkW_eq ht hW⟩, hS.F ht⟩) hS.2.2 dX5_dog_72
          ·
            have d16 : dkN [(-2147483648, -1), (3, 2147483647)] p1 := dkN_ne1 (2) d12 (dkN_lit (x := 2) (2) rfl) (dk_ne c13) rfl
            by_cases c17 : p1 = 3
            ·
              have qc17 : p1.toInt = 3 := by rw [c17]; rfl
              have d18 : dkN [(3, 3)] p1 := dkN_lit (3) qc17
              refine lv_tableIn (tgt := 73) hx hb dX5_dog_12 (by rw [qc17]; decide) (by rw [qc17]; decide) (by rw [qc17]; rfl) (by decide) ?_
              refine lv_aload_n hx hb dX5_dog_73 rfl (lv_at hl 0 rfl) ?_
              refine dk_get (k := 0) hx hb hts iX5_dog_5 hown hK (dk_at0 hW) rfl 5 (by decide) (hts (.fieldLink RX5 31 "DogKings" "now" "LDogKings$Town;") (List.mem_of_getElem? (i := 2) rfl)) rfl dX5_dog_74 ?_
              refine lv_iload_n hx hb dX5_dog_77 rfl (lv_at hl 1 rfl) ?_
              refine dk_Vi (As := [.int p0]) (rest := []) ⟨hx, hb, hml, hown, hts⟩ (c_X4_goal_0 l g z I1 (25) (by unfold dkT; omega) p0 d3 hO) (cwV 1 hts gX5_dog_X4_goal rfl rfl rfl (by decide +kernel) ⟨Nat.le_of_ble_eq_true rfl, Nat.le_of_ble_eq_true rfl⟩) (dk_at25 hW) rfl hK hT hW hS rfl hl.1 rfl (Nat.le_of_ble_eq_true rfl) dX5_dog_78 ⟨Nat.zero_le _, Nat.zero_le _⟩ (fun v19 I19 H19 L19 hp19 hW hS => ?_)
              obtain ⟨hF19, hO, hc19⟩ := hp19
              have hF := dkF_call hF hF19 rfl
              obtain ⟨_, -⟩ := hc19
              exact W.iret (v := v19) hx hb hr (fun t ht hW9 => ⟨⟨v19, I19, rfl, ⟨hF, hO, ⟨trivial, trivial⟩⟩, dkW_eq ht hW⟩, hS.F ht⟩) hS.2.2 dX5_dog_81
            ·
              have d20 : dkN [(-2147483648, -1), (4, 2147483647)] p1 := dkN_ne1 (3) d16 (dkN_lit (x := 3) (3) rfl) (dk_ne c17) rfl
              refine lv_tableOut (tgt := 82) hx hb dX5_dog_12 (dkN_out d20 rfl) (by decide) ?_
              refine lv_ldc (v := (-1000001)) hx hb hown (hts (.constant RX5 70 (-1000001)) (List.mem_of_getElem? (i := 1) rfl)) dX5_dog_82 ?_
              exact W.iret (v := (-1000001)) hx hb hr (fun t ht hW9 => ⟨⟨(-1000001), I1, rfl, ⟨hF, hO, ⟨trivial, trivial⟩⟩, dkW_eq ht hW⟩, hS.F ht⟩) hS.2.2 dX5_dog_84
    ·
      exact (dkN_nil (show dkN [] v1 from dkN_eq1 dv1 (dkN_lit (x := 0) (0) rfl) (congrArg Int32.toInt c4) rfl)).elim
set_option maxHeartbeats 4000000 in
set_option maxRecDepth 100000 in
theorem c_X6_dog_0 (l : Launch) (g : dkG) (z : Nat) (I0 : dkI) (p0 : Int32) (p1 : Int32)  (hO : dkOk I0) : Met l yX6_dog wsX6_dog (dkR 4) (dkPc g z [.ref (z + 340), .int p0, .int p1] I0) (dkQi g z (fun r I1 => dkF [] I0 I1 ∧ dkOk I1 ∧ ((True ∧ True)))) 0 0 (dkA z) := by
  refine Met.ofW (cc := cX6_dog) (maxL := 3) (ret := (some .int)) (by decide) rfl ?_
  intro p e s m args below meth c s₁ B hml hv
  obtain ⟨ha, hW, hK, hT⟩ := hv
  have hx := B.exec
  have hb := B.bytes
  have hr := B.returns
  have hts := atoms_spec (ws := wsX6_dog) B.pre
  have hown : s.vm.findClass RX6 = some m.cls := findClass_of_methodNamed B.named
  have hlocks := B.notSynchronized
  have hS : va_S (dkA z) s.heap s.heap [] := va_S.rf
  have hF : dkF [] I0 I0 := dkF_rf _ _
  have hl := lv_entry ([.ref (z + 340), .int p0, .int p1]) (n := 3) (Nat.le_of_ble_eq_true rfl)
  have hgo : entryFrame m args 3 = entryFrame m ([.ref (z + 340), .int p0, .int p1] : List Value).toArray 3 := by rw [ha]
  rw [hgo, lg_entry_eq]
  generalize (lg_sl ([.ref (z + 340), .int p0, .int p1]) ++ List.replicate (3 - (lg_sl ([.ref (z + 340), .int p0, .int p1])).length) Slot.unset).toArray = ls at hl ⊢
  have hl : lv_has ls 3 [(0, .ref (z + 340)), (1, .int p0), (2, .int p1)] := hl
  refine lv_aload_n hx hb dX6_dog_0 rfl (lv_at hl 0 rfl) ?_
  refine lv_iload_n hx hb dX6_dog_1 rfl (lv_at hl 1 rfl) ?_
  refine dk_Vi (As := [.int p0]) (rest := []) ⟨hx, hb, hml, hown, hts⟩ (c_X6_isDog_0 l g z I0 p0 hO) (cwV 1 hts gX6_dog_X6_isDog rfl rfl rfl (by decide +kernel) ⟨Nat.le_of_ble_eq_true rfl, Nat.le_of_ble_eq_true rfl⟩) (dk_at340 hW) rfl hK hT hW hS rfl hl.1 rfl (Nat.le_of_ble_eq_true rfl) dX6_dog_2 ⟨Nat.zero_le _, Nat.zero_le _⟩ (fun v1 I1 H1 L1 hp1 hW hS => ?_)
  obtain ⟨hF1, hO, hc1⟩ := hp1
  have hF := dkF_call hF hF1 rfl
  rcases hc1 with ⟨dv1, -⟩ | hc1
  ·
    refine lv_if_ne (tgt := 11) hx hb dX6_dog_5 (by decide) (fun c2 => ?_) (fun c2 => ?_)
    ·
      exact (dkN_nil (show dkN [] v1 from dkN_ne1 (0) dv1 (dkN_lit (x := 0) (0) rfl) (dk_ne c2) rfl)).elim
    ·
      refine lv_ldc (v := (-1000001)) hx hb hown (hts (.constant RX6 64 (-1000001)) (List.mem_of_getElem? (i := 1) rfl)) dX6_dog_8 ?_
      exact W.iret (v := (-1000001)) hx hb hr (fun t ht hW9 => ⟨⟨(-1000001), I1, rfl, ⟨hF, hO, ⟨trivial, trivial⟩⟩, dkW_eq ht hW⟩, hS.F ht⟩) hS.2.2 dX6_dog_10
  ·
    obtain ⟨dv1, a1_0, -⟩ := hc1
    have d3 : dkN [(0, 5)] p0 := dkN_eq1 (dkN_top p0) a1_0 rfl rfl
    refine lv_if_ne (tgt := 11) hx hb dX6_dog_5 (by decide) (fun c4 => ?_) (fun c4 => ?_)
    ·
      refine lv_iload_n hx hb dX6_dog_11 rfl (lv_at hl 2 rfl) ?_
      by_cases c5 : p1 = 0
      ·
        have qc5 : p1.toInt = 0 := by rw [c5]; rfl
        have d6 : dkN [(0, 0)] p1 := dkN_lit (0) qc5
        refine lv_tableIn (tgt := 44) hx hb dX6_dog_12 (by rw [qc5]; decide) (by rw [qc5]; decide) (by rw [qc5]; rfl) (by decide) ?_
        refine lv_aload_n hx hb dX6_dog_44 rfl (lv_at hl 0 rfl) ?_
        refine dk_get (k := 340) hx hb hts iX6_dog_6 hown hK (dk_at340 hW) rfl 13 (by decide) (hts (.fieldLink RX6 25 "DogKingsModel" "now" "[I") (List.mem_of_getElem? (i := 2) rfl)) rfl dX6_dog_45 ?_
        refine lv_bipush (v := 36) hx hb dX6_dog_48 (by decide) ?_
        refine lv_iconst (v := 3) hx hb dX6_dog_50 (by decide) ?_
        refine lv_iload_n hx hb dX6_dog_51 rfl (lv_at hl 1 rfl) ?_
        refine lv_imul hx hb dX6_dog_52 ?_
        refine lv_topi (fun v7 ev7 => ?_)
        have dv7 : dkN [(0, 0), (3, 3), (6, 6), (9, 9), (12, 12), (15, 15)] v7 := by rw [ev7]; exact dkN_mulPt 3 (dkN_lit (x := 3) (3) rfl) d3 rfl
        refine lv_iadd hx hb dX6_dog_53 ?_
        refine lv_topi (fun v8 ev8 => ?_)
        have dv8 : dkN [(36, 36), (39, 39), (42, 42), (45, 45), (48, 48), (51, 51)] v8 := by rw [ev8]; exact dkN_add (dkN_lit (x := 36) (36) rfl) dv7 rfl
        refine lv_iconst (v := 2) hx hb dX6_dog_54 (by decide) ?_
        refine lv_iadd hx hb dX6_dog_55 ?_
        refine lv_topi (fun v9 ev9 => ?_)
        have dv9 : dkN [(38, 38), (41, 41), (44, 44), (47, 47), (50, 50), (53, 53)] v9 := by rw [ev9]; exact dkN_add dv8 (dkN_lit (x := 2) (2) rfl) rfl
        refine dk_ild (k := 346) hx hb hK (dk_at346 hW) (dkN_in (n := 54) dv9 rfl) dX6_dog_56 ?_
        refine lv_topi (fun v10 ev10 => ?_)
        exact W.iret (v := v10) hx hb hr (fun t ht hW9 => ⟨⟨v10, I1, rfl, ⟨hF, hO, ⟨trivial, trivial⟩⟩, dkW_eq ht hW⟩, hS.F ht⟩) hS.2.2 dX6_dog_57
      ·
        have d11 : dkN [(-2147483648, -1), (1, 2147483647)] p1 := dkN_ne1 (0) (dkN_top p1) (dkN_lit (x := 0) (0) rfl) (dk_ne c5) rfl
        by_cases c12 : p1 = 1
        ·
          have qc12 : p1.toInt = 1 := by rw [c12]; rfl
          have d13 : dkN [(1, 1)] p1 := dkN_lit (1) qc12
          refine lv_tableIn (tgt := 58) hx hb dX6_dog_12 (by rw [qc12]; decide) (by rw [qc12]; decide) (by rw [qc12]; rfl) (by decide) ?_
          refine lv_aload_n hx hb dX6_dog_58 rfl (lv_at hl 0 rfl) ?_
          refine dk_get (k := 340) hx hb hts iX6_dog_6 hown hK (dk_at340 hW) rfl 13 (by decide) (hts (.fieldLink RX6 25 "DogKingsModel" "now" "[I") (List.mem_of_getElem? (i := 2) rfl)) rfl dX6_dog_59 ?_
          refine lv_bipush (v := 36) hx hb dX6_dog_62 (by decide) ?_
          refine lv_iconst (v := 3) hx hb dX6_dog_64 (by decide) ?_
          refine lv_iload_n hx hb dX6_dog_65 rfl (lv_at hl 1 rfl) ?_
          refine lv_imul hx hb dX6_dog_66 ?_
          refine lv_topi (fun v14 ev14 => ?_)
          have dv14 : dkN [(0, 0), (3, 3), (6, 6), (9, 9), (12, 12), (15, 15)] v14 := by rw [ev14]; exact dkN_mulPt 3 (dkN_lit (x := 3) (3) rfl) d3 rfl
          refine lv_iadd hx hb dX6_dog_67 ?_
          refine lv_topi (fun v15 ev15 => ?_)
          have dv15 : dkN [(36, 36), (39, 39), (42, 42), (45, 45), (48, 48), (51, 51)] v15 := by rw [ev15]; exact dkN_add (dkN_lit (x := 36) (36) rfl) dv14 rfl
          refine lv_iconst (v := 1) hx hb dX6_dog_68 (by decide) ?_
          refine lv_iadd hx hb dX6_dog_69 ?_
          refine lv_topi (fun v16 ev16 => ?_)
          have dv16 : dkN [(37, 37), (40, 40), (43, 43), (46, 46), (49, 49), (52, 52)] v16 := by rw [ev16]; exact dkN_add dv15 (dkN_lit (x := 1) (1) rfl) rfl
          refine dk_ild (k := 346) hx hb hK (dk_at346 hW) (dkN_in (n := 54) dv16 rfl) dX6_dog_70 ?_
          refine lv_topi (fun v17 ev17 => ?_)
          exact W.iret (v := v17) hx hb hr (fun t ht hW9 => ⟨⟨v17, I1, rfl, ⟨hF, hO, ⟨trivial, trivial⟩⟩, dkW_eq ht hW⟩, hS.F ht⟩) hS.2.2 dX6_dog_71
        ·
          have d18 : dkN [(-2147483648, -1), (2, 2147483647)] p1 := dkN_ne1 (1) d11 (dkN_lit (x := 1) (1) rfl) (dk_ne c12) rfl
          by_cases c19 : p1 = 2
          ·
            have qc19 : p1.toInt = 2 := by rw [c19]; rfl
            have d20 : dkN [(2, 2)] p1 := dkN_lit (2) qc19
            refine lv_tableIn (tgt := 72) hx hb dX6_dog_12 (by rw [qc19]; decide) (by rw [qc19]; decide) (by rw [qc19]; rfl) (by decide) ?_
            refine lv_aload_n hx hb dX6_dog_72 rfl (lv_at hl 0 rfl) ?_
            refine dk_get (k := 340) hx hb hts iX6_dog_6 hown hK (dk_at340 hW) rfl 13 (by decide) (hts (.fieldLink RX6 25 "DogKingsModel" "now" "[I") (List.mem_of_getElem? (i := 2) rfl)) rfl dX6_dog_73 ?_
            refine lv_iload_n hx hb dX6_dog_76 rfl (lv_at hl 1 rfl) ?_
            refine dk_Si (As := [.ref (z + 346), .int p0]) (rest := []) ⟨hx, hb, hml, hown, hts⟩ (c_X6_master_0 l g z I1 p0 d3 hO) (va_cwS 2 hts gX6_dog_X6_master rfl rfl rfl (by decide +kernel) ⟨Nat.le_of_ble_eq_true rfl, Nat.le_of_ble_eq_true rfl⟩) hK hT hW hS rfl hl.1 rfl (Nat.le_of_ble_eq_true rfl) dX6_dog_77 ⟨Nat.zero_le _, Nat.zero_le _⟩ (fun v21 I21 H21 L21 hp21 hW hS => ?_)
            obtain ⟨hF21, hO, hc21⟩ := hp21
            have hF := dkF_call hF hF21 rfl
            obtain ⟨dv21, -⟩ := hc21
            exact W.iret (v := v21) hx hb hr (fun t ht hW9 => ⟨⟨v21, I21, rfl, ⟨hF, hO, ⟨trivial, trivial⟩⟩, dkW_eq ht hW⟩, hS.F ht⟩) hS.2.2 dX6_dog_80
          ·
            have d22 : dkN [(-2147483648, -1), (3, 2147483647)] p1 := dkN_ne1 (2) d18 (dkN_lit (x := 2) (2) rfl) (dk_ne c19) rfl
            by_cases c23 : p1 = 3
            ·
              have qc23 : p1.toInt = 3 := by rw [c23]; rfl
              have d24 : dkN [(3, 3)] p1 := dkN_lit (3) qc23
              refine lv_tableIn (tgt := 81) hx hb dX6_dog_12 (by rw [qc23]; decide) (by rw [qc23]; decide) (by rw [qc23]; rfl) (by decide) ?_
              refine lv_aload_n hx hb dX6_dog_81 rfl (lv_at hl 0 rfl) ?_
              refine dk_get (k := 340) hx hb hts iX6_dog_6 hown hK (dk_at340 hW) rfl 13 (by decide) (hts (.fieldLink RX6 25 "DogKingsModel" "now" "[I") (List.mem_of_getElem? (i := 2) rfl)) rfl dX6_dog_82 ?_
              refine lv_iload_n hx hb dX6_dog_85 rfl (lv_at hl 1 rfl) ?_
              refine lv_iconst (v := 0) hx hb dX6_dog_86 (by decide) ?_
              refine dk_Si (As := [.ref (z + 346), .int p0, .int 0]) (rest := []) ⟨hx, hb, hml, hown, hts⟩ (c_X6_aim_0 l g z I1 p0 0 d3 hO) (va_cwS 3 hts gX6_dog_X6_aim rfl rfl rfl (by decide +kernel) ⟨Nat.le_of_ble_eq_true rfl, Nat.le_of_ble_eq_true rfl⟩) hK hT hW hS rfl hl.1 rfl (Nat.le_of_ble_eq_true rfl) dX6_dog_87 ⟨Nat.zero_le _, Nat.zero_le _⟩ (fun v25 I25 H25 L25 hp25 hW hS => ?_)
              obtain ⟨hF25, hO, hc25⟩ := hp25
              have hF := dkF_call hF hF25 rfl
              obtain ⟨_, -⟩ := hc25
              exact W.iret (v := v25) hx hb hr (fun t ht hW9 => ⟨⟨v25, I25, rfl, ⟨hF, hO, ⟨trivial, trivial⟩⟩, dkW_eq ht hW⟩, hS.F ht⟩) hS.2.2 dX6_dog_90
            ·
              have d26 : dkN [(-2147483648, -1), (4, 2147483647)] p1 := dkN_ne1 (3) d22 (dkN_lit (x := 3) (3) rfl) (dk_ne c23) rfl
              refine lv_tableOut (tgt := 91) hx hb dX6_dog_12 (dkN_out d26 rfl) (by decide) ?_
              refine lv_ldc (v := (-1000001)) hx hb hown (hts (.constant RX6 64 (-1000001)) (List.mem_of_getElem? (i := 1) rfl)) dX6_dog_91 ?_
              exact W.iret (v := (-1000001)) hx hb hr (fun t ht hW9 => ⟨⟨(-1000001), I1, rfl, ⟨hF, hO, ⟨trivial, trivial⟩⟩, dkW_eq ht hW⟩, hS.F ht⟩) hS.2.2 dX6_dog_93
    ·
      exact (dkN_nil (show dkN [] v1 from dkN_eq1 dv1 (dkN_lit (x := 0) (0) rfl) (congrArg Int32.toInt c4) rfl)).elim
set_option maxHeartbeats 4000000 in
set_option maxRecDepth 100000 in
theorem c_X5_person_0 (l : Launch) (g : dkG) (z : Nat) (I0 : dkI) (p0 : Int32) (p1 : Int32)  (hO : dkOk I0) : Met l yX5_person wsX5_person (dkR 2) (dkPc g z [.ref (z + 0), .int p0, .int p1] I0) (dkQi g z (fun r I1 => dkF [] I0 I1 ∧ dkOk I1 ∧ ((True ∧ True)))) 0 0 (dkA z) := by
  refine Met.ofW (cc := cX5_person) (maxL := 3) (ret := (some .int)) (by decide) rfl ?_
  intro p e s m args below meth c s₁ B hml hv
  obtain ⟨ha, hW, hK, hT⟩ := hv
  have hx := B.exec
  have hb := B.bytes
  have hr := B.returns
  have hts := atoms_spec (ws := wsX5_person) B.pre
  have hown : s.vm.findClass RX5 = some m.cls := findClass_of_methodNamed B.named
  have hlocks := B.notSynchronized
  have hS : va_S (dkA z) s.heap s.heap [] := va_S.rf
  have hF : dkF [] I0 I0 := dkF_rf _ _
  have hl := lv_entry ([.ref (z + 0), .int p0, .int p1]) (n := 3) (Nat.le_of_ble_eq_true rfl)
  have hgo : entryFrame m args 3 = entryFrame m ([.ref (z + 0), .int p0, .int p1] : List Value).toArray 3 := by rw [ha]
  rw [hgo, lg_entry_eq]
  generalize (lg_sl ([.ref (z + 0), .int p0, .int p1]) ++ List.replicate (3 - (lg_sl ([.ref (z + 0), .int p0, .int p1])).length) Slot.unset).toArray = ls at hl ⊢
  have hl : lv_has ls 3 [(0, .ref (z + 0)), (1, .int p0), (2, .int p1)] := hl
  refine lv_aload_n hx hb dX5_person_0 rfl (lv_at hl 0 rfl) ?_
  refine lv_iload_n hx hb dX5_person_1 rfl (lv_at hl 1 rfl) ?_
  refine dk_Vi (As := [.int p0]) (rest := []) ⟨hx, hb, hml, hown, hts⟩ (c_X5_isPerson_0 l g z I0 p0 hO) (cwV 1 hts gX5_person_X5_isPerson rfl rfl rfl (by decide +kernel) ⟨Nat.le_of_ble_eq_true rfl, Nat.le_of_ble_eq_true rfl⟩) (dk_at0 hW) rfl hK hT hW hS rfl hl.1 rfl (Nat.le_of_ble_eq_true rfl) dX5_person_2 ⟨Nat.zero_le _, Nat.zero_le _⟩ (fun v1 I1 H1 L1 hp1 hW hS => ?_)
  obtain ⟨hF1, hO, hc1⟩ := hp1
  have hF := dkF_call hF hF1 rfl
  rcases hc1 with ⟨dv1, -⟩ | hc1
  ·
    refine lv_if_ne (tgt := 11) hx hb dX5_person_5 (by decide) (fun c2 => ?_) (fun c2 => ?_)
    ·
      exact (dkN_nil (show dkN [] v1 from dkN_ne1 (0) dv1 (dkN_lit (x := 0) (0) rfl) (dk_ne c2) rfl)).elim
    ·
      refine lv_ldc (v := (-1000001)) hx hb hown (hts (.constant RX5 70 (-1000001)) (List.mem_of_getElem? (i := 1) rfl)) dX5_person_8 ?_
      exact W.iret (v := (-1000001)) hx hb hr (fun t ht hW9 => ⟨⟨(-1000001), I1, rfl, ⟨hF, hO, ⟨trivial, trivial⟩⟩, dkW_eq ht hW⟩, hS.F ht⟩) hS.2.2 dX5_person_10
  ·
    obtain ⟨dv1, a1_0, f1_25_4, -⟩ := hc1
    have d3 : dkN [(0, 4)] p0 := dkN_eq1 (dkN_top p0) a1_0 rfl rfl
    refine lv_if_ne (tgt := 11) hx hb dX5_person_5 (by decide) (fun c4 => ?_) (fun c4 => ?_)
    ·
      refine lv_iload_n hx hb dX5_person_11 rfl (lv_at hl 2 rfl) ?_
      by_cases c5 : p1 = 0
      ·
        have qc5 : p1.toInt = 0 := by rw [c5]; rfl
        have d6 : dkN [(0, 0)] p1 := dkN_lit (0) qc5
        refine lv_tableIn (tgt := 56) hx hb dX5_person_12 (by rw [qc5]; decide) (by rw [qc5]; decide) (by rw [qc5]; rfl) (by decide) ?_
        refine lv_aload_n hx hb dX5_person_56 rfl (lv_at hl 0 rfl) ?_
        refine dk_get (k := 0) hx hb hts iX5_person_5 hown hK (dk_at0 hW) rfl 5 (by decide) (hts (.fieldLink RX5 31 "DogKings" "now" "LDogKings$Town;") (List.mem_of_getElem? (i := 2) rfl)) rfl dX5_person_57 ?_
        refine dk_get (k := 25) hx hb hts iX5_person_4 hown hK (dk_at25 hW) rfl 7 (by decide) (hts (.fieldLink RX5 174 "DogKings$Town" "personAt" "[I") (List.mem_of_getElem? (i := 3) rfl)) rfl dX5_person_60 ?_
        refine lv_iload_n hx hb dX5_person_63 rfl (lv_at hl 1 rfl) ?_
        refine dk_ild (k := 28) hx hb hK (dk_at28 hW) (dkN_in (n := 5) d3 rfl) dX5_person_64 ?_
        refine lv_topi (fun v7 ev7 => ?_)
        exact W.iret (v := v7) hx hb hr (fun t ht hW9 => ⟨⟨v7, I1, rfl, ⟨hF, hO, ⟨trivial, trivial⟩⟩, dkW_eq ht hW⟩, hS.F ht⟩) hS.2.2 dX5_person_65
      ·
        have d8 : dkN [(-2147483648, -1), (1, 2147483647)] p1 := dkN_ne1 (0) (dkN_top p1) (dkN_lit (x := 0) (0) rfl) (dk_ne c5) rfl
        by_cases c9 : p1 = 1
        ·
          have qc9 : p1.toInt = 1 := by rw [c9]; rfl
          have d10 : dkN [(1, 1)] p1 := dkN_lit (1) qc9
          refine lv_tableIn (tgt := 66) hx hb dX5_person_12 (by rw [qc9]; decide) (by rw [qc9]; decide) (by rw [qc9]; rfl) (by decide) ?_
          refine lv_aload_n hx hb dX5_person_66 rfl (lv_at hl 0 rfl) ?_
          refine dk_get (k := 0) hx hb hts iX5_person_5 hown hK (dk_at0 hW) rfl 5 (by decide) (hts (.fieldLink RX5 31 "DogKings" "now" "LDogKings$Town;") (List.mem_of_getElem? (i := 2) rfl)) rfl dX5_person_67 ?_
          refine dk_get (k := 25) hx hb hts iX5_person_4 hown hK (dk_at25 hW) rfl 5 (by decide) (hts (.fieldLink RX5 177 "DogKings$Town" "personHome" "[I") (List.mem_of_getElem? (i := 4) rfl)) rfl dX5_person_70 ?_
          refine lv_iload_n hx hb dX5_person_73 rfl (lv_at hl 1 rfl) ?_
          refine dk_ild (k := 26) hx hb hK (dk_at26 hW) (dkN_in (n := 5) d3 rfl) dX5_person_74 ?_
          refine lv_topi (fun v11 ev11 => ?_)
          exact W.iret (v := v11) hx hb hr (fun t ht hW9 => ⟨⟨v11, I1, rfl, ⟨hF, hO, ⟨trivial, trivial⟩⟩, dkW_eq ht hW⟩, hS.F ht⟩) hS.2.2 dX5_person_75
        ·
          have d12 : dkN [(-2147483648, -1), (2, 2147483647)] p1 := dkN_ne1 (1) d8 (dkN_lit (x := 1) (1) rfl) (dk_ne c9) rfl
          by_cases c13 : p1 = 2
          ·
            have qc13 : p1.toInt = 2 := by rw [c13]; rfl
            have d14 : dkN [(2, 2)] p1 := dkN_lit (2) qc13
            refine lv_tableIn (tgt := 76) hx hb dX5_person_12 (by rw [qc13]; decide) (by rw [qc13]; decide) (by rw [qc13]; rfl) (by decide) ?_
            refine lv_aload_n hx hb dX5_person_76 rfl (lv_at hl 0 rfl) ?_
            refine dk_get (k := 0) hx hb hts iX5_person_5 hown hK (dk_at0 hW) rfl 5 (by decide) (hts (.fieldLink RX5 31 "DogKings" "now" "LDogKings$Town;") (List.mem_of_getElem? (i := 2) rfl)) rfl dX5_person_77 ?_
            refine dk_get (k := 25) hx hb hts iX5_person_4 hown hK (dk_at25 hW) rfl 6 (by decide) (hts (.fieldLink RX5 180 "DogKings$Town" "smell" "[I") (List.mem_of_getElem? (i := 5) rfl)) rfl dX5_person_80 ?_
            refine lv_iload_n hx hb dX5_person_83 rfl (lv_at hl 1 rfl) ?_
            refine dk_ild (k := 27) hx hb hK (dk_at27 hW) (dkN_in (n := 5) d3 rfl) dX5_person_84 ?_
            refine lv_topi (fun v15 ev15 => ?_)
            exact W.iret (v := v15) hx hb hr (fun t ht hW9 => ⟨⟨v15, I1, rfl, ⟨hF, hO, ⟨trivial, trivial⟩⟩, dkW_eq ht hW⟩, hS.F ht⟩) hS.2.2 dX5_person_85
          ·
            have d16 : dkN [(-2147483648, -1), (3, 2147483647)] p1 := dkN_ne1 (2) d12 (dkN_lit (x := 2) (2) rfl) (dk_ne c13) rfl
            by_cases c17 : p1 = 3
            ·
              have qc17 : p1.toInt = 3 := by rw [c17]; rfl
              have d18 : dkN [(3, 3)] p1 := dkN_lit (3) qc17
              refine lv_tableIn (tgt := 86) hx hb dX5_person_12 (by rw [qc17]; decide) (by rw [qc17]; decide) (by rw [qc17]; rfl) (by decide) ?_
              refine lv_aload_n hx hb dX5_person_86 rfl (lv_at hl 0 rfl) ?_
              refine dk_get (k := 0) hx hb hts iX5_person_5 hown hK (dk_at0 hW) rfl 5 (by decide) (hts (.fieldLink RX5 31 "DogKings" "now" "LDogKings$Town;") (List.mem_of_getElem? (i := 2) rfl)) rfl dX5_person_87 ?_
              refine dk_get (k := 25) hx hb hts iX5_person_4 hown hK (dk_at25 hW) rfl 8 (by decide) (hts (.fieldLink RX5 143 "DogKings$Town" "bones" "[I") (List.mem_of_getElem? (i := 6) rfl)) rfl dX5_person_90 ?_
              refine lv_iload_n hx hb dX5_person_93 rfl (lv_at hl 1 rfl) ?_
              refine dk_ild (k := 29) hx hb hK (dk_at29 hW) (dkN_in (n := 5) d3 rfl) dX5_person_94 ?_
              refine lv_topi (fun v19 ev19 => ?_)
              exact W.iret (v := v19) hx hb hr (fun t ht hW9 => ⟨⟨v19, I1, rfl, ⟨hF, hO, ⟨trivial, trivial⟩⟩, dkW_eq ht hW⟩, hS.F ht⟩) hS.2.2 dX5_person_95
            ·
              have d20 : dkN [(-2147483648, -1), (4, 2147483647)] p1 := dkN_ne1 (3) d16 (dkN_lit (x := 3) (3) rfl) (dk_ne c17) rfl
              by_cases c21 : p1 = 4
              ·
                have qc21 : p1.toInt = 4 := by rw [c21]; rfl
                have d22 : dkN [(4, 4)] p1 := dkN_lit (4) qc21
                refine lv_tableIn (tgt := 96) hx hb dX5_person_12 (by rw [qc21]; decide) (by rw [qc21]; decide) (by rw [qc21]; rfl) (by decide) ?_
                refine lv_aload_n hx hb dX5_person_96 rfl (lv_at hl 0 rfl) ?_
                refine dk_get (k := 0) hx hb hts iX5_person_5 hown hK (dk_at0 hW) rfl 5 (by decide) (hts (.fieldLink RX5 31 "DogKings" "now" "LDogKings$Town;") (List.mem_of_getElem? (i := 2) rfl)) rfl dX5_person_97 ?_
                refine dk_get (k := 25) hx hb hts iX5_person_4 hown hK (dk_at25 hW) rfl 9 (by decide) (hts (.fieldLink RX5 146 "DogKings$Town" "gait" "[I") (List.mem_of_getElem? (i := 7) rfl)) rfl dX5_person_100 ?_
                refine lv_iload_n hx hb dX5_person_103 rfl (lv_at hl 1 rfl) ?_
                refine dk_ild (k := 30) hx hb hK (dk_at30 hW) (dkN_in (n := 5) d3 rfl) dX5_person_104 ?_
                refine lv_topi (fun v23 ev23 => ?_)
                exact W.iret (v := v23) hx hb hr (fun t ht hW9 => ⟨⟨v23, I1, rfl, ⟨hF, hO, ⟨trivial, trivial⟩⟩, dkW_eq ht hW⟩, hS.F ht⟩) hS.2.2 dX5_person_105
              ·
                have d24 : dkN [(-2147483648, -1), (5, 2147483647)] p1 := dkN_ne1 (4) d20 (dkN_lit (x := 4) (4) rfl) (dk_ne c21) rfl
                by_cases c25 : p1 = 5
                ·
                  have qc25 : p1.toInt = 5 := by rw [c25]; rfl
                  have d26 : dkN [(5, 5)] p1 := dkN_lit (5) qc25
                  refine lv_tableIn (tgt := 106) hx hb dX5_person_12 (by rw [qc25]; decide) (by rw [qc25]; decide) (by rw [qc25]; rfl) (by decide) ?_
                  refine lv_aload_n hx hb dX5_person_106 rfl (lv_at hl 0 rfl) ?_
                  refine dk_get (k := 0) hx hb hts iX5_person_5 hown hK (dk_at0 hW) rfl 5 (by decide) (hts (.fieldLink RX5 31 "DogKings" "now" "LDogKings$Town;") (List.mem_of_getElem? (i := 2) rfl)) rfl dX5_person_107 ?_
                  refine dk_get (k := 25) hx hb hts iX5_person_4 hown hK (dk_at25 hW) rfl 10 (by decide) (hts (.fieldLink RX5 183 "DogKings$Town" "reigns" "[I") (List.mem_of_getElem? (i := 8) rfl)) rfl dX5_person_110 ?_
                  refine lv_iload_n hx hb dX5_person_113 rfl (lv_at hl 1 rfl) ?_
                  refine dk_ild (k := 31) hx hb hK (dk_at31 hW) (dkN_in (n := 5) d3 rfl) dX5_person_114 ?_
                  refine lv_topi (fun v27 ev27 => ?_)
                  exact W.iret (v := v27) hx hb hr (fun t ht hW9 => ⟨⟨v27, I1, rfl, ⟨hF, hO, ⟨trivial, trivial⟩⟩, dkW_eq ht hW⟩, hS.F ht⟩) hS.2.2 dX5_person_115
                ·
                  have d28 : dkN [(-2147483648, -1), (6, 2147483647)] p1 := dkN_ne1 (5) d24 (dkN_lit (x := 5) (5) rfl) (dk_ne c25) rfl
                  by_cases c29 : p1 = 6
                  ·
                    have qc29 : p1.toInt = 6 := by rw [c29]; rfl
                    have d30 : dkN [(6, 6)] p1 := dkN_lit (6) qc29
                    refine lv_tableIn (tgt := 116) hx hb dX5_person_12 (by rw [qc29]; decide) (by rw [qc29]; decide) (by rw [qc29]; rfl) (by decide) ?_
                    refine lv_aload_n hx hb dX5_person_116 rfl (lv_at hl 0 rfl) ?_
                    refine dk_get (k := 0) hx hb hts iX5_person_5 hown hK (dk_at0 hW) rfl 5 (by decide) (hts (.fieldLink RX5 31 "DogKings" "now" "LDogKings$Town;") (List.mem_of_getElem? (i := 2) rfl)) rfl dX5_person_117 ?_
                    refine lv_aload_n hx hb dX5_person_120 rfl (lv_at hl 0 rfl) ?_
                    refine dk_get (k := 0) hx hb hts iX5_person_5 hown hK (dk_at0 hW) rfl 5 (by decide) (hts (.fieldLink RX5 31 "DogKings" "now" "LDogKings$Town;") (List.mem_of_getElem? (i := 2) rfl)) rfl dX5_person_121 ?_
                    refine dk_get (k := 25) hx hb hts iX5_person_4 hown hK (dk_at25 hW) rfl 7 (by decide) (hts (.fieldLink RX5 174 "DogKings$Town" "personAt" "[I") (List.mem_of_getElem? (i := 3) rfl)) rfl dX5_person_124 ?_
                    refine lv_iload_n hx hb dX5_person_127 rfl (lv_at hl 1 rfl) ?_
                    refine dk_ild (k := 28) hx hb hK (dk_at28 hW) (dkN_in (n := 5) d3 rfl) dX5_person_128 ?_
                    refine lv_topi (fun v31 ev31 => ?_)
                    refine dk_Vi (As := [.int v31]) (rest := []) ⟨hx, hb, hml, hown, hts⟩ (c_X4_dogsIn_0 l g z I1 (25) (by unfold dkT; omega) v31 hO) (cwV 1 hts gX5_person_X4_dogsIn rfl rfl rfl (by decide +kernel) ⟨Nat.le_of_ble_eq_true rfl, Nat.le_of_ble_eq_true rfl⟩) (dk_at25 hW) rfl hK hT hW hS rfl hl.1 rfl (Nat.le_of_ble_eq_true rfl) dX5_person_129 ⟨Nat.zero_le _, Nat.zero_le _⟩ (fun v32 I32 H32 L32 hp32 hW hS => ?_)
                    obtain ⟨hF32, hO, hc32⟩ := hp32
                    have hF := dkF_call hF hF32 rfl
                    obtain ⟨_, -⟩ := hc32
                    exact W.iret (v := v32) hx hb hr (fun t ht hW9 => ⟨⟨v32, I32, rfl, ⟨hF, hO, ⟨trivial, trivial⟩⟩, dkW_eq ht hW⟩, hS.F ht⟩) hS.2.2 dX5_person_132
                  ·
                    have d33 : dkN [(-2147483648, -1), (7, 2147483647)] p1 := dkN_ne1 (6) d28 (dkN_lit (x := 6) (6) rfl) (dk_ne c29) rfl
                    refine lv_tableOut (tgt := 133) hx hb dX5_person_12 (dkN_out d33 rfl) (by decide) ?_
                    refine lv_ldc (v := (-1000001)) hx hb hown (hts (.constant RX5 70 (-1000001)) (List.mem_of_getElem? (i := 1) rfl)) dX5_person_133 ?_
                    exact W.iret (v := (-1000001)) hx hb hr (fun t ht hW9 => ⟨⟨(-1000001), I1, rfl, ⟨hF, hO, ⟨trivial, trivial⟩⟩, dkW_eq ht hW⟩, hS.F ht⟩) hS.2.2 dX5_person_135
    ·
      exact (dkN_nil (show dkN [] v1 from dkN_eq1 dv1 (dkN_lit (x := 0) (0) rfl) (congrArg Int32.toInt c4) rfl)).elim
set_option maxHeartbeats 4000000 in
set_option maxRecDepth 100000 in
theorem c_X6_dogsIn_0 (l : Launch) (g : dkG) (z : Nat) (I0 : dkI) (p0 : Int32)  (hO : dkOk I0) : Met l yX6_dogsIn wsX6_dogsIn (dkR 0) (dkPc g z [.ref (z + 340), .int p0] I0) (dkQi g z (fun r I1 => dkF [] I0 I1 ∧ dkOk I1 ∧ ((True ∧ True)))) 0 0 (dkA z) := by
  refine Met.ofW (cc := cX6_dogsIn) (maxL := 4) (ret := (some .int)) (by decide) rfl ?_
  intro p e s m args below meth c s₁ B hml hv
  obtain ⟨ha, hW, hK, hT⟩ := hv
  have hx := B.exec
  have hb := B.bytes
  have hr := B.returns
  have hts := atoms_spec (ws := wsX6_dogsIn) B.pre
  have hown : s.vm.findClass RX6 = some m.cls := findClass_of_methodNamed B.named
  have hlocks := B.notSynchronized
  have hS : va_S (dkA z) s.heap s.heap [] := va_S.rf
  have hF : dkF [] I0 I0 := dkF_rf _ _
  have hl := lv_entry ([.ref (z + 340), .int p0]) (n := 4) (Nat.le_of_ble_eq_true rfl)
  have hgo : entryFrame m args 4 = entryFrame m ([.ref (z + 340), .int p0] : List Value).toArray 4 := by rw [ha]
  rw [hgo, lg_entry_eq]
  generalize (lg_sl ([.ref (z + 340), .int p0]) ++ List.replicate (4 - (lg_sl ([.ref (z + 340), .int p0])).length) Slot.unset).toArray = ls at hl ⊢
  have hl : lv_has ls 4 [(0, .ref (z + 340)), (1, .int p0)] := hl
  have C4 : ∀ (n : Nat), ∀ (I : dkI) (H : Heap) (locs : List Loc) (ls : Array Slot) (x4_2 : Int32) (x4_3 : Int32), (6 - x4_3.toInt).toNat < n → dkW g z I H → va_S (dkA z) s.heap H locs → dkF [] I0 I → dkOk I → dkN [(0, 6)] x4_3 → lv_has ls 4 [(0, .ref (z + 340)), (1, .int p0), (2, .int x4_2), (3, .int x4_3)] → W p l e (headSpec wsX6_dogsIn (dkR 0)).room s m args below meth c H locs 0 0 (MQ below (dkQi g z (fun r I1 => dkF [] I0 I1 ∧ dkOk I1 ∧ ((True ∧ True)))) args s 0 0 (dkA z)) (F0 m 4 ls []) := by
    intro n
    induction n with
    | zero => intro I H locs ls x4_2 x4_3 hn; exact absurd hn (Nat.not_lt_zero _)
    | succ n ih4 =>
      intro I4_ H locs ls x4_2 x4_3 hn4 hW hS hF_4 hO k4_1 hl
      have hF := hF_4
      have C39 : ∀ (I : dkI) (H : Heap) (locs : List Loc) (ls : Array Slot) (x39_s0 : Int32), dkW g z I H → va_S (dkA z) s.heap H locs → dkF [] I0 I → dkOk I → dkN [(0, 32)] x39_s0 → dkN [(0, 5)] x4_3 → dkN [(1, 6)] (I 346 5) → lv_has ls 4 [(0, .ref (z + 340)), (1, .int p0), (2, .int x4_2), (3, .int x4_3)] → W p l e (headSpec wsX6_dogsIn (dkR 0)).room s m args below meth c H locs 0 0 (MQ below (dkQi g z (fun r I1 => dkF [] I0 I1 ∧ dkOk I1 ∧ ((True ∧ True)))) args s 0 0 (dkA z)) (F0 m 39 ls [.int x39_s0, .int x4_2]) := by
        intro I39_ H locs ls x39_s0 hW hS hF_39 hO k39_0 r39_0 f39_0 hl
        have hF := hF_39
        refine lv_ior hx hb dX6_dogsIn_39 ?_
        refine lv_topi (fun v1 ev1 => ?_)
        refine lv_istore_n (lv' := [(2, .int v1), (0, .ref (z + 340)), (1, .int p0), (3, .int x4_3)]) hx hb dX6_dogsIn_40 rfl hl (by decide) rfl (fun ls hl => ?_)
        obtain ⟨v2, ev2⟩ : ∃ y : Int32, y = x4_3 + 1 := ⟨_, rfl⟩
        have dv2 : dkN [(1, 6)] v2 := by rw [ev2]; exact dkN_add r39_0 (dkN_lit (x := 1) (1) rfl) rfl
        refine lv_iinc (v := v2) (lv' := [(3, .int v2), (2, .int v1), (0, .ref (z + 340)), (1, .int p0)]) hx hb dX6_dogsIn_41 hl (k := 3) rfl (by rw [ev2]; rfl) (by decide) rfl (fun ls hl => ?_)
        refine lv_goto (tgt := 4) hx hb dX6_dogsIn_44 (by decide) ?_
        exact ih4 I39_ _ _ ls v1 v2 (dk_near hn4 (by rw [ev2]; exact dk_inc r39_0 rfl) (dkN_lt r39_0 rfl)) hW hS hF hO (dkN_sub dv2 rfl) (lv_sub hl [2, 3, 1, 0] rfl)
      refine lv_iload_n hx hb dX6_dogsIn_4 rfl (lv_at hl 3 rfl) ?_
      refine lv_aload_n hx hb dX6_dogsIn_5 rfl (lv_at hl 0 rfl) ?_
      refine dk_get (k := 340) hx hb hts iX6_dogsIn_6 hown hK (dk_at340 hW) rfl 13 (by decide) (hts (.fieldLink RX6 25 "DogKingsModel" "now" "[I") (List.mem_of_getElem? (i := 1) rfl)) rfl dX6_dogsIn_6 ?_
      refine lv_iconst (v := 5) hx hb dX6_dogsIn_9 (by decide) ?_
      refine dk_ild (k := 346) hx hb hK (dk_at346 hW) (dkN_in (n := 54) (dkN_lit (x := 5) (5) rfl) rfl) dX6_dogsIn_10 ?_
      refine lv_topi (fun v3 ev3 => ?_)
      have ev3 : v3 = I4_ 346 5 := ev3
      have dv3 : dkN [(0, 6)] v3 := by rw [ev3]; exact (show dkN [(0, 6)] (I4_ 346 5) from (hO 346 5))
      refine lv_icmp_ge (tgt := 47) hx hb dX6_dogsIn_11 (by decide) (fun c4 => ?_) (fun c4 => ?_)
      ·
        refine lv_iload_n hx hb dX6_dogsIn_47 rfl (lv_at hl 2 rfl) ?_
        exact W.iret (v := x4_2) hx hb hr (fun t ht hW9 => ⟨⟨x4_2, I4_, rfl, ⟨hF, hO, ⟨trivial, trivial⟩⟩, dkW_eq ht hW⟩, hS.F ht⟩) hS.2.2 dX6_dogsIn_48
      ·
        have d5 : dkN [(1, 6)] v3 := dkN_le2 1 k4_1 dv3 (dkc_nle c4) rfl
        have f6 : dkN [(1, 6)] (I4_ 346 5) := by rw [← ev3]; exact d5
        have d7 : dkN [(0, 5)] x4_3 := dkN_le1 1 k4_1 dv3 (dkc_nle c4) rfl
        refine lv_iload_n hx hb dX6_dogsIn_14 rfl (lv_at hl 2 rfl) ?_
        refine lv_aload_n hx hb dX6_dogsIn_15 rfl (lv_at hl 0 rfl) ?_
        refine dk_get (k := 340) hx hb hts iX6_dogsIn_6 hown hK (dk_at340 hW) rfl 13 (by decide) (hts (.fieldLink RX6 25 "DogKingsModel" "now" "[I") (List.mem_of_getElem? (i := 1) rfl)) rfl dX6_dogsIn_16 ?_
        refine lv_bipush (v := 36) hx hb dX6_dogsIn_19 (by decide) ?_
        refine lv_iconst (v := 3) hx hb dX6_dogsIn_21 (by decide) ?_
        refine lv_iload_n hx hb dX6_dogsIn_22 rfl (lv_at hl 3 rfl) ?_
        refine lv_imul hx hb dX6_dogsIn_23 ?_
        refine lv_topi (fun v8 ev8 => ?_)
        have dv8 : dkN [(0, 0), (3, 3), (6, 6), (9, 9), (12, 12), (15, 15)] v8 := by rw [ev8]; exact dkN_mulPt 3 (dkN_lit (x := 3) (3) rfl) d7 rfl
        refine lv_iadd hx hb dX6_dogsIn_24 ?_
        refine lv_topi (fun v9 ev9 => ?_)
        have dv9 : dkN [(36, 36), (39, 39), (42, 42), (45, 45), (48, 48), (51, 51)] v9 := by rw [ev9]; exact dkN_add (dkN_lit (x := 36) (36) rfl) dv8 rfl
        refine lv_iconst (v := 2) hx hb dX6_dogsIn_25 (by decide) ?_
        refine lv_iadd hx hb dX6_dogsIn_26 ?_
        refine lv_topi (fun v10 ev10 => ?_)
        have dv10 : dkN [(38, 38), (41, 41), (44, 44), (47, 47), (50, 50), (53, 53)] v10 := by rw [ev10]; exact dkN_add dv9 (dkN_lit (x := 2) (2) rfl) rfl
        refine dk_ild (k := 346) hx hb hK (dk_at346 hW) (dkN_in (n := 54) dv10 rfl) dX6_dogsIn_27 ?_
        refine lv_topi (fun v11 ev11 => ?_)
        refine lv_iload_n hx hb dX6_dogsIn_28 rfl (lv_at hl 1 rfl) ?_
        refine lv_icmp_ne (tgt := 38) hx hb dX6_dogsIn_29 (by decide) (fun c12 => ?_) (fun c12 => ?_)
        ·
          refine lv_iconst (v := 0) hx hb dX6_dogsIn_38 (by decide) ?_
          exact C39 I4_ _ _ ls 0 hW hS hF hO (dkN_sub (dkN_lit (x := 0) (0) rfl) rfl) (dkN_sub d7 rfl) (show dkN [(1, 6)] (I4_ 346 5) from dkN_sub f6 rfl) (lv_sub hl [0, 1, 2, 3] rfl)
        ·
          refine lv_iconst (v := 1) hx hb dX6_dogsIn_32 (by decide) ?_
          refine lv_iload_n hx hb dX6_dogsIn_33 rfl (lv_at hl 3 rfl) ?_
          refine lv_ishl hx hb dX6_dogsIn_34 ?_
          refine lv_topi (fun v13 ev13 => ?_)
          have dv13 : dkN [(1, 32)] v13 := by rw [ev13]; exact dkN_shl1 0 5 (by decide) d7 rfl
          refine lv_goto (tgt := 39) hx hb dX6_dogsIn_35 (by decide) ?_
          exact C39 I4_ _ _ ls v13 hW hS hF hO (dkN_sub dv13 rfl) (dkN_sub d7 rfl) (show dkN [(1, 6)] (I4_ 346 5) from dkN_sub f6 rfl) (lv_sub hl [0, 1, 2, 3] rfl)
  refine lv_iconst (v := 0) hx hb dX6_dogsIn_0 (by decide) ?_
  refine lv_istore_n (lv' := [(2, .int 0), (0, .ref (z + 340)), (1, .int p0)]) hx hb dX6_dogsIn_1 rfl hl (by decide) rfl (fun ls hl => ?_)
  refine lv_iconst (v := 0) hx hb dX6_dogsIn_2 (by decide) ?_
  refine lv_istore_n (lv' := [(3, .int 0), (2, .int 0), (0, .ref (z + 340)), (1, .int p0)]) hx hb dX6_dogsIn_3 rfl hl (by decide) rfl (fun ls hl => ?_)
  exact C4 _ I0 _ _ ls 0 0 (Nat.lt_succ_self _) hW hS hF hO (dkN_sub (dkN_lit (x := 0) (0) rfl) rfl) (lv_sub hl [2, 3, 1, 0] rfl)
