set_option maxHeartbeats 4000000 in
set_option maxRecDepth 100000 in
theorem c_X5_minutes_1 (l : Launch) (g : dkG) (z : Nat) (I0 : dkI) (p0 : Int32)  (hO : dkOk I0) (hP : dkQQ I0) : Met l yX5_minutes wsX5_minutes (dkR 5) (dkPc g z [.ref (z + 0), .int p0] I0) (dkQi g z (fun r I1 => dkF [(61, 324, 0, 2147483647), (25, 25, 2, 3), (28, 28, 0, 4), (30, 30, 0, 4), (31, 31, 0, 4), (34, 34, 0, 5), (35, 35, 0, 8), (59, 59, 1, 2)] I0 I1 ∧ dkOk I1 ∧ dkQQ I1 ∧ ((True ∧ True)))) 0 0 (dkA z) := by
  refine Met.ofW (cc := cX5_minutes) (maxL := 3) (ret := (some .int)) (by decide) rfl ?_
  intro p e s m args below meth c s₁ B hml hv
  obtain ⟨ha, hW, hK, hT⟩ := hv
  have hx := B.exec
  have hb := B.bytes
  have hr := B.returns
  have hts := atoms_spec (ws := wsX5_minutes) B.pre
  have hown : s.vm.findClass RX5 = some m.cls := findClass_of_methodNamed B.named
  have hlocks := B.notSynchronized
  have hS : va_S (dkA z) s.heap s.heap [] := va_S.rf
  have hF : dkF [(61, 324, 0, 2147483647), (25, 25, 2, 3), (28, 28, 0, 4), (30, 30, 0, 4), (31, 31, 0, 4), (34, 34, 0, 5), (35, 35, 0, 8), (59, 59, 1, 2)] I0 I0 := dkF_rf _ _
  have hl := lv_entry ([.ref (z + 0), .int p0]) (n := 3) (Nat.le_of_ble_eq_true rfl)
  have hgo : entryFrame m args 3 = entryFrame m ([.ref (z + 0), .int p0] : List Value).toArray 3 := by rw [ha]
  rw [hgo, lg_entry_eq]
  generalize (lg_sl ([.ref (z + 0), .int p0]) ++ List.replicate (3 - (lg_sl ([.ref (z + 0), .int p0])).length) Slot.unset).toArray = ls at hl ⊢
  have hl : lv_has ls 3 [(0, .ref (z + 0)), (1, .int p0)] := hl
  have C45 : ∀ (n : Nat), ∀ (I : dkI) (H : Heap) (locs : List Loc) (ls : Array Slot) (x45_2 : Int32), (24 - x45_2.toInt).toNat < n → dkW g z I H → va_S (dkA z) s.heap H locs → dkF [(61, 324, 0, 2147483647), (25, 25, 2, 3), (28, 28, 0, 4), (30, 30, 0, 4), (31, 31, 0, 4), (34, 34, 0, 5), (35, 35, 0, 8), (59, 59, 1, 2)] I0 I → dkOk I → dkQQ I → dkN [(0, 24)] x45_2 → dkN [(1, 24)] p0 → dkN [(1, 9)] (I 25 0) → lv_has ls 3 [(0, .ref (z + 0)), (1, .int p0), (2, .int x45_2)] → W p l e (headSpec wsX5_minutes (dkR 5)).room s m args below meth c H locs 0 0 (MQ below (dkQi g z (fun r I1 => dkF [(61, 324, 0, 2147483647), (25, 25, 2, 3), (28, 28, 0, 4), (30, 30, 0, 4), (31, 31, 0, 4), (34, 34, 0, 5), (35, 35, 0, 8), (59, 59, 1, 2)] I0 I1 ∧ dkOk I1 ∧ dkQQ I1 ∧ ((True ∧ True)))) args s 0 0 (dkA z)) (F0 m 45 ls []) := by
    intro n
    induction n with
    | zero => intro I H locs ls x45_2 hn; exact absurd hn (Nat.not_lt_zero _)
    | succ n ih45 =>
      intro I45_ H locs ls x45_2 hn45 hW hS hF_45 hO hP k45_0 r45_0 f45_0 hl
      have hF := hF_45
      refine lv_iload_n hx hb dX5_minutes_45 rfl (lv_at hl 2 rfl) ?_
      refine lv_iload_n hx hb dX5_minutes_46 rfl (lv_at hl 1 rfl) ?_
      refine lv_icmp_ge (tgt := 75) hx hb dX5_minutes_47 (by decide) (fun c1 => ?_) (fun c1 => ?_)
      ·
        have d2 : dkN [(1, 24)] x45_2 := dkN_le2 0 r45_0 k45_0 (dkc_le c1) rfl
        refine lv_aload_n hx hb dX5_minutes_75 rfl (lv_at hl 0 rfl) ?_
        refine dk_get (k := 0) hx hb hts iX5_minutes_5 hown hK (dk_at0 hW) rfl 5 (by decide) (hts (.fieldLink RX5 31 "DogKings" "now" "LDogKings$Town;") (List.mem_of_getElem? (i := 1) rfl)) rfl dX5_minutes_76 ?_
        refine dk_get (k := 25) hx hb hts iX5_minutes_4 hown hK (dk_at25 hW) rfl 2 (by decide) (hts (.fieldLink RX5 130 "DogKings$Town" "friday" "I") (List.mem_of_getElem? (i := 4) rfl)) rfl dX5_minutes_79 ?_
        refine lv_topi (fun v3 ev3 => ?_)
        exact W.iret (v := v3) hx hb hr (fun t ht hW9 => ⟨⟨v3, I45_, rfl, ⟨hF, hO, hP, ⟨trivial, trivial⟩⟩, dkW_eq ht hW⟩, hS.F ht⟩) hS.2.2 dX5_minutes_82
      ·
        have d4 : dkN [(0, 23)] x45_2 := dkN_le1 1 k45_0 r45_0 (dkc_nle c1) rfl
        refine lv_aload_n hx hb dX5_minutes_50 rfl (lv_at hl 0 rfl) ?_
        refine dk_get (k := 0) hx hb hts iX5_minutes_5 hown hK (dk_at0 hW) rfl 7 (by decide) (hts (.fieldLink RX5 42 "DogKings" "acts" "LDogKings$Acts;") (List.mem_of_getElem? (i := 6) rfl)) rfl dX5_minutes_51 ?_
        refine lv_aload_n hx hb dX5_minutes_54 rfl (lv_at hl 0 rfl) ?_
        refine dk_get (k := 0) hx hb hts iX5_minutes_5 hown hK (dk_at0 hW) rfl 5 (by decide) (hts (.fieldLink RX5 31 "DogKings" "now" "LDogKings$Town;") (List.mem_of_getElem? (i := 1) rfl)) rfl dX5_minutes_55 ?_
        refine dk_Vv (As := [.ref (z + 25)]) (rest := []) ⟨hx, hb, hml, hown, hts⟩ (fx_X0_keep_1 l g z I45_ hO hP) (cwV 1 hts gX5_minutes_X0_keep rfl rfl rfl (by decide +kernel) ⟨Nat.le_of_ble_eq_true rfl, Nat.le_of_ble_eq_true rfl⟩) (dk_at59 hW) rfl hK hT hW hS rfl hl.1 rfl (Nat.le_of_ble_eq_true rfl) dX5_minutes_58 ⟨Nat.zero_le _, Nat.zero_le _⟩ (fun I5 H5 L5 hp5 hW hS => ?_)
        obtain ⟨hF5, hO, hP, hc5⟩ := hp5
        have hF := dkF_call hF hF5 rfl
        obtain ⟨f5_59_2, -⟩ := hc5
        refine lv_aload_n hx hb dX5_minutes_61 rfl (lv_at hl 0 rfl) ?_
        refine dk_get (k := 0) hx hb hts iX5_minutes_5 hown hK (dk_at0 hW) rfl 5 (by decide) (hts (.fieldLink RX5 31 "DogKings" "now" "LDogKings$Town;") (List.mem_of_getElem? (i := 1) rfl)) rfl dX5_minutes_62 ?_
        refine dk_Vi (As := []) (rest := []) ⟨hx, hb, hml, hown, hts⟩ (c_X4_pass_0 l g z I5 (25) (by unfold dkT; omega) hO) (cwV 0 hts gX5_minutes_X4_pass rfl rfl rfl (by decide +kernel) ⟨Nat.le_of_ble_eq_true rfl, Nat.le_of_ble_eq_true rfl⟩) (dk_at25 hW) rfl hK hT hW hS rfl hl.1 rfl (Nat.le_of_ble_eq_true rfl) dX5_minutes_65 ⟨Nat.zero_le _, Nat.zero_le _⟩ (fun v6 I6 H6 L6 hp6 hW hS => ?_)
        obtain ⟨hF6, hO, hc6⟩ := hp6
        have hF := dkF_call hF hF6 rfl
        have hP := dkQQ_F hP hF6 rfl
        obtain ⟨dv6, f6_25_3, -⟩ := hc6
        refine lv_pop hx hb dX5_minutes_68 rfl ?_
        obtain ⟨v7, ev7⟩ : ∃ y : Int32, y = x45_2 + 1 := ⟨_, rfl⟩
        have dv7 : dkN [(1, 24)] v7 := by rw [ev7]; exact dkN_add d4 (dkN_lit (x := 1) (1) rfl) rfl
        refine lv_iinc (v := v7) (lv' := [(2, .int v7), (0, .ref (z + 0)), (1, .int p0)]) hx hb dX5_minutes_69 hl (k := 2) rfl (by rw [ev7]; rfl) (by decide) rfl (fun ls hl => ?_)
        refine lv_goto (tgt := 45) hx hb dX5_minutes_72 (by decide) ?_
        exact ih45 I6 _ _ ls v7 (dk_near hn45 (by rw [ev7]; exact dk_inc d4 rfl) (dkN_lt d4 rfl)) hW hS hF hO hP (dkN_sub dv7 rfl) (dkN_sub r45_0 rfl) (show dkN [(1, 9)] (I6 25 0) from dkN_sub (by rw [hF6 25 0 rfl]; exact (by rw [hF5 25 0 rfl]; exact f45_0)) rfl) (lv_sub hl [1, 2, 0] rfl)
  refine lv_aload_n hx hb dX5_minutes_0 rfl (lv_at hl 0 rfl) ?_
  refine dk_get (k := 0) hx hb hts iX5_minutes_5 hown hK (dk_at0 hW) rfl 5 (by decide) (hts (.fieldLink RX5 31 "DogKings" "now" "LDogKings$Town;") (List.mem_of_getElem? (i := 1) rfl)) rfl dX5_minutes_1 ?_
  refine dk_Vi (As := []) (rest := []) ⟨hx, hb, hml, hown, hts⟩ (c_X4_stands_0 l g z I0 (25) (by unfold dkT; omega) hO) (cwV 0 hts gX5_minutes_X4_stands rfl rfl rfl (by decide +kernel) ⟨Nat.le_of_ble_eq_true rfl, Nat.le_of_ble_eq_true rfl⟩) (dk_at25 hW) rfl hK hT hW hS rfl hl.1 rfl (Nat.le_of_ble_eq_true rfl) dX5_minutes_4 ⟨Nat.zero_le _, Nat.zero_le _⟩ (fun v8 I8 H8 L8 hp8 hW hS => ?_)
  obtain ⟨hF8, hO, hc8⟩ := hp8
  have hF := dkF_call hF hF8 rfl
  have hP := dkQQ_F hP hF8 rfl
  rcases hc8 with ⟨dv8, f8_25_0, -⟩ | hc8
  ·
    refine lv_if_ne (tgt := 13) hx hb dX5_minutes_7 (by decide) (fun c9 => ?_) (fun c9 => ?_)
    ·
      exact (dkN_nil (show dkN [] v8 from dkN_ne1 (0) dv8 (dkN_lit (x := 0) (0) rfl) (dk_ne c9) rfl)).elim
    ·
      refine lv_ldc (v := (-1000002)) hx hb hown (hts (.constant RX5 129 (-1000002)) (List.mem_of_getElem? (i := 2) rfl)) dX5_minutes_10 ?_
      exact W.iret (v := (-1000002)) hx hb hr (fun t ht hW9 => ⟨⟨(-1000002), I8, rfl, ⟨hF, hO, hP, ⟨trivial, trivial⟩⟩, dkW_eq ht hW⟩, hS.F ht⟩) hS.2.2 dX5_minutes_12
  ·
    obtain ⟨dv8, f8_25_0, -⟩ := hc8
    refine lv_if_ne (tgt := 13) hx hb dX5_minutes_7 (by decide) (fun c10 => ?_) (fun c10 => ?_)
    ·
      refine lv_iload_n hx hb dX5_minutes_13 rfl (lv_at hl 1 rfl) ?_
      refine lv_iconst (v := 1) hx hb dX5_minutes_14 (by decide) ?_
      refine lv_icmp_lt (tgt := 24) hx hb dX5_minutes_15 (by decide) (fun c11 => ?_) (fun c11 => ?_)
      ·
        have d12 : dkN [(-2147483648, 0)] p0 := dkN_le1 1 (dkN_top p0) (dkN_lit (x := 1) (1) rfl) (dkc_lt c11) rfl
        refine lv_ldc (v := (-1000001)) hx hb hown (hts (.constant RX5 70 (-1000001)) (List.mem_of_getElem? (i := 3) rfl)) dX5_minutes_24 ?_
        exact W.iret (v := (-1000001)) hx hb hr (fun t ht hW9 => ⟨⟨(-1000001), I8, rfl, ⟨hF, hO, hP, ⟨trivial, trivial⟩⟩, dkW_eq ht hW⟩, hS.F ht⟩) hS.2.2 dX5_minutes_26
      ·
        have d13 : dkN [(1, 2147483647)] p0 := dkN_le2 0 (dkN_lit (x := 1) (1) rfl) (dkN_top p0) (dkc_nlt c11) rfl
        refine lv_iload_n hx hb dX5_minutes_18 rfl (lv_at hl 1 rfl) ?_
        refine lv_bipush (v := 24) hx hb dX5_minutes_19 (by decide) ?_
        refine lv_icmp_le (tgt := 27) hx hb dX5_minutes_21 (by decide) (fun c14 => ?_) (fun c14 => ?_)
        ·
          have d15 : dkN [(1, 24)] p0 := dkN_le1 0 d13 (dkN_lit (x := 24) (24) rfl) (dkc_le c14) rfl
          refine lv_aload_n hx hb dX5_minutes_27 rfl (lv_at hl 0 rfl) ?_
          refine dk_get (k := 0) hx hb hts iX5_minutes_5 hown hK (dk_at0 hW) rfl 5 (by decide) (hts (.fieldLink RX5 31 "DogKings" "now" "LDogKings$Town;") (List.mem_of_getElem? (i := 1) rfl)) rfl dX5_minutes_28 ?_
          refine dk_get (k := 25) hx hb hts iX5_minutes_4 hown hK (dk_at25 hW) rfl 2 (by decide) (hts (.fieldLink RX5 130 "DogKings$Town" "friday" "I") (List.mem_of_getElem? (i := 4) rfl)) rfl dX5_minutes_31 ?_
          refine lv_topi (fun v16 ev16 => ?_)
          refine lv_sipush (v := 999) hx hb dX5_minutes_34 (by decide) ?_
          refine lv_icmp_lt (tgt := 43) hx hb dX5_minutes_37 (by decide) (fun c17 => ?_) (fun c17 => ?_)
          ·
            have d18 : dkN [(-2147483648, 998)] v16 := dkN_le1 1 (dkN_top v16) (dkN_lit (x := 999) (999) rfl) (dkc_lt c17) rfl
            have f19 : dkN [(-2147483648, 998)] (I8 25 2) := by rw [← ev16]; exact d18
            refine lv_iconst (v := 0) hx hb dX5_minutes_43 (by decide) ?_
            refine lv_istore_n (lv' := [(2, .int 0), (0, .ref (z + 0)), (1, .int p0)]) hx hb dX5_minutes_44 rfl hl (by decide) rfl (fun ls hl => ?_)
            exact C45 _ I8 _ _ ls 0 (Nat.lt_succ_self _) hW hS hF hO hP (dkN_sub (dkN_lit (x := 0) (0) rfl) rfl) (dkN_sub d15 rfl) (show dkN [(1, 9)] (I8 25 0) from dkN_sub f8_25_0 rfl) (lv_sub hl [1, 2, 0] rfl)
          ·
            have d20 : dkN [(999, 2147483647)] v16 := dkN_le2 0 (dkN_lit (x := 999) (999) rfl) (dkN_top v16) (dkc_nlt c17) rfl
            have f21 : dkN [(999, 2147483647)] (I8 25 2) := by rw [← ev16]; exact d20
            refine lv_ldc (v := (-1000003)) hx hb hown (hts (.constant RX5 99 (-1000003)) (List.mem_of_getElem? (i := 5) rfl)) dX5_minutes_40 ?_
            exact W.iret (v := (-1000003)) hx hb hr (fun t ht hW9 => ⟨⟨(-1000003), I8, rfl, ⟨hF, hO, hP, ⟨trivial, trivial⟩⟩, dkW_eq ht hW⟩, hS.F ht⟩) hS.2.2 dX5_minutes_42
        ·
          have d22 : dkN [(25, 2147483647)] p0 := dkN_le2 1 (dkN_lit (x := 24) (24) rfl) d13 (dkc_nle c14) rfl
          refine lv_ldc (v := (-1000001)) hx hb hown (hts (.constant RX5 70 (-1000001)) (List.mem_of_getElem? (i := 3) rfl)) dX5_minutes_24 ?_
          exact W.iret (v := (-1000001)) hx hb hr (fun t ht hW9 => ⟨⟨(-1000001), I8, rfl, ⟨hF, hO, hP, ⟨trivial, trivial⟩⟩, dkW_eq ht hW⟩, hS.F ht⟩) hS.2.2 dX5_minutes_26
    ·
      exact (dkN_nil (show dkN [] v8 from dkN_eq1 dv8 (dkN_lit (x := 0) (0) rfl) (congrArg Int32.toInt c10) rfl)).elim
set_option maxHeartbeats 4000000 in
set_option maxRecDepth 100000 in
theorem c_X5_bones_1 (l : Launch) (g : dkG) (z : Nat) (I0 : dkI) (p0 : Int32) (p1 : Int32)  (hO : dkOk I0) (hP : dkQQ I0) : Met l yX5_bones wsX5_bones (dkR 2) (dkPc g z [.ref (z + 0), .int p0, .int p1] I0) (dkQi g z (fun r I1 => dkF [(61, 324, 0, 2147483647), (29, 29, 0, 4), (59, 59, 1, 2)] I0 I1 ∧ dkOk I1 ∧ dkQQ I1 ∧ ((True ∧ True)))) 0 0 (dkA z) := by
  refine Met.ofW (cc := cX5_bones) (maxL := 4) (ret := (some .int)) (by decide) rfl ?_
  intro p e s m args below meth c s₁ B hml hv
  obtain ⟨ha, hW, hK, hT⟩ := hv
  have hx := B.exec
  have hb := B.bytes
  have hr := B.returns
  have hts := atoms_spec (ws := wsX5_bones) B.pre
  have hown : s.vm.findClass RX5 = some m.cls := findClass_of_methodNamed B.named
  have hlocks := B.notSynchronized
  have hS : va_S (dkA z) s.heap s.heap [] := va_S.rf
  have hF : dkF [(61, 324, 0, 2147483647), (29, 29, 0, 4), (59, 59, 1, 2)] I0 I0 := dkF_rf _ _
  have hl := lv_entry ([.ref (z + 0), .int p0, .int p1]) (n := 4) (Nat.le_of_ble_eq_true rfl)
  have hgo : entryFrame m args 4 = entryFrame m ([.ref (z + 0), .int p0, .int p1] : List Value).toArray 4 := by rw [ha]
  rw [hgo, lg_entry_eq]
  generalize (lg_sl ([.ref (z + 0), .int p0, .int p1]) ++ List.replicate (4 - (lg_sl ([.ref (z + 0), .int p0, .int p1])).length) Slot.unset).toArray = ls at hl ⊢
  have hl : lv_has ls 4 [(0, .ref (z + 0)), (1, .int p0), (2, .int p1)] := hl
  refine lv_aload_n hx hb dX5_bones_0 rfl (lv_at hl 0 rfl) ?_
  refine lv_iload_n hx hb dX5_bones_1 rfl (lv_at hl 1 rfl) ?_
  refine dk_Vi (As := [.int p0]) (rest := []) ⟨hx, hb, hml, hown, hts⟩ (c_X5_isPerson_0 l g z I0 p0 hO) (cwV 1 hts gX5_bones_X5_isPerson rfl rfl rfl (by decide +kernel) ⟨Nat.le_of_ble_eq_true rfl, Nat.le_of_ble_eq_true rfl⟩) (dk_at0 hW) rfl hK hT hW hS rfl hl.1 rfl (Nat.le_of_ble_eq_true rfl) dX5_bones_2 ⟨Nat.zero_le _, Nat.zero_le _⟩ (fun v1 I1 H1 L1 hp1 hW hS => ?_)
  obtain ⟨hF1, hO, hc1⟩ := hp1
  have hF := dkF_call hF hF1 rfl
  have hP := dkQQ_F hP hF1 rfl
  rcases hc1 with ⟨dv1, -⟩ | hc1
  ·
    refine lv_if_eq (tgt := 17) hx hb dX5_bones_5 (by decide) (fun c2 => ?_) (fun c2 => ?_)
    ·
      refine lv_ldc (v := (-1000001)) hx hb hown (hts (.constant RX5 70 (-1000001)) (List.mem_of_getElem? (i := 1) rfl)) dX5_bones_17 ?_
      exact W.iret (v := (-1000001)) hx hb hr (fun t ht hW9 => ⟨⟨(-1000001), I1, rfl, ⟨hF, hO, hP, ⟨trivial, trivial⟩⟩, dkW_eq ht hW⟩, hS.F ht⟩) hS.2.2 dX5_bones_19
    ·
      exact (dkN_nil (show dkN [] v1 from dkN_ne1 (0) dv1 (dkN_lit (x := 0) (0) rfl) (dk_ne c2) rfl)).elim
  ·
    obtain ⟨dv1, a1_0, f1_25_4, -⟩ := hc1
    have d3 : dkN [(0, 4)] p0 := dkN_eq1 (dkN_top p0) a1_0 rfl rfl
    refine lv_if_eq (tgt := 17) hx hb dX5_bones_5 (by decide) (fun c4 => ?_) (fun c4 => ?_)
    ·
      exact (dkN_nil (show dkN [] v1 from dkN_eq1 dv1 (dkN_lit (x := 0) (0) rfl) (congrArg Int32.toInt c4) rfl)).elim
    ·
      refine lv_iload_n hx hb dX5_bones_8 rfl (lv_at hl 2 rfl) ?_
      refine lv_bipush (v := 9) hx hb dX5_bones_9 (by decide) ?_
      refine dk_Si (As := [.int p1, .int 9]) (rest := []) ⟨hx, hb, hml, hown, hts⟩ (c_X5_isUpTo_3 l g z I1 p1 9 (dkN_lit (x := 9) (9) rfl) hO) (va_cwS 2 hts gX5_bones_X5_isUpTo rfl rfl rfl (by decide +kernel) ⟨Nat.le_of_ble_eq_true rfl, Nat.le_of_ble_eq_true rfl⟩) hK hT hW hS rfl hl.1 rfl (Nat.le_of_ble_eq_true rfl) dX5_bones_11 ⟨Nat.zero_le _, Nat.zero_le _⟩ (fun v5 I5 H5 L5 hp5 hW hS => ?_)
      obtain ⟨hF5, hO, hc5⟩ := hp5
      have hF := dkF_call hF hF5 rfl
      have hP := dkQQ_F hP hF5 rfl
      rcases hc5 with ⟨dv5, a5_0, -⟩ | hc5
      ·
        have d6 : dkN [(-2147483648, -1), (10, 2147483647)] p1 := dkN_eq1 (dkN_top p1) a5_0 rfl rfl
        refine lv_if_ne (tgt := 20) hx hb dX5_bones_14 (by decide) (fun c7 => ?_) (fun c7 => ?_)
        ·
          exact (dkN_nil (show dkN [] v5 from dkN_ne1 (0) dv5 (dkN_lit (x := 0) (0) rfl) (dk_ne c7) rfl)).elim
        ·
          refine lv_ldc (v := (-1000001)) hx hb hown (hts (.constant RX5 70 (-1000001)) (List.mem_of_getElem? (i := 1) rfl)) dX5_bones_17 ?_
          exact W.iret (v := (-1000001)) hx hb hr (fun t ht hW9 => ⟨⟨(-1000001), I5, rfl, ⟨hF, hO, hP, ⟨trivial, trivial⟩⟩, dkW_eq ht hW⟩, hS.F ht⟩) hS.2.2 dX5_bones_19
      ·
        obtain ⟨dv5, a5_0, -⟩ := hc5
        have d8 : dkN [(0, 9)] p1 := dkN_eq1 (dkN_top p1) a5_0 rfl rfl
        refine lv_if_ne (tgt := 20) hx hb dX5_bones_14 (by decide) (fun c9 => ?_) (fun c9 => ?_)
        ·
          refine lv_aload_n hx hb dX5_bones_20 rfl (lv_at hl 0 rfl) ?_
          refine dk_get (k := 0) hx hb hts iX5_bones_5 hown hK (dk_at0 hW) rfl 5 (by decide) (hts (.fieldLink RX5 31 "DogKings" "now" "LDogKings$Town;") (List.mem_of_getElem? (i := 2) rfl)) rfl dX5_bones_21 ?_
          refine dk_get (k := 25) hx hb hts iX5_bones_4 hown hK (dk_at25 hW) rfl 8 (by decide) (hts (.fieldLink RX5 143 "DogKings$Town" "bones" "[I") (List.mem_of_getElem? (i := 3) rfl)) rfl dX5_bones_24 ?_
          refine lv_iload_n hx hb dX5_bones_27 rfl (lv_at hl 1 rfl) ?_
          refine dk_ild (k := 29) hx hb hK (dk_at29 hW) (dkN_in (n := 5) d3 rfl) dX5_bones_28 ?_
          refine lv_topi (fun v10 ev10 => ?_)
          refine lv_istore_n (lv' := [(3, .int v10), (0, .ref (z + 0)), (1, .int p0), (2, .int p1)]) hx hb dX5_bones_29 rfl hl (by decide) rfl (fun ls hl => ?_)
          refine lv_iload_n hx hb dX5_bones_30 rfl (lv_at hl 3 rfl) ?_
          refine lv_iload_n hx hb dX5_bones_31 rfl (lv_at hl 0 rfl) ?_
          refine lv_icmp_eq (tgt := 56) hx hb dX5_bones_32 (by decide) (fun c11 => ?_) (fun c11 => ?_)
          ·
            have d12 : dkN [(0, 9)] v10 := dkN_eq1 (dkN_top v10) d8 (congrArg Int32.toInt c11).symm rfl
            refine lv_iload_n hx hb dX5_bones_56 rfl (lv_at hl 0 rfl) ?_
            exact W.iret (v := v10) hx hb hr (fun t ht hW9 => ⟨⟨v10, I5, rfl, ⟨hF, hO, hP, ⟨trivial, trivial⟩⟩, dkW_eq ht hW⟩, hS.F ht⟩) hS.2.2 dX5_bones_57
          ·
            refine lv_aload_n hx hb dX5_bones_35 rfl (lv_at hl 1 rfl) ?_
            refine dk_get (k := 0) hx hb hts iX5_bones_5 hown hK (dk_at0 hW) rfl 7 (by decide) (hts (.fieldLink RX5 42 "DogKings" "acts" "LDogKings$Acts;") (List.mem_of_getElem? (i := 4) rfl)) rfl dX5_bones_36 ?_
            refine lv_aload_n hx hb dX5_bones_39 rfl (lv_at hl 1 rfl) ?_
            refine dk_get (k := 0) hx hb hts iX5_bones_5 hown hK (dk_at0 hW) rfl 5 (by decide) (hts (.fieldLink RX5 31 "DogKings" "now" "LDogKings$Town;") (List.mem_of_getElem? (i := 2) rfl)) rfl dX5_bones_40 ?_
            refine dk_Vv (As := [.ref (z + 25)]) (rest := []) ⟨hx, hb, hml, hown, hts⟩ (fx_X0_keep_1 l g z I5 hO hP) (cwV 1 hts gX5_bones_X0_keep rfl rfl rfl (by decide +kernel) ⟨Nat.le_of_ble_eq_true rfl, Nat.le_of_ble_eq_true rfl⟩) (dk_at59 hW) rfl hK hT hW hS rfl hl.1 rfl (Nat.le_of_ble_eq_true rfl) dX5_bones_43 ⟨Nat.zero_le _, Nat.zero_le _⟩ (fun I13 H13 L13 hp13 hW hS => ?_)
            obtain ⟨hF13, hO, hP, hc13⟩ := hp13
            have hF := dkF_call hF hF13 rfl
            obtain ⟨f13_59_2, -⟩ := hc13
            refine lv_aload_n hx hb dX5_bones_46 rfl (lv_at hl 1 rfl) ?_
            refine dk_get (k := 0) hx hb hts iX5_bones_5 hown hK (dk_at0 hW) rfl 5 (by decide) (hts (.fieldLink RX5 31 "DogKings" "now" "LDogKings$Town;") (List.mem_of_getElem? (i := 2) rfl)) rfl dX5_bones_47 ?_
            refine dk_get (k := 25) hx hb hts iX5_bones_4 hown hK (dk_at25 hW) rfl 8 (by decide) (hts (.fieldLink RX5 143 "DogKings$Town" "bones" "[I") (List.mem_of_getElem? (i := 3) rfl)) rfl dX5_bones_50 ?_
            refine lv_iload_n hx hb dX5_bones_53 rfl (lv_at hl 2 rfl) ?_
            refine lv_iload_n hx hb dX5_bones_54 rfl (lv_at hl 3 rfl) ?_
            refine dk_ist (k := 29) hx hb hK hW (fun _ => rfl) (by decide) hS (dkN_in (n := 5) d3 rfl) dX5_bones_55 (fun I14 H14 L14 eI14 hW hS => ?_)
            have hO := dkO_set hO eI14 (dkN_sub d8 rfl)
            have hF := dkF_set hF eI14 (dkIn_v d3 rfl)
            have hP := dkQQ_set hP eI14 (dkQQb_v d3 rfl)
            refine lv_iload_n hx hb dX5_bones_56 rfl (lv_at hl 0 rfl) ?_
            exact W.iret (v := v10) hx hb hr (fun t ht hW9 => ⟨⟨v10, I14, rfl, ⟨hF, hO, hP, ⟨trivial, trivial⟩⟩, dkW_eq ht hW⟩, hS.F ht⟩) hS.2.2 dX5_bones_57
        ·
          exact (dkN_nil (show dkN [] v5 from dkN_eq1 dv5 (dkN_lit (x := 0) (0) rfl) (congrArg Int32.toInt c9) rfl)).elim
set_option maxHeartbeats 4000000 in
set_option maxRecDepth 100000 in
theorem c_X5_walk_1 (l : Launch) (g : dkG) (z : Nat) (I0 : dkI) (p0 : Int32) (p1 : Int32)  (hO : dkOk I0) (hP : dkQQ I0) : Met l yX5_walk wsX5_walk (dkR 2) (dkPc g z [.ref (z + 0), .int p0, .int p1] I0) (dkQi g z (fun r I1 => dkF [(61, 324, 0, 2147483647), (30, 30, 0, 4), (59, 59, 1, 2)] I0 I1 ∧ dkOk I1 ∧ dkQQ I1 ∧ ((True ∧ True)))) 0 0 (dkA z) := by
  refine Met.ofW (cc := cX5_walk) (maxL := 4) (ret := (some .int)) (by decide) rfl ?_
  intro p e s m args below meth c s₁ B hml hv
  obtain ⟨ha, hW, hK, hT⟩ := hv
  have hx := B.exec
  have hb := B.bytes
  have hr := B.returns
  have hts := atoms_spec (ws := wsX5_walk) B.pre
  have hown : s.vm.findClass RX5 = some m.cls := findClass_of_methodNamed B.named
  have hlocks := B.notSynchronized
  have hS : va_S (dkA z) s.heap s.heap [] := va_S.rf
  have hF : dkF [(61, 324, 0, 2147483647), (30, 30, 0, 4), (59, 59, 1, 2)] I0 I0 := dkF_rf _ _
  have hl := lv_entry ([.ref (z + 0), .int p0, .int p1]) (n := 4) (Nat.le_of_ble_eq_true rfl)
  have hgo : entryFrame m args 4 = entryFrame m ([.ref (z + 0), .int p0, .int p1] : List Value).toArray 4 := by rw [ha]
  rw [hgo, lg_entry_eq]
  generalize (lg_sl ([.ref (z + 0), .int p0, .int p1]) ++ List.replicate (4 - (lg_sl ([.ref (z + 0), .int p0, .int p1])).length) Slot.unset).toArray = ls at hl ⊢
  have hl : lv_has ls 4 [(0, .ref (z + 0)), (1, .int p0), (2, .int p1)] := hl
  refine lv_aload_n hx hb dX5_walk_0 rfl (lv_at hl 0 rfl) ?_
  refine lv_iload_n hx hb dX5_walk_1 rfl (lv_at hl 1 rfl) ?_
  refine dk_Vi (As := [.int p0]) (rest := []) ⟨hx, hb, hml, hown, hts⟩ (c_X5_isPerson_0 l g z I0 p0 hO) (cwV 1 hts gX5_walk_X5_isPerson rfl rfl rfl (by decide +kernel) ⟨Nat.le_of_ble_eq_true rfl, Nat.le_of_ble_eq_true rfl⟩) (dk_at0 hW) rfl hK hT hW hS rfl hl.1 rfl (Nat.le_of_ble_eq_true rfl) dX5_walk_2 ⟨Nat.zero_le _, Nat.zero_le _⟩ (fun v1 I1 H1 L1 hp1 hW hS => ?_)
  obtain ⟨hF1, hO, hc1⟩ := hp1
  have hF := dkF_call hF hF1 rfl
  have hP := dkQQ_F hP hF1 rfl
  rcases hc1 with ⟨dv1, -⟩ | hc1
  ·
    refine lv_if_eq (tgt := 16) hx hb dX5_walk_5 (by decide) (fun c2 => ?_) (fun c2 => ?_)
    ·
      refine lv_ldc (v := (-1000001)) hx hb hown (hts (.constant RX5 70 (-1000001)) (List.mem_of_getElem? (i := 1) rfl)) dX5_walk_16 ?_
      exact W.iret (v := (-1000001)) hx hb hr (fun t ht hW9 => ⟨⟨(-1000001), I1, rfl, ⟨hF, hO, hP, ⟨trivial, trivial⟩⟩, dkW_eq ht hW⟩, hS.F ht⟩) hS.2.2 dX5_walk_18
    ·
      exact (dkN_nil (show dkN [] v1 from dkN_ne1 (0) dv1 (dkN_lit (x := 0) (0) rfl) (dk_ne c2) rfl)).elim
  ·
    obtain ⟨dv1, a1_0, f1_25_4, -⟩ := hc1
    have d3 : dkN [(0, 4)] p0 := dkN_eq1 (dkN_top p0) a1_0 rfl rfl
    refine lv_if_eq (tgt := 16) hx hb dX5_walk_5 (by decide) (fun c4 => ?_) (fun c4 => ?_)
    ·
      exact (dkN_nil (show dkN [] v1 from dkN_eq1 dv1 (dkN_lit (x := 0) (0) rfl) (congrArg Int32.toInt c4) rfl)).elim
    ·
      refine lv_iload_n hx hb dX5_walk_8 rfl (lv_at hl 2 rfl) ?_
      refine lv_iconst (v := 2) hx hb dX5_walk_9 (by decide) ?_
      refine dk_Si (As := [.int p1, .int 2]) (rest := []) ⟨hx, hb, hml, hown, hts⟩ (c_X5_isUpTo_1 l g z I1 p1 2 (dkN_lit (x := 2) (2) rfl) hO) (va_cwS 2 hts gX5_walk_X5_isUpTo rfl rfl rfl (by decide +kernel) ⟨Nat.le_of_ble_eq_true rfl, Nat.le_of_ble_eq_true rfl⟩) hK hT hW hS rfl hl.1 rfl (Nat.le_of_ble_eq_true rfl) dX5_walk_10 ⟨Nat.zero_le _, Nat.zero_le _⟩ (fun v5 I5 H5 L5 hp5 hW hS => ?_)
      obtain ⟨hF5, hO, hc5⟩ := hp5
      have hF := dkF_call hF hF5 rfl
      have hP := dkQQ_F hP hF5 rfl
      rcases hc5 with ⟨dv5, a5_0, -⟩ | hc5
      ·
        have d6 : dkN [(-2147483648, -1), (3, 2147483647)] p1 := dkN_eq1 (dkN_top p1) a5_0 rfl rfl
        refine lv_if_ne (tgt := 19) hx hb dX5_walk_13 (by decide) (fun c7 => ?_) (fun c7 => ?_)
        ·
          exact (dkN_nil (show dkN [] v5 from dkN_ne1 (0) dv5 (dkN_lit (x := 0) (0) rfl) (dk_ne c7) rfl)).elim
        ·
          refine lv_ldc (v := (-1000001)) hx hb hown (hts (.constant RX5 70 (-1000001)) (List.mem_of_getElem? (i := 1) rfl)) dX5_walk_16 ?_
          exact W.iret (v := (-1000001)) hx hb hr (fun t ht hW9 => ⟨⟨(-1000001), I5, rfl, ⟨hF, hO, hP, ⟨trivial, trivial⟩⟩, dkW_eq ht hW⟩, hS.F ht⟩) hS.2.2 dX5_walk_18
      ·
        obtain ⟨dv5, a5_0, -⟩ := hc5
        have d8 : dkN [(0, 2)] p1 := dkN_eq1 (dkN_top p1) a5_0 rfl rfl
        refine lv_if_ne (tgt := 19) hx hb dX5_walk_13 (by decide) (fun c9 => ?_) (fun c9 => ?_)
        ·
          refine lv_aload_n hx hb dX5_walk_19 rfl (lv_at hl 0 rfl) ?_
          refine dk_get (k := 0) hx hb hts iX5_walk_5 hown hK (dk_at0 hW) rfl 5 (by decide) (hts (.fieldLink RX5 31 "DogKings" "now" "LDogKings$Town;") (List.mem_of_getElem? (i := 2) rfl)) rfl dX5_walk_20 ?_
          refine dk_get (k := 25) hx hb hts iX5_walk_4 hown hK (dk_at25 hW) rfl 9 (by decide) (hts (.fieldLink RX5 146 "DogKings$Town" "gait" "[I") (List.mem_of_getElem? (i := 3) rfl)) rfl dX5_walk_23 ?_
          refine lv_iload_n hx hb dX5_walk_26 rfl (lv_at hl 1 rfl) ?_
          refine dk_ild (k := 30) hx hb hK (dk_at30 hW) (dkN_in (n := 5) d3 rfl) dX5_walk_27 ?_
          refine lv_topi (fun v10 ev10 => ?_)
          refine lv_istore_n (lv' := [(3, .int v10), (0, .ref (z + 0)), (1, .int p0), (2, .int p1)]) hx hb dX5_walk_28 rfl hl (by decide) rfl (fun ls hl => ?_)
          refine lv_iload_n hx hb dX5_walk_29 rfl (lv_at hl 3 rfl) ?_
          refine lv_iload_n hx hb dX5_walk_30 rfl (lv_at hl 0 rfl) ?_
          refine lv_icmp_eq (tgt := 55) hx hb dX5_walk_31 (by decide) (fun c11 => ?_) (fun c11 => ?_)
          ·
            have d12 : dkN [(0, 2)] v10 := dkN_eq1 (dkN_top v10) d8 (congrArg Int32.toInt c11).symm rfl
            refine lv_iload_n hx hb dX5_walk_55 rfl (lv_at hl 0 rfl) ?_
            exact W.iret (v := v10) hx hb hr (fun t ht hW9 => ⟨⟨v10, I5, rfl, ⟨hF, hO, hP, ⟨trivial, trivial⟩⟩, dkW_eq ht hW⟩, hS.F ht⟩) hS.2.2 dX5_walk_56
          ·
            refine lv_aload_n hx hb dX5_walk_34 rfl (lv_at hl 1 rfl) ?_
            refine dk_get (k := 0) hx hb hts iX5_walk_5 hown hK (dk_at0 hW) rfl 7 (by decide) (hts (.fieldLink RX5 42 "DogKings" "acts" "LDogKings$Acts;") (List.mem_of_getElem? (i := 4) rfl)) rfl dX5_walk_35 ?_
            refine lv_aload_n hx hb dX5_walk_38 rfl (lv_at hl 1 rfl) ?_
            refine dk_get (k := 0) hx hb hts iX5_walk_5 hown hK (dk_at0 hW) rfl 5 (by decide) (hts (.fieldLink RX5 31 "DogKings" "now" "LDogKings$Town;") (List.mem_of_getElem? (i := 2) rfl)) rfl dX5_walk_39 ?_
            refine dk_Vv (As := [.ref (z + 25)]) (rest := []) ⟨hx, hb, hml, hown, hts⟩ (fx_X0_keep_1 l g z I5 hO hP) (cwV 1 hts gX5_walk_X0_keep rfl rfl rfl (by decide +kernel) ⟨Nat.le_of_ble_eq_true rfl, Nat.le_of_ble_eq_true rfl⟩) (dk_at59 hW) rfl hK hT hW hS rfl hl.1 rfl (Nat.le_of_ble_eq_true rfl) dX5_walk_42 ⟨Nat.zero_le _, Nat.zero_le _⟩ (fun I13 H13 L13 hp13 hW hS => ?_)
            obtain ⟨hF13, hO, hP, hc13⟩ := hp13
            have hF := dkF_call hF hF13 rfl
            obtain ⟨f13_59_2, -⟩ := hc13
            refine lv_aload_n hx hb dX5_walk_45 rfl (lv_at hl 1 rfl) ?_
            refine dk_get (k := 0) hx hb hts iX5_walk_5 hown hK (dk_at0 hW) rfl 5 (by decide) (hts (.fieldLink RX5 31 "DogKings" "now" "LDogKings$Town;") (List.mem_of_getElem? (i := 2) rfl)) rfl dX5_walk_46 ?_
            refine dk_get (k := 25) hx hb hts iX5_walk_4 hown hK (dk_at25 hW) rfl 9 (by decide) (hts (.fieldLink RX5 146 "DogKings$Town" "gait" "[I") (List.mem_of_getElem? (i := 3) rfl)) rfl dX5_walk_49 ?_
            refine lv_iload_n hx hb dX5_walk_52 rfl (lv_at hl 2 rfl) ?_
            refine lv_iload_n hx hb dX5_walk_53 rfl (lv_at hl 3 rfl) ?_
            refine dk_ist (k := 30) hx hb hK hW (fun _ => rfl) (by decide) hS (dkN_in (n := 5) d3 rfl) dX5_walk_54 (fun I14 H14 L14 eI14 hW hS => ?_)
            have hO := dkO_set hO eI14 (dkN_sub d8 rfl)
            have hF := dkF_set hF eI14 (dkIn_v d3 rfl)
            have hP := dkQQ_set hP eI14 (dkQQb_v d3 rfl)
            refine lv_iload_n hx hb dX5_walk_55 rfl (lv_at hl 0 rfl) ?_
            exact W.iret (v := v10) hx hb hr (fun t ht hW9 => ⟨⟨v10, I14, rfl, ⟨hF, hO, hP, ⟨trivial, trivial⟩⟩, dkW_eq ht hW⟩, hS.F ht⟩) hS.2.2 dX5_walk_56
        ·
          exact (dkN_nil (show dkN [] v5 from dkN_eq1 dv5 (dkN_lit (x := 0) (0) rfl) (congrArg Int32.toInt c9) rfl)).elim
set_option maxHeartbeats 4000000 in
set_option maxRecDepth 100000 in
theorem c_X5_put_1 (l : Launch) (g : dkG) (z : Nat) (I0 : dkI) (p0 : Int32) (p1 : Int32)  (hO : dkOk I0) (hP : dkQQ I0) : Met l yX5_put wsX5_put (dkR 2) (dkPc g z [.ref (z + 0), .int p0, .int p1] I0) (dkQi g z (fun r I1 => dkF [(61, 324, 0, 2147483647), (34, 34, 0, 5), (59, 59, 1, 2)] I0 I1 ∧ dkOk I1 ∧ dkQQ I1 ∧ ((True ∧ True)))) 0 0 (dkA z) := by
  refine Met.ofW (cc := cX5_put) (maxL := 4) (ret := (some .int)) (by decide) rfl ?_
  intro p e s m args below meth c s₁ B hml hv
  obtain ⟨ha, hW, hK, hT⟩ := hv
  have hx := B.exec
  have hb := B.bytes
  have hr := B.returns
  have hts := atoms_spec (ws := wsX5_put) B.pre
  have hown : s.vm.findClass RX5 = some m.cls := findClass_of_methodNamed B.named
  have hlocks := B.notSynchronized
  have hS : va_S (dkA z) s.heap s.heap [] := va_S.rf
  have hF : dkF [(61, 324, 0, 2147483647), (34, 34, 0, 5), (59, 59, 1, 2)] I0 I0 := dkF_rf _ _
  have hl := lv_entry ([.ref (z + 0), .int p0, .int p1]) (n := 4) (Nat.le_of_ble_eq_true rfl)
  have hgo : entryFrame m args 4 = entryFrame m ([.ref (z + 0), .int p0, .int p1] : List Value).toArray 4 := by rw [ha]
  rw [hgo, lg_entry_eq]
  generalize (lg_sl ([.ref (z + 0), .int p0, .int p1]) ++ List.replicate (4 - (lg_sl ([.ref (z + 0), .int p0, .int p1])).length) Slot.unset).toArray = ls at hl ⊢
  have hl : lv_has ls 4 [(0, .ref (z + 0)), (1, .int p0), (2, .int p1)] := hl
  refine lv_aload_n hx hb dX5_put_0 rfl (lv_at hl 0 rfl) ?_
  refine lv_iload_n hx hb dX5_put_1 rfl (lv_at hl 1 rfl) ?_
  refine dk_Vi (As := [.int p0]) (rest := []) ⟨hx, hb, hml, hown, hts⟩ (c_X5_isDog_0 l g z I0 p0 hO) (cwV 1 hts gX5_put_X5_isDog rfl rfl rfl (by decide +kernel) ⟨Nat.le_of_ble_eq_true rfl, Nat.le_of_ble_eq_true rfl⟩) (dk_at0 hW) rfl hK hT hW hS rfl hl.1 rfl (Nat.le_of_ble_eq_true rfl) dX5_put_2 ⟨Nat.zero_le _, Nat.zero_le _⟩ (fun v1 I1 H1 L1 hp1 hW hS => ?_)
  obtain ⟨hF1, hO, hc1⟩ := hp1
  have hF := dkF_call hF hF1 rfl
  have hP := dkQQ_F hP hF1 rfl
  rcases hc1 with ⟨dv1, -⟩ | hc1
  ·
    refine lv_if_eq (tgt := 16) hx hb dX5_put_5 (by decide) (fun c2 => ?_) (fun c2 => ?_)
    ·
      refine lv_ldc (v := (-1000001)) hx hb hown (hts (.constant RX5 70 (-1000001)) (List.mem_of_getElem? (i := 1) rfl)) dX5_put_16 ?_
      exact W.iret (v := (-1000001)) hx hb hr (fun t ht hW9 => ⟨⟨(-1000001), I1, rfl, ⟨hF, hO, hP, ⟨trivial, trivial⟩⟩, dkW_eq ht hW⟩, hS.F ht⟩) hS.2.2 dX5_put_18
    ·
      exact (dkN_nil (show dkN [] v1 from dkN_ne1 (0) dv1 (dkN_lit (x := 0) (0) rfl) (dk_ne c2) rfl)).elim
  ·
    obtain ⟨dv1, a1_0, f1_25_11, -⟩ := hc1
    have d3 : dkN [(0, 5)] p0 := dkN_eq1 (dkN_top p0) a1_0 rfl rfl
    refine lv_if_eq (tgt := 16) hx hb dX5_put_5 (by decide) (fun c4 => ?_) (fun c4 => ?_)
    ·
      exact (dkN_nil (show dkN [] v1 from dkN_eq1 dv1 (dkN_lit (x := 0) (0) rfl) (congrArg Int32.toInt c4) rfl)).elim
    ·
      refine lv_aload_n hx hb dX5_put_8 rfl (lv_at hl 0 rfl) ?_
      refine lv_iload_n hx hb dX5_put_9 rfl (lv_at hl 2 rfl) ?_
      refine dk_Vi (As := [.int p1]) (rest := []) ⟨hx, hb, hml, hown, hts⟩ (c_X5_isPlace_0 l g z I1 p1 hO) (cwV 1 hts gX5_put_X5_isPlace rfl rfl rfl (by decide +kernel) ⟨Nat.le_of_ble_eq_true rfl, Nat.le_of_ble_eq_true rfl⟩) (dk_at0 hW) rfl hK hT hW hS rfl hl.1 rfl (Nat.le_of_ble_eq_true rfl) dX5_put_10 ⟨Nat.zero_le _, Nat.zero_le _⟩ (fun v5 I5 H5 L5 hp5 hW hS => ?_)
      obtain ⟨hF5, hO, hc5⟩ := hp5
      have hF := dkF_call hF hF5 rfl
      have hP := dkQQ_F hP hF5 rfl
      rcases hc5 with ⟨dv5, -⟩ | hc5
      ·
        refine lv_if_ne (tgt := 19) hx hb dX5_put_13 (by decide) (fun c6 => ?_) (fun c6 => ?_)
        ·
          exact (dkN_nil (show dkN [] v5 from dkN_ne1 (0) dv5 (dkN_lit (x := 0) (0) rfl) (dk_ne c6) rfl)).elim
        ·
          refine lv_ldc (v := (-1000001)) hx hb hown (hts (.constant RX5 70 (-1000001)) (List.mem_of_getElem? (i := 1) rfl)) dX5_put_16 ?_
          exact W.iret (v := (-1000001)) hx hb hr (fun t ht hW9 => ⟨⟨(-1000001), I5, rfl, ⟨hF, hO, hP, ⟨trivial, trivial⟩⟩, dkW_eq ht hW⟩, hS.F ht⟩) hS.2.2 dX5_put_18
      ·
        obtain ⟨dv5, a5_0, f5_25_0, -⟩ := hc5
        have d7 : dkN [(0, 8)] p1 := dkN_eq1 (dkN_top p1) a5_0 rfl rfl
        refine lv_if_ne (tgt := 19) hx hb dX5_put_13 (by decide) (fun c8 => ?_) (fun c8 => ?_)
        ·
          refine lv_aload_n hx hb dX5_put_19 rfl (lv_at hl 0 rfl) ?_
          refine dk_get (k := 0) hx hb hts iX5_put_5 hown hK (dk_at0 hW) rfl 5 (by decide) (hts (.fieldLink RX5 31 "DogKings" "now" "LDogKings$Town;") (List.mem_of_getElem? (i := 2) rfl)) rfl dX5_put_20 ?_
          refine dk_get (k := 25) hx hb hts iX5_put_4 hown hK (dk_at25 hW) rfl 14 (by decide) (hts (.fieldLink RX5 155 "DogKings$Town" "dogAt" "[I") (List.mem_of_getElem? (i := 3) rfl)) rfl dX5_put_23 ?_
          refine lv_iload_n hx hb dX5_put_26 rfl (lv_at hl 1 rfl) ?_
          refine dk_ild (k := 34) hx hb hK (dk_at34 hW) (dkN_in (n := 6) d3 rfl) dX5_put_27 ?_
          refine lv_topi (fun v9 ev9 => ?_)
          refine lv_istore_n (lv' := [(3, .int v9), (0, .ref (z + 0)), (1, .int p0), (2, .int p1)]) hx hb dX5_put_28 rfl hl (by decide) rfl (fun ls hl => ?_)
          refine lv_iload_n hx hb dX5_put_29 rfl (lv_at hl 3 rfl) ?_
          refine lv_iload_n hx hb dX5_put_30 rfl (lv_at hl 0 rfl) ?_
          refine lv_icmp_ne (tgt := 37) hx hb dX5_put_31 (by decide) (fun c10 => ?_) (fun c10 => ?_)
          ·
            refine lv_aload_n hx hb dX5_put_37 rfl (lv_at hl 1 rfl) ?_
            refine dk_get (k := 0) hx hb hts iX5_put_5 hown hK (dk_at0 hW) rfl 7 (by decide) (hts (.fieldLink RX5 42 "DogKings" "acts" "LDogKings$Acts;") (List.mem_of_getElem? (i := 5) rfl)) rfl dX5_put_38 ?_
            refine lv_aload_n hx hb dX5_put_41 rfl (lv_at hl 1 rfl) ?_
            refine dk_get (k := 0) hx hb hts iX5_put_5 hown hK (dk_at0 hW) rfl 5 (by decide) (hts (.fieldLink RX5 31 "DogKings" "now" "LDogKings$Town;") (List.mem_of_getElem? (i := 2) rfl)) rfl dX5_put_42 ?_
            refine dk_Vv (As := [.ref (z + 25)]) (rest := []) ⟨hx, hb, hml, hown, hts⟩ (fx_X0_keep_1 l g z I5 hO hP) (cwV 1 hts gX5_put_X0_keep rfl rfl rfl (by decide +kernel) ⟨Nat.le_of_ble_eq_true rfl, Nat.le_of_ble_eq_true rfl⟩) (dk_at59 hW) rfl hK hT hW hS rfl hl.1 rfl (Nat.le_of_ble_eq_true rfl) dX5_put_45 ⟨Nat.zero_le _, Nat.zero_le _⟩ (fun I11 H11 L11 hp11 hW hS => ?_)
            obtain ⟨hF11, hO, hP, hc11⟩ := hp11
            have hF := dkF_call hF hF11 rfl
            obtain ⟨f11_59_2, -⟩ := hc11
            refine lv_aload_n hx hb dX5_put_48 rfl (lv_at hl 1 rfl) ?_
            refine dk_get (k := 0) hx hb hts iX5_put_5 hown hK (dk_at0 hW) rfl 5 (by decide) (hts (.fieldLink RX5 31 "DogKings" "now" "LDogKings$Town;") (List.mem_of_getElem? (i := 2) rfl)) rfl dX5_put_49 ?_
            refine dk_get (k := 25) hx hb hts iX5_put_4 hown hK (dk_at25 hW) rfl 14 (by decide) (hts (.fieldLink RX5 155 "DogKings$Town" "dogAt" "[I") (List.mem_of_getElem? (i := 3) rfl)) rfl dX5_put_52 ?_
            refine lv_iload_n hx hb dX5_put_55 rfl (lv_at hl 2 rfl) ?_
            refine lv_iload_n hx hb dX5_put_56 rfl (lv_at hl 3 rfl) ?_
            refine dk_ist (k := 34) hx hb hK hW (fun _ => rfl) (by decide) hS (dkN_in (n := 6) d3 rfl) dX5_put_57 (fun I12 H12 L12 eI12 hW hS => ?_)
            have hO := dkO_set hO eI12 (dkN_sub d7 rfl)
            have hF := dkF_set hF eI12 (dkIn_v d3 rfl)
            have hP := dkQQ_set hP eI12 (dkQQb_v d3 rfl)
            refine lv_iload_n hx hb dX5_put_58 rfl (lv_at hl 0 rfl) ?_
            exact W.iret (v := v9) hx hb hr (fun t ht hW9 => ⟨⟨v9, I12, rfl, ⟨hF, hO, hP, ⟨trivial, trivial⟩⟩, dkW_eq ht hW⟩, hS.F ht⟩) hS.2.2 dX5_put_59
          ·
            have d13 : dkN [(0, 8)] v9 := dkN_eq1 (dkN_top v9) d7 (congrArg Int32.toInt c10).symm rfl
            refine lv_ldc (v := (-1000002)) hx hb hown (hts (.constant RX5 129 (-1000002)) (List.mem_of_getElem? (i := 4) rfl)) dX5_put_34 ?_
            exact W.iret (v := (-1000002)) hx hb hr (fun t ht hW9 => ⟨⟨(-1000002), I5, rfl, ⟨hF, hO, hP, ⟨trivial, trivial⟩⟩, dkW_eq ht hW⟩, hS.F ht⟩) hS.2.2 dX5_put_36
        ·
          exact (dkN_nil (show dkN [] v5 from dkN_eq1 dv5 (dkN_lit (x := 0) (0) rfl) (congrArg Int32.toInt c8) rfl)).elim
