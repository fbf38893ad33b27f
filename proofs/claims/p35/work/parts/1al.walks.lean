set_option maxHeartbeats 4000000 in
set_option maxRecDepth 100000 in
theorem c_X6_hangs_0 (l : Launch) (g : dkG) (z : Nat) (I0 : dkI)  (hO : dkOk I0) : Met l yX6_hangs wsX6_hangs (dkR 7) (dkPc g z [.ref (z + 340)] I0) (dkQi g z (fun r I1 => dkF [(340, 340, 20, 22), (348, 348, 0, 53)] I0 I1 ∧ dkOk I1 ∧ ((True ∧ True)))) 0 0 (dkA z) := by
  refine Met.ofW (cc := cX6_hangs) (maxL := 4) (ret := (some .int)) (by decide) rfl ?_
  intro p e s m args below meth c s₁ B hml hv
  obtain ⟨ha, hW, hK, hT⟩ := hv
  have hx := B.exec
  have hb := B.bytes
  have hr := B.returns
  have hts := atoms_spec (ws := wsX6_hangs) B.pre
  have hown : s.vm.findClass RX6 = some m.cls := findClass_of_methodNamed B.named
  have hlocks := B.notSynchronized
  have hS : va_S (dkA z) s.heap s.heap [] := va_S.rf
  have hF : dkF [(340, 340, 20, 22), (348, 348, 0, 53)] I0 I0 := dkF_rf _ _
  have hl := lv_entry ([.ref (z + 340)]) (n := 4) (Nat.le_of_ble_eq_true rfl)
  have hgo : entryFrame m args 4 = entryFrame m ([.ref (z + 340)] : List Value).toArray 4 := by rw [ha]
  rw [hgo, lg_entry_eq]
  generalize (lg_sl ([.ref (z + 340)]) ++ List.replicate (4 - (lg_sl ([.ref (z + 340)])).length) Slot.unset).toArray = ls at hl ⊢
  have hl : lv_has ls 4 [(0, .ref (z + 340))] := hl
  have C23 : ∀ (n : Nat), ∀ (I : dkI) (H : Heap) (locs : List Loc) (ls : Array Slot) (x23_1 : Int32) (x23_2 : Int32) (x23_3 : Int32), (6 - x23_3.toInt).toNat < n → dkW g z I H → va_S (dkA z) s.heap H locs → dkF [(340, 340, 20, 22), (348, 348, 0, 53)] I0 I → dkOk I → dkN [(-1000000, -1000000), (0, 4)] x23_1 → dkN [(0, 6)] x23_3 → dkN [(0, 0)] (I 340 21) → dkN [(0, 0)] (I 340 22) → dkN [(1, 9)] (I 346 0) → dkN [(0, 2147483647)] (I 348 3) → lv_has ls 4 [(0, .ref (z + 340)), (1, .int x23_1), (2, .int x23_2), (3, .int x23_3)] → W p l e (headSpec wsX6_hangs (dkR 7)).room s m args below meth c H locs 0 0 (MQ below (dkQi g z (fun r I1 => dkF [(340, 340, 20, 22), (348, 348, 0, 53)] I0 I1 ∧ dkOk I1 ∧ ((True ∧ True)))) args s 0 0 (dkA z)) (F0 m 23 ls []) := by
    intro n
    induction n with
    | zero => intro I H locs ls x23_1 x23_2 x23_3 hn; exact absurd hn (Nat.not_lt_zero _)
    | succ n ih23 =>
      intro I23_ H locs ls x23_1 x23_2 x23_3 hn23 hW hS hF_23 hO k23_0 k23_2 f23_0 f23_1 f23_2 f23_3 hl
      have hF := hF_23
      have C60 : ∀ (I : dkI) (H : Heap) (locs : List Loc) (ls : Array Slot) (x60_s0 : Int32), dkW g z I H → va_S (dkA z) s.heap H locs → dkF [(340, 340, 20, 22), (348, 348, 0, 53)] I0 I → dkOk I → dkN [(0, 32)] x60_s0 → dkN [(-1000000, -1000000), (0, 4)] x23_1 → dkN [(0, 5)] x23_3 → dkN [(0, 0)] (I 340 21) → dkN [(0, 0)] (I 340 22) → dkN [(1, 9)] (I 346 0) → dkN [(1, 6)] (I 346 5) → dkN [(0, 2147483647)] (I 348 3) → lv_has ls 4 [(0, .ref (z + 340)), (1, .int x23_1), (2, .int x23_2), (3, .int x23_3)] → W p l e (headSpec wsX6_hangs (dkR 7)).room s m args below meth c H locs 0 0 (MQ below (dkQi g z (fun r I1 => dkF [(340, 340, 20, 22), (348, 348, 0, 53)] I0 I1 ∧ dkOk I1 ∧ ((True ∧ True)))) args s 0 0 (dkA z)) (F0 m 60 ls [.int x60_s0, .int x23_2]) := by
        intro I60_ H locs ls x60_s0 hW hS hF_60 hO k60_0 r60_0 r60_1 f60_0 f60_1 f60_2 f60_3 f60_4 hl
        have hF := hF_60
        refine lv_ior hx hb dX6_hangs_60 ?_
        refine lv_topi (fun v1 ev1 => ?_)
        refine lv_istore_n (lv' := [(2, .int v1), (0, .ref (z + 340)), (1, .int x23_1), (3, .int x23_3)]) hx hb dX6_hangs_61 rfl hl (by decide) rfl (fun ls hl => ?_)
        obtain ⟨v2, ev2⟩ : ∃ y : Int32, y = x23_3 + 1 := ⟨_, rfl⟩
        have dv2 : dkN [(1, 6)] v2 := by rw [ev2]; exact dkN_add r60_1 (dkN_lit (x := 1) (1) rfl) rfl
        refine lv_iinc (v := v2) (lv' := [(3, .int v2), (2, .int v1), (0, .ref (z + 340)), (1, .int x23_1)]) hx hb dX6_hangs_62 hl (k := 3) rfl (by rw [ev2]; rfl) (by decide) rfl (fun ls hl => ?_)
        refine lv_goto (tgt := 23) hx hb dX6_hangs_65 (by decide) ?_
        exact ih23 I60_ _ _ ls x23_1 v1 v2 (dk_near hn23 (by rw [ev2]; exact dk_inc r60_1 rfl) (dkN_lt r60_1 rfl)) hW hS hF hO (dkN_sub r60_0 rfl) (dkN_sub dv2 rfl) (show dkN [(0, 0)] (I60_ 340 21) from dkN_sub f60_0 rfl) (show dkN [(0, 0)] (I60_ 340 22) from dkN_sub f60_1 rfl) (show dkN [(1, 9)] (I60_ 346 0) from dkN_sub f60_2 rfl) (show dkN [(0, 2147483647)] (I60_ 348 3) from dkN_sub f60_4 rfl) (lv_sub hl [2, 3, 1, 0] rfl)
      refine lv_iload_n hx hb dX6_hangs_23 rfl (lv_at hl 3 rfl) ?_
      refine lv_aload_n hx hb dX6_hangs_24 rfl (lv_at hl 0 rfl) ?_
      refine dk_get (k := 340) hx hb hts iX6_hangs_6 hown hK (dk_at340 hW) rfl 13 (by decide) (hts (.fieldLink RX6 25 "DogKingsModel" "now" "[I") (List.mem_of_getElem? (i := 2) rfl)) rfl dX6_hangs_25 ?_
      refine lv_iconst (v := 5) hx hb dX6_hangs_28 (by decide) ?_
      refine dk_ild (k := 346) hx hb hK (dk_at346 hW) (dkN_in (n := 54) (dkN_lit (x := 5) (5) rfl) rfl) dX6_hangs_29 ?_
      refine lv_topi (fun v3 ev3 => ?_)
      have ev3 : v3 = I23_ 346 5 := ev3
      have dv3 : dkN [(0, 6)] v3 := by rw [ev3]; exact (show dkN [(0, 6)] (I23_ 346 5) from (hO 346 5))
      refine lv_icmp_ge (tgt := 68) hx hb dX6_hangs_30 (by decide) (fun c4 => ?_) (fun c4 => ?_)
      ·
        refine lv_iload_n hx hb dX6_hangs_68 rfl (lv_at hl 2 rfl) ?_
        exact W.iret (v := x23_2) hx hb hr (fun t ht hW9 => ⟨⟨x23_2, I23_, rfl, ⟨hF, hO, ⟨trivial, trivial⟩⟩, dkW_eq ht hW⟩, hS.F ht⟩) hS.2.2 dX6_hangs_69
      ·
        have d5 : dkN [(1, 6)] v3 := dkN_le2 1 k23_2 dv3 (dkc_nle c4) rfl
        have f6 : dkN [(1, 6)] (I23_ 346 5) := by rw [← ev3]; exact d5
        have d7 : dkN [(0, 5)] x23_3 := dkN_le1 1 k23_2 dv3 (dkc_nle c4) rfl
        refine lv_aload_n hx hb dX6_hangs_33 rfl (lv_at hl 0 rfl) ?_
        refine dk_Vv (As := []) (rest := []) ⟨hx, hb, hml, hown, hts⟩ (c_X6_tries_0 l g z I23_ hO) (cwV 0 hts gX6_hangs_X6_tries rfl rfl rfl (by decide +kernel) ⟨Nat.le_of_ble_eq_true rfl, Nat.le_of_ble_eq_true rfl⟩) (dk_at340 hW) rfl hK hT hW hS rfl hl.1 rfl (Nat.le_of_ble_eq_true rfl) dX6_hangs_34 ⟨Nat.zero_le _, Nat.zero_le _⟩ (fun I8 H8 L8 hp8 hW hS => ?_)
        obtain ⟨hF8, hO, hc8⟩ := hp8
        have hF := dkF_call hF hF8 rfl
        obtain ⟨f8_340_20, f8_340_21, f8_340_22, -⟩ := hc8
        refine lv_aload_n hx hb dX6_hangs_37 rfl (lv_at hl 0 rfl) ?_
        refine lv_iconst (v := 1) hx hb dX6_hangs_38 (by decide) ?_
        refine lv_iload_n hx hb dX6_hangs_39 rfl (lv_at hl 3 rfl) ?_
        refine lv_ishl hx hb dX6_hangs_40 ?_
        refine lv_topi (fun v9 ev9 => ?_)
        have dv9 : dkN [(1, 32)] v9 := by rw [ev9]; exact dkN_shl1 0 5 (by decide) d7 rfl
        refine dk_put (k := 340) hx hb hts iX6_hangs_6 tyX6 tyX6_ok nmX6 hown hK hW (dk_at340 hW) hS rfl 20 (by decide) (hts (.fieldLink RX6 209 "DogKingsModel" "gone" "I") (List.mem_of_getElem? (i := 3) rfl)) rfl rfl (Nat.le_of_ble_eq_true rfl) rfl dX6_hangs_41 (fun I10 H10 L10 eI10 hW hS => ?_)
        have eI10 : I10 = dkU I8 340 20 v9 := eI10
        have hO := dkO_set hO eI10 (dkN_sub dv9 rfl)
        have hF := dkF_set hF eI10 rfl
        refine lv_iload_n hx hb dX6_hangs_44 rfl (lv_at hl 2 rfl) ?_
        refine lv_aload_n hx hb dX6_hangs_45 rfl (lv_at hl 0 rfl) ?_
        refine dk_Vi (As := []) (rest := [.int x23_2]) ⟨hx, hb, hml, hown, hts⟩ (c_X6_nextKing_0 l g z I10 hO) (cwV 0 hts gX6_hangs_X6_nextKing rfl rfl rfl (by decide +kernel) ⟨Nat.le_of_ble_eq_true rfl, Nat.le_of_ble_eq_true rfl⟩) (dk_at340 hW) rfl hK hT hW hS rfl hl.1 rfl (Nat.le_of_ble_eq_true rfl) dX6_hangs_46 ⟨Nat.zero_le _, Nat.zero_le _⟩ (fun v11 I11 H11 L11 hp11 hW hS => ?_)
        obtain ⟨hF11, hO, hc11⟩ := hp11
        have hF := dkF_call hF hF11 rfl
        obtain ⟨dv11, f11_348_3, -⟩ := hc11
        refine lv_iload_n hx hb dX6_hangs_49 rfl (lv_at hl 1 rfl) ?_
        refine lv_icmp_ne (tgt := 57) hx hb dX6_hangs_50 (by decide) (fun c12 => ?_) (fun c12 => ?_)
        ·
          refine lv_iconst (v := 1) hx hb dX6_hangs_57 (by decide) ?_
          refine lv_iload_n hx hb dX6_hangs_58 rfl (lv_at hl 3 rfl) ?_
          refine lv_ishl hx hb dX6_hangs_59 ?_
          refine lv_topi (fun v13 ev13 => ?_)
          have dv13 : dkN [(1, 32)] v13 := by rw [ev13]; exact dkN_shl1 0 5 (by decide) d7 rfl
          exact C60 I11 _ _ ls v13 hW hS hF hO (dkN_sub dv13 rfl) (dkN_sub k23_0 rfl) (dkN_sub d7 rfl) (show dkN [(0, 0)] (I11 340 21) from dkN_sub (by rw [hF11 340 21 rfl]; exact (by rw [eI10, dkU_sn (by decide)]; exact f8_340_21)) rfl) (show dkN [(0, 0)] (I11 340 22) from dkN_sub (by rw [hF11 340 22 rfl]; exact (by rw [eI10, dkU_sn (by decide)]; exact f8_340_22)) rfl) (show dkN [(1, 9)] (I11 346 0) from dkN_sub (by rw [hF11 346 0 rfl]; exact (by rw [eI10, dkU_n (by decide)]; exact (by rw [hF8 346 0 rfl]; exact f23_2))) rfl) (show dkN [(1, 6)] (I11 346 5) from dkN_sub (by rw [hF11 346 5 rfl]; exact (by rw [eI10, dkU_n (by decide)]; exact (by rw [hF8 346 5 rfl]; exact f6))) rfl) (show dkN [(0, 2147483647)] (I11 348 3) from dkN_sub f11_348_3 rfl) (lv_sub hl [0, 1, 2, 3] rfl)
        ·
          refine lv_iconst (v := 0) hx hb dX6_hangs_53 (by decide) ?_
          refine lv_goto (tgt := 60) hx hb dX6_hangs_54 (by decide) ?_
          exact C60 I11 _ _ ls 0 hW hS hF hO (dkN_sub (dkN_lit (x := 0) (0) rfl) rfl) (dkN_sub k23_0 rfl) (dkN_sub d7 rfl) (show dkN [(0, 0)] (I11 340 21) from dkN_sub (by rw [hF11 340 21 rfl]; exact (by rw [eI10, dkU_sn (by decide)]; exact f8_340_21)) rfl) (show dkN [(0, 0)] (I11 340 22) from dkN_sub (by rw [hF11 340 22 rfl]; exact (by rw [eI10, dkU_sn (by decide)]; exact f8_340_22)) rfl) (show dkN [(1, 9)] (I11 346 0) from dkN_sub (by rw [hF11 346 0 rfl]; exact (by rw [eI10, dkU_n (by decide)]; exact (by rw [hF8 346 0 rfl]; exact f23_2))) rfl) (show dkN [(1, 6)] (I11 346 5) from dkN_sub (by rw [hF11 346 5 rfl]; exact (by rw [eI10, dkU_n (by decide)]; exact (by rw [hF8 346 5 rfl]; exact f6))) rfl) (show dkN [(0, 2147483647)] (I11 348 3) from dkN_sub f11_348_3 rfl) (lv_sub hl [0, 1, 2, 3] rfl)
  refine lv_aload_n hx hb dX6_hangs_0 rfl (lv_at hl 0 rfl) ?_
  refine dk_Vi (As := []) (rest := []) ⟨hx, hb, hml, hown, hts⟩ (c_X6_isTown_0 l g z I0 hO) (cwV 0 hts gX6_hangs_X6_isTown rfl rfl rfl (by decide +kernel) ⟨Nat.le_of_ble_eq_true rfl, Nat.le_of_ble_eq_true rfl⟩) (dk_at340 hW) rfl hK hT hW hS rfl hl.1 rfl (Nat.le_of_ble_eq_true rfl) dX6_hangs_1 ⟨Nat.zero_le _, Nat.zero_le _⟩ (fun v14 I14 H14 L14 hp14 hW hS => ?_)
  obtain ⟨hF14, hO, hc14⟩ := hp14
  have hF := dkF_call hF hF14 rfl
  rcases hc14 with ⟨dv14, f14_346_0, -⟩ | hc14
  ·
    refine lv_if_ne (tgt := 10) hx hb dX6_hangs_4 (by decide) (fun c15 => ?_) (fun c15 => ?_)
    ·
      exact (dkN_nil (show dkN [] v14 from dkN_ne1 (0) dv14 (dkN_lit (x := 0) (0) rfl) (dk_ne c15) rfl)).elim
    ·
      refine lv_ldc (v := (-1000002)) hx hb hown (hts (.constant RX6 185 (-1000002)) (List.mem_of_getElem? (i := 1) rfl)) dX6_hangs_7 ?_
      exact W.iret (v := (-1000002)) hx hb hr (fun t ht hW9 => ⟨⟨(-1000002), I14, rfl, ⟨hF, hO, ⟨trivial, trivial⟩⟩, dkW_eq ht hW⟩, hS.F ht⟩) hS.2.2 dX6_hangs_9
  ·
    obtain ⟨dv14, f14_346_0, -⟩ := hc14
    refine lv_if_ne (tgt := 10) hx hb dX6_hangs_4 (by decide) (fun c16 => ?_) (fun c16 => ?_)
    ·
      refine lv_aload_n hx hb dX6_hangs_10 rfl (lv_at hl 0 rfl) ?_
      refine dk_Vv (As := []) (rest := []) ⟨hx, hb, hml, hown, hts⟩ (c_X6_tries_0 l g z I14 hO) (cwV 0 hts gX6_hangs_X6_tries rfl rfl rfl (by decide +kernel) ⟨Nat.le_of_ble_eq_true rfl, Nat.le_of_ble_eq_true rfl⟩) (dk_at340 hW) rfl hK hT hW hS rfl hl.1 rfl (Nat.le_of_ble_eq_true rfl) dX6_hangs_11 ⟨Nat.zero_le _, Nat.zero_le _⟩ (fun I17 H17 L17 hp17 hW hS => ?_)
      obtain ⟨hF17, hO, hc17⟩ := hp17
      have hF := dkF_call hF hF17 rfl
      obtain ⟨f17_340_20, f17_340_21, f17_340_22, -⟩ := hc17
      refine lv_aload_n hx hb dX6_hangs_14 rfl (lv_at hl 0 rfl) ?_
      refine dk_Vi (As := []) (rest := []) ⟨hx, hb, hml, hown, hts⟩ (c_X6_nextKing_0 l g z I17 hO) (cwV 0 hts gX6_hangs_X6_nextKing rfl rfl rfl (by decide +kernel) ⟨Nat.le_of_ble_eq_true rfl, Nat.le_of_ble_eq_true rfl⟩) (dk_at340 hW) rfl hK hT hW hS rfl hl.1 rfl (Nat.le_of_ble_eq_true rfl) dX6_hangs_15 ⟨Nat.zero_le _, Nat.zero_le _⟩ (fun v18 I18 H18 L18 hp18 hW hS => ?_)
      obtain ⟨hF18, hO, hc18⟩ := hp18
      have hF := dkF_call hF hF18 rfl
      obtain ⟨dv18, f18_348_3, -⟩ := hc18
      refine lv_istore_n (lv' := [(1, .int v18), (0, .ref (z + 340))]) hx hb dX6_hangs_18 rfl hl (by decide) rfl (fun ls hl => ?_)
      refine lv_iconst (v := 0) hx hb dX6_hangs_19 (by decide) ?_
      refine lv_istore_n (lv' := [(2, .int 0), (1, .int v18), (0, .ref (z + 340))]) hx hb dX6_hangs_20 rfl hl (by decide) rfl (fun ls hl => ?_)
      refine lv_iconst (v := 0) hx hb dX6_hangs_21 (by decide) ?_
      refine lv_istore_n (lv' := [(3, .int 0), (2, .int 0), (1, .int v18), (0, .ref (z + 340))]) hx hb dX6_hangs_22 rfl hl (by decide) rfl (fun ls hl => ?_)
      exact C23 _ I18 _ _ ls v18 0 0 (Nat.lt_succ_self _) hW hS hF hO (dkN_sub dv18 rfl) (dkN_sub (dkN_lit (x := 0) (0) rfl) rfl) (show dkN [(0, 0)] (I18 340 21) from dkN_sub (by rw [hF18 340 21 rfl]; exact f17_340_21) rfl) (show dkN [(0, 0)] (I18 340 22) from dkN_sub (by rw [hF18 340 22 rfl]; exact f17_340_22) rfl) (show dkN [(1, 9)] (I18 346 0) from dkN_sub (by rw [hF18 346 0 rfl]; exact (by rw [hF17 346 0 rfl]; exact f14_346_0)) rfl) (show dkN [(0, 2147483647)] (I18 348 3) from dkN_sub f18_348_3 rfl) (lv_sub hl [3, 2, 1, 0] rfl)
    ·
      exact (dkN_nil (show dkN [] v14 from dkN_eq1 dv14 (dkN_lit (x := 0) (0) rfl) (congrArg Int32.toInt c16) rfl)).elim
set_option maxHeartbeats 4000000 in
set_option maxRecDepth 100000 in
theorem c_X5_hasItems_2 (l : Launch) (g : dkG) (z : Nat) (I0 : dkI) (p0 : Int32) (p1 : Int32) (p2 : Int32) (dp0 : dkN [(0, 7)] p0) (dp2 : dkN [(1, 12)] p2)  (hO : dkOk I0) : Met l yX5_hasItems wsX5_hasItems (dkR 0) (dkPc g z [.ref (z + 0), .int p0, .int p1, .int p2] I0) (dkQi g z (fun r I1 => dkF [] I0 I1 ∧ dkOk I1 ∧ ((dkN [(0, 0)] r ∧ True) ∨ (dkN [(1, 1)] r ∧ dkN [(0, 39)] p1 ∧ p1.toInt + p2.toInt ≤ 40 ∧ True)))) 0 0 (dkA z) := by
  refine Met.ofW (cc := cX5_hasItems) (maxL := 4) (ret := (some .boolean)) (by decide) rfl ?_
  intro p e s m args below meth c s₁ B hml hv
  obtain ⟨ha, hW, hK, hT⟩ := hv
  have hx := B.exec
  have hb := B.bytes
  have hr := B.returns
  have hts := atoms_spec (ws := wsX5_hasItems) B.pre
  have hown : s.vm.findClass RX5 = some m.cls := findClass_of_methodNamed B.named
  have hlocks := B.notSynchronized
  have hS : va_S (dkA z) s.heap s.heap [] := va_S.rf
  have hF : dkF [] I0 I0 := dkF_rf _ _
  have hl := lv_entry ([.ref (z + 0), .int p0, .int p1, .int p2]) (n := 4) (Nat.le_of_ble_eq_true rfl)
  have hgo : entryFrame m args 4 = entryFrame m ([.ref (z + 0), .int p0, .int p1, .int p2] : List Value).toArray 4 := by rw [ha]
  rw [hgo, lg_entry_eq]
  generalize (lg_sl ([.ref (z + 0), .int p0, .int p1, .int p2]) ++ List.replicate (4 - (lg_sl ([.ref (z + 0), .int p0, .int p1, .int p2])).length) Slot.unset).toArray = ls at hl ⊢
  have hl : lv_has ls 4 [(0, .ref (z + 0)), (1, .int p0), (2, .int p1), (3, .int p2)] := hl
  refine lv_iload_n hx hb dX5_hasItems_0 rfl (lv_at hl 2 rfl) ?_
  refine lv_if_lt (tgt := 24) hx hb dX5_hasItems_1 (by decide) (fun c1 => ?_) (fun c1 => ?_)
  ·
    have d2 : dkN [(-2147483648, -1)] p1 := dkN_le1 1 (dkN_top p1) (dkN_lit (x := 0) (0) rfl) (dkc_lt c1) rfl
    refine lv_iconst (v := 0) hx hb dX5_hasItems_24 (by decide) ?_
    exact W.zret (v := 0) (ty := .boolean) hx hb hr rfl (fun t ht hW9 => ⟨⟨0, I0, rfl, ⟨hF, hO, Or.inl ⟨dkN_sub (dkN_lit (x := 0) (0) rfl) rfl, trivial⟩⟩, dkW_eq ht hW⟩, hS.F ht⟩) hS.2.2 dX5_hasItems_25
  ·
    have d3 : dkN [(0, 2147483647)] p1 := dkN_le2 0 (dkN_lit (x := 0) (0) rfl) (dkN_top p1) (dkc_nlt c1) rfl
    refine lv_iload_n hx hb dX5_hasItems_4 rfl (lv_at hl 3 rfl) ?_
    refine lv_if_lt (tgt := 24) hx hb dX5_hasItems_5 (by decide) (fun c4 => ?_) (fun c4 => ?_)
    ·
      exact (dkN_nil (show dkN [] p2 from dkN_le1 1 dp2 (dkN_lit (x := 0) (0) rfl) (dkc_lt c4) rfl)).elim
    ·
      refine lv_iload_n hx hb dX5_hasItems_8 rfl (lv_at hl 2 rfl) ?_
      refine lv_aload_n hx hb dX5_hasItems_9 rfl (lv_at hl 0 rfl) ?_
      refine dk_get (k := 0) hx hb hts iX5_hasItems_5 hown hK (dk_at0 hW) rfl 2 (by decide) (hts (.fieldLink RX5 18 "DogKings" "sizes" "[I") (List.mem_of_getElem? (i := 1) rfl)) rfl dX5_hasItems_10 ?_
      refine lv_iload_n hx hb dX5_hasItems_13 rfl (lv_at hl 1 rfl) ?_
      refine dk_ild (k := 11) hx hb hK (dk_at11 hW) (dkN_in (n := 8) dp0 rfl) dX5_hasItems_14 ?_
      refine lv_topi (fun v5 ev5 => ?_)
      have dv5 : dkN [(-1, 40)] v5 := by rw [ev5]; exact (hO 11 _)
      refine lv_iload_n hx hb dX5_hasItems_15 rfl (lv_at hl 3 rfl) ?_
      refine lv_isub hx hb dX5_hasItems_16 ?_
      refine lv_topi (fun v6 ev6 => ?_)
      have dv6 : dkN [(-13, 39)] v6 := by rw [ev6]; exact dkN_subt dv5 dp2 rfl
      refine lv_icmp_gt (tgt := 24) hx hb dX5_hasItems_17 (by decide) (fun c7 => ?_) (fun c7 => ?_)
      ·
        refine lv_iconst (v := 0) hx hb dX5_hasItems_24 (by decide) ?_
        exact W.zret (v := 0) (ty := .boolean) hx hb hr rfl (fun t ht hW9 => ⟨⟨0, I0, rfl, ⟨hF, hO, Or.inl ⟨dkN_sub (dkN_lit (x := 0) (0) rfl) rfl, trivial⟩⟩, dkW_eq ht hW⟩, hS.F ht⟩) hS.2.2 dX5_hasItems_25
      ·
        have d8 : dkN [(0, 39)] v6 := dkN_le2 0 d3 dv6 (dkc_nlt c7) rfl
        have d9 : dkN [(0, 39)] p1 := dkN_le1 0 d3 dv6 (dkc_nlt c7) rfl
        refine lv_iconst (v := 1) hx hb dX5_hasItems_20 (by decide) ?_
        refine lv_goto (tgt := 25) hx hb dX5_hasItems_21 (by decide) ?_
        exact W.zret (v := 1) (ty := .boolean) hx hb hr rfl (fun t ht hW9 => ⟨⟨1, I0, rfl, ⟨hF, hO, Or.inr (⟨dkN_sub (dkN_lit (x := 1) (1) rfl) rfl, dkN_sub d9 rfl, (dk_relsubR ev6 dv5 dp2 (dkc_nlt c7) rfl), trivial⟩)⟩, dkW_eq ht hW⟩, hS.F ht⟩) hS.2.2 dX5_hasItems_25
set_option maxHeartbeats 4000000 in
set_option maxRecDepth 100000 in
theorem c_X5_troubleWith_0 (l : Launch) (g : dkG) (z : Nat) (I0 : dkI) (p0 : Int32) (p1 : Int32) (p2 : Int32) (dp0 : dkN [(0, 7)] p0) (dp2 : dkN [(1, 12)] p2)  (hO : dkOk I0) : Met l yX5_troubleWith wsX5_troubleWith (dkR 1) (dkPc g z [.ref (z + 0), .int p0, .int p1, .int p2] I0) (dkQi g z (fun r I1 => dkF [] I0 I1 ∧ dkOk I1 ∧ ((dkN [(0, 0)] r ∧ dkN [(0, 39)] p1 ∧ True) ∨ (dkN [(1, 1)] r ∧ True) ∨ (dkN [(2, 2)] r ∧ True)))) 0 0 (dkA z) := by
  refine Met.ofW (cc := cX5_troubleWith) (maxL := 4) (ret := (some .int)) (by decide) rfl ?_
  intro p e s m args below meth c s₁ B hml hv
  obtain ⟨ha, hW, hK, hT⟩ := hv
  have hx := B.exec
  have hb := B.bytes
  have hr := B.returns
  have hts := atoms_spec (ws := wsX5_troubleWith) B.pre
  have hown : s.vm.findClass RX5 = some m.cls := findClass_of_methodNamed B.named
  have hlocks := B.notSynchronized
  have hS : va_S (dkA z) s.heap s.heap [] := va_S.rf
  have hF : dkF [] I0 I0 := dkF_rf _ _
  have hl := lv_entry ([.ref (z + 0), .int p0, .int p1, .int p2]) (n := 4) (Nat.le_of_ble_eq_true rfl)
  have hgo : entryFrame m args 4 = entryFrame m ([.ref (z + 0), .int p0, .int p1, .int p2] : List Value).toArray 4 := by rw [ha]
  rw [hgo, lg_entry_eq]
  generalize (lg_sl ([.ref (z + 0), .int p0, .int p1, .int p2]) ++ List.replicate (4 - (lg_sl ([.ref (z + 0), .int p0, .int p1, .int p2])).length) Slot.unset).toArray = ls at hl ⊢
  have hl : lv_has ls 4 [(0, .ref (z + 0)), (1, .int p0), (2, .int p1), (3, .int p2)] := hl
  refine lv_aload_n hx hb dX5_troubleWith_0 rfl (lv_at hl 0 rfl) ?_
  refine lv_iload_n hx hb dX5_troubleWith_1 rfl (lv_at hl 1 rfl) ?_
  refine dk_Vi (As := [.int p0]) (rest := []) ⟨hx, hb, hml, hown, hts⟩ (c_X5_isMissing_0 l g z I0 p0 dp0 hO) (cwV 1 hts gX5_troubleWith_X5_isMissing rfl rfl rfl (by decide +kernel) ⟨Nat.le_of_ble_eq_true rfl, Nat.le_of_ble_eq_true rfl⟩) (dk_at0 hW) rfl hK hT hW hS rfl hl.1 rfl (Nat.le_of_ble_eq_true rfl) dX5_troubleWith_2 ⟨Nat.zero_le _, Nat.zero_le _⟩ (fun v1 I1 H1 L1 hp1 hW hS => ?_)
  obtain ⟨hF1, hO, hc1⟩ := hp1
  have hF := dkF_call hF hF1 rfl
  obtain ⟨dv1, -⟩ := hc1
  refine lv_if_eq (tgt := 10) hx hb dX5_troubleWith_5 (by decide) (fun c2 => ?_) (fun c2 => ?_)
  ·
    have d3 : dkN [(0, 0)] v1 := dkN_eq1 dv1 (dkN_lit (x := 0) (0) rfl) (congrArg Int32.toInt c2) rfl
    refine lv_aload_n hx hb dX5_troubleWith_10 rfl (lv_at hl 0 rfl) ?_
    refine lv_iload_n hx hb dX5_troubleWith_11 rfl (lv_at hl 1 rfl) ?_
    refine lv_iload_n hx hb dX5_troubleWith_12 rfl (lv_at hl 2 rfl) ?_
    refine lv_iload_n hx hb dX5_troubleWith_13 rfl (lv_at hl 3 rfl) ?_
    refine dk_Vi (As := [.int p0, .int p1, .int p2]) (rest := []) ⟨hx, hb, hml, hown, hts⟩ (c_X5_hasItems_2 l g z I1 p0 p1 p2 dp0 dp2 hO) (cwV 3 hts gX5_troubleWith_X5_hasItems rfl rfl rfl (by decide +kernel) ⟨Nat.le_of_ble_eq_true rfl, Nat.le_of_ble_eq_true rfl⟩) (dk_at0 hW) rfl hK hT hW hS rfl hl.1 rfl (Nat.le_of_ble_eq_true rfl) dX5_troubleWith_14 ⟨Nat.zero_le _, Nat.zero_le _⟩ (fun v4 I4 H4 L4 hp4 hW hS => ?_)
    obtain ⟨hF4, hO, hc4⟩ := hp4
    have hF := dkF_call hF hF4 rfl
    rcases hc4 with ⟨dv4, -⟩ | hc4
    ·
      refine lv_if_eq (tgt := 24) hx hb dX5_troubleWith_17 (by decide) (fun c5 => ?_) (fun c5 => ?_)
      ·
        refine lv_iconst (v := 2) hx hb dX5_troubleWith_24 (by decide) ?_
        exact W.iret (v := 2) hx hb hr (fun t ht hW9 => ⟨⟨2, I4, rfl, ⟨hF, hO, Or.inr (Or.inr (⟨dkN_sub (dkN_lit (x := 2) (2) rfl) rfl, trivial⟩))⟩, dkW_eq ht hW⟩, hS.F ht⟩) hS.2.2 dX5_troubleWith_25
      ·
        exact (dkN_nil (show dkN [] v4 from dkN_ne1 (0) dv4 (dkN_lit (x := 0) (0) rfl) (dk_ne c5) rfl)).elim
    ·
      obtain ⟨dv4, a4_1, q4_0, -⟩ := hc4
      have d6 : dkN [(0, 39)] p1 := dkN_eq1 (dkN_top p1) a4_1 rfl rfl
      refine lv_if_eq (tgt := 24) hx hb dX5_troubleWith_17 (by decide) (fun c7 => ?_) (fun c7 => ?_)
      ·
        exact (dkN_nil (show dkN [] v4 from dkN_eq1 dv4 (dkN_lit (x := 0) (0) rfl) (congrArg Int32.toInt c7) rfl)).elim
      ·
        refine lv_iconst (v := 0) hx hb dX5_troubleWith_20 (by decide) ?_
        refine lv_goto (tgt := 25) hx hb dX5_troubleWith_21 (by decide) ?_
        exact W.iret (v := 0) hx hb hr (fun t ht hW9 => ⟨⟨0, I4, rfl, ⟨hF, hO, Or.inl ⟨dkN_sub (dkN_lit (x := 0) (0) rfl) rfl, dkN_sub d6 rfl, trivial⟩⟩, dkW_eq ht hW⟩, hS.F ht⟩) hS.2.2 dX5_troubleWith_25
  ·
    have d8 : dkN [(1, 1)] v1 := dkN_ne1 (0) dv1 (dkN_lit (x := 0) (0) rfl) (dk_ne c2) rfl
    refine lv_iconst (v := 1) hx hb dX5_troubleWith_8 (by decide) ?_
    exact W.iret (v := 1) hx hb hr (fun t ht hW9 => ⟨⟨1, I1, rfl, ⟨hF, hO, Or.inr (Or.inl ⟨dkN_sub (dkN_lit (x := 1) (1) rfl) rfl, trivial⟩)⟩, dkW_eq ht hW⟩, hS.F ht⟩) hS.2.2 dX5_troubleWith_9
set_option maxHeartbeats 4000000 in
set_option maxRecDepth 100000 in
theorem c_X3_leastOf_0 (l : Launch) (g : dkG) (z : Nat) (I0 : dkI) (p0 : Int32) (dp0 : dkN [(0, 1)] p0)  (hO : dkOk I0) : Met l yX3_leastOf wsX3_leastOf (dkR 0) (dkPc g z [.int p0] I0) (dkQi g z (fun r I1 => dkF [] I0 I1 ∧ dkOk I1 ∧ ((dkN [(0, 0)] r ∧ dkN [(1, 1)] p0 ∧ True) ∨ (dkN [(1, 1)] r ∧ dkN [(0, 0)] p0 ∧ True)))) 0 0 (dkA z) := by
  refine Met.ofW (cc := cX3_leastOf) (maxL := 1) (ret := (some .int)) (by decide) rfl ?_
  intro p e s m args below meth c s₁ B hml hv
  obtain ⟨ha, hW, hK, hT⟩ := hv
  have hx := B.exec
  have hb := B.bytes
  have hr := B.returns
  have hts := atoms_spec (ws := wsX3_leastOf) B.pre
  have hown : s.vm.findClass RX3 = some m.cls := findClass_of_methodNamed B.named
  have hlocks := B.notSynchronized
  have hS : va_S (dkA z) s.heap s.heap [] := va_S.rf
  have hF : dkF [] I0 I0 := dkF_rf _ _
  have hl := lv_entry ([.int p0]) (n := 1) (Nat.le_of_ble_eq_true rfl)
  have hgo : entryFrame m args 1 = entryFrame m ([.int p0] : List Value).toArray 1 := by rw [ha]
  rw [hgo, lg_entry_eq]
  generalize (lg_sl ([.int p0]) ++ List.replicate (1 - (lg_sl ([.int p0])).length) Slot.unset).toArray = ls at hl ⊢
  have hl : lv_has ls 1 [(0, .int p0)] := hl
  refine lv_iload_n hx hb dX3_leastOf_0 rfl (lv_at hl 0 rfl) ?_
  refine lv_if_ne (tgt := 8) hx hb dX3_leastOf_1 (by decide) (fun c1 => ?_) (fun c1 => ?_)
  ·
    have d2 : dkN [(1, 1)] p0 := dkN_ne1 (0) dp0 (dkN_lit (x := 0) (0) rfl) (dk_ne c1) rfl
    refine lv_iconst (v := 0) hx hb dX3_leastOf_8 (by decide) ?_
    exact W.iret (v := 0) hx hb hr (fun t ht hW9 => ⟨⟨0, I0, rfl, ⟨hF, hO, Or.inl ⟨dkN_sub (dkN_lit (x := 0) (0) rfl) rfl, dkN_sub d2 rfl, trivial⟩⟩, dkW_eq ht hW⟩, hS.F ht⟩) hS.2.2 dX3_leastOf_9
  ·
    have d3 : dkN [(0, 0)] p0 := dkN_eq1 dp0 (dkN_lit (x := 0) (0) rfl) (congrArg Int32.toInt c1) rfl
    refine lv_iconst (v := 1) hx hb dX3_leastOf_4 (by decide) ?_
    refine lv_goto (tgt := 9) hx hb dX3_leastOf_5 (by decide) ?_
    exact W.iret (v := 1) hx hb hr (fun t ht hW9 => ⟨⟨1, I0, rfl, ⟨hF, hO, Or.inr (⟨dkN_sub (dkN_lit (x := 1) (1) rfl) rfl, dkN_sub d3 rfl, trivial⟩)⟩, dkW_eq ht hW⟩, hS.F ht⟩) hS.2.2 dX3_leastOf_9
set_option maxHeartbeats 4000000 in
set_option maxRecDepth 100000 in
theorem c_X3_mostOf_0 (l : Launch) (g : dkG) (z : Nat) (I0 : dkI) (p0 : Int32) (dp0 : dkN [(0, 1)] p0)  (hO : dkOk I0) : Met l yX3_mostOf wsX3_mostOf (dkR 0) (dkPc g z [.ref (z + 325), .int p0] I0) (dkQi g z (fun r I1 => dkF [] I0 I1 ∧ dkOk I1 ∧ ((dkN [(-1, 8)] r ∧ True)))) 0 0 (dkA z) := by
  refine Met.ofW (cc := cX3_mostOf) (maxL := 2) (ret := (some .int)) (by decide) rfl ?_
  intro p e s m args below meth c s₁ B hml hv
  obtain ⟨ha, hW, hK, hT⟩ := hv
  have hx := B.exec
  have hb := B.bytes
  have hr := B.returns
  have hts := atoms_spec (ws := wsX3_mostOf) B.pre
  have hown : s.vm.findClass RX3 = some m.cls := findClass_of_methodNamed B.named
  have hlocks := B.notSynchronized
  have hS : va_S (dkA z) s.heap s.heap [] := va_S.rf
  have hF : dkF [] I0 I0 := dkF_rf _ _
  have hl := lv_entry ([.ref (z + 325), .int p0]) (n := 2) (Nat.le_of_ble_eq_true rfl)
  have hgo : entryFrame m args 2 = entryFrame m ([.ref (z + 325), .int p0] : List Value).toArray 2 := by rw [ha]
  rw [hgo, lg_entry_eq]
  generalize (lg_sl ([.ref (z + 325), .int p0]) ++ List.replicate (2 - (lg_sl ([.ref (z + 325), .int p0])).length) Slot.unset).toArray = ls at hl ⊢
  have hl : lv_has ls 2 [(0, .ref (z + 325)), (1, .int p0)] := hl
  refine lv_iload_n hx hb dX3_mostOf_0 rfl (lv_at hl 1 rfl) ?_
  by_cases c1 : p0 = 0
  ·
    have qc1 : p0.toInt = 0 := by rw [c1]; rfl
    have d2 : dkN [(0, 0)] p0 := dkN_lit (0) qc1
    refine lv_tableIn (tgt := 28) hx hb dX3_mostOf_1 (by rw [qc1]; decide) (by rw [qc1]; decide) (by rw [qc1]; rfl) (by decide) ?_
    refine lv_iconst (v := 5) hx hb dX3_mostOf_28 (by decide) ?_
    exact W.iret (v := 5) hx hb hr (fun t ht hW9 => ⟨⟨5, I0, rfl, ⟨hF, hO, ⟨dkN_sub (dkN_lit (x := 5) (5) rfl) rfl, trivial⟩⟩, dkW_eq ht hW⟩, hS.F ht⟩) hS.2.2 dX3_mostOf_29
  ·
    have d3 : dkN [(1, 1)] p0 := dkN_ne1 (0) dp0 (dkN_lit (x := 0) (0) rfl) (dk_ne c1) rfl
    by_cases c4 : p0 = 1
    ·
      have qc4 : p0.toInt = 1 := by rw [c4]; rfl
      have d5 : dkN [(1, 1)] p0 := dkN_lit (1) qc4
      refine lv_tableIn (tgt := 30) hx hb dX3_mostOf_1 (by rw [qc4]; decide) (by rw [qc4]; decide) (by rw [qc4]; rfl) (by decide) ?_
      refine lv_aload_n hx hb dX3_mostOf_30 rfl (lv_at hl 0 rfl) ?_
      refine dk_get (k := 325) hx hb hts iX3_mostOf_3 hown hK (dk_at325 hW) rfl 0 (by decide) (hts (.fieldLink RX3 22 "DogKings$Seer" "now" "LDogKings$Town;") (List.mem_of_getElem? (i := 1) rfl)) rfl dX3_mostOf_31 ?_
      refine dk_get (k := 25) hx hb hts iX3_mostOf_4 hown hK (dk_at25 hW) rfl 0 (by decide) (hts (.fieldLink RX3 61 "DogKings$Town" "places" "I") (List.mem_of_getElem? (i := 2) rfl)) rfl dX3_mostOf_34 ?_
      refine lv_topi (fun v6 ev6 => ?_)
      have dv6 : dkN [(0, 9)] v6 := by rw [ev6]; exact (hO 25 0)
      refine lv_iconst (v := 1) hx hb dX3_mostOf_37 (by decide) ?_
      refine lv_isub hx hb dX3_mostOf_38 ?_
      refine lv_topi (fun v7 ev7 => ?_)
      have dv7 : dkN [(-1, 8)] v7 := by rw [ev7]; exact dkN_subt dv6 (dkN_lit (x := 1) (1) rfl) rfl
      exact W.iret (v := v7) hx hb hr (fun t ht hW9 => ⟨⟨v7, I0, rfl, ⟨hF, hO, ⟨dkN_sub dv7 rfl, trivial⟩⟩, dkW_eq ht hW⟩, hS.F ht⟩) hS.2.2 dX3_mostOf_39
    ·
      exact (dkN_nil (show dkN [] p0 from dkN_ne1 (1) d3 (dkN_lit (x := 1) (1) rfl) (dk_ne c4) rfl)).elim
set_option maxHeartbeats 4000000 in
set_option maxRecDepth 100000 in
theorem c_X4_take_2 (l : Launch) (g : dkG) (z : Nat) (I0 : dkI) (t0 : Nat) (ht0 : dkT t0) (p0 : Int32) (p1 : Int32) (p2 : Int32) (dp0 : dkN [(0, 1)] p0) (dp1 : dkN [(0, 5)] p1) (dp2 : dkN [(0, 9)] p2)  (hO : dkOk I0) : Met l yX4_take wsX4_take (dkR 0) (dkPc g z [.ref (z + t0), .int p0, .int p1, .int p2] I0) (dkQv g z (fun I1 => dkF [(t0 + 7, t0 + 7, 0, 5), (t0 + 9, t0 + 9, 0, 5)] I0 I1 ∧ dkOk I1 ∧ ((True)))) 0 0 (dkA z) := by
  refine Met.ofW (cc := cX4_take) (maxL := 4) (ret := none) (by decide) rfl ?_
  intro p e s m args below meth c s₁ B hml hv
  obtain ⟨ha, hW, hK, hT⟩ := hv
  have hx := B.exec
  have hb := B.bytes
  have hr := B.returns
  have hts := atoms_spec (ws := wsX4_take) B.pre
  have hown : s.vm.findClass RX4 = some m.cls := findClass_of_methodNamed B.named
  have hlocks := B.notSynchronized
  have hS : va_S (dkA z) s.heap s.heap [] := va_S.rf
  have hF : dkF [(t0 + 7, t0 + 7, 0, 5), (t0 + 9, t0 + 9, 0, 5)] I0 I0 := dkF_rf _ _
  have hl := lv_entry ([.ref (z + t0), .int p0, .int p1, .int p2]) (n := 4) (Nat.le_of_ble_eq_true rfl)
  have hgo : entryFrame m args 4 = entryFrame m ([.ref (z + t0), .int p0, .int p1, .int p2] : List Value).toArray 4 := by rw [ha]
  rw [hgo, lg_entry_eq]
  generalize (lg_sl ([.ref (z + t0), .int p0, .int p1, .int p2]) ++ List.replicate (4 - (lg_sl ([.ref (z + t0), .int p0, .int p1, .int p2])).length) Slot.unset).toArray = ls at hl ⊢
  have hl : lv_has ls 4 [(0, .ref (z + t0)), (1, .int p0), (2, .int p1), (3, .int p2)] := hl
  refine lv_iload_n hx hb dX4_take_0 rfl (lv_at hl 1 rfl) ?_
  by_cases c1 : p0 = 0
  ·
    have qc1 : p0.toInt = 0 := by rw [c1]; rfl
    have d2 : dkN [(0, 0)] p0 := dkN_lit (0) qc1
    refine lv_tableIn (tgt := 36) hx hb dX4_take_1 (by rw [qc1]; decide) (by rw [qc1]; decide) (by rw [qc1]; rfl) (by decide) ?_
    refine lv_aload_n hx hb dX4_take_36 rfl (lv_at hl 0 rfl) ?_
    refine dk_get (k := t0) hx hb hts iX4_take_4 hown hK (dk_aT0 ht0 hW) rfl 12 (by decide) (hts (.fieldLink RX4 30 "DogKings$Town" "sort" "[I") (List.mem_of_getElem? (i := 1) rfl)) rfl dX4_take_37 ?_
    refine lv_iload_n hx hb dX4_take_40 rfl (lv_at hl 2 rfl) ?_
    refine lv_iload_n hx hb dX4_take_41 rfl (lv_at hl 3 rfl) ?_
    refine dk_ist (k := (t0 + 7)) hx hb hK hW (fun _ => dkC_T g z ht0 (c := 7) (by decide) _) (by have := dkT_lt ht0; omega) hS (dkN_in (n := 6) dp1 rfl) dX4_take_42 (fun I3 H3 L3 eI3 hW hS => ?_)
    have hO := dkO_setT hO ht0 (c := 7) (by decide) eI3 (dkN_sub dp2 rfl)
    have hF := dkF_set hF eI3 (dkIn_atv (i := 0) rfl (Nat.le_refl _) (Nat.le_refl _) dp1 rfl)
    refine lv_goto (tgt := 86) hx hb dX4_take_43 (by decide) ?_
    exact W.vret hx hb hr (fun t ht hW9 => ⟨⟨I3, rfl, ⟨hF, hO, trivial⟩, dkW_eq ht hW⟩, hS.F ht⟩) hS.2.2 dX4_take_86
  ·
    have d4 : dkN [(1, 1)] p0 := dkN_ne1 (0) dp0 (dkN_lit (x := 0) (0) rfl) (dk_ne c1) rfl
    by_cases c5 : p0 = 1
    ·
      have qc5 : p0.toInt = 1 := by rw [c5]; rfl
      have d6 : dkN [(1, 1)] p0 := dkN_lit (1) qc5
      refine lv_tableIn (tgt := 46) hx hb dX4_take_1 (by rw [qc5]; decide) (by rw [qc5]; decide) (by rw [qc5]; rfl) (by decide) ?_
      refine lv_aload_n hx hb dX4_take_46 rfl (lv_at hl 0 rfl) ?_
      refine dk_get (k := t0) hx hb hts iX4_take_4 hown hK (dk_aT0 ht0 hW) rfl 14 (by decide) (hts (.fieldLink RX4 36 "DogKings$Town" "dogAt" "[I") (List.mem_of_getElem? (i := 2) rfl)) rfl dX4_take_47 ?_
      refine lv_iload_n hx hb dX4_take_50 rfl (lv_at hl 2 rfl) ?_
      refine lv_iload_n hx hb dX4_take_51 rfl (lv_at hl 3 rfl) ?_
      refine dk_ist (k := (t0 + 9)) hx hb hK hW (fun _ => dkC_T g z ht0 (c := 9) (by decide) _) (by have := dkT_lt ht0; omega) hS (dkN_in (n := 6) dp1 rfl) dX4_take_52 (fun I7 H7 L7 eI7 hW hS => ?_)
      have hO := dkO_setT hO ht0 (c := 9) (by decide) eI7 (dkN_sub dp2 rfl)
      have hF := dkF_set hF eI7 (dkIn_atv (i := 1) rfl (Nat.le_refl _) (Nat.le_refl _) dp1 rfl)
      refine lv_goto (tgt := 86) hx hb dX4_take_53 (by decide) ?_
      exact W.vret hx hb hr (fun t ht hW9 => ⟨⟨I7, rfl, ⟨hF, hO, trivial⟩, dkW_eq ht hW⟩, hS.F ht⟩) hS.2.2 dX4_take_86
    ·
      exact (dkN_nil (show dkN [] p0 from dkN_ne1 (1) d4 (dkN_lit (x := 1) (1) rfl) (dk_ne c5) rfl)).elim
set_option maxHeartbeats 4000000 in
set_option maxRecDepth 100000 in
theorem c_X3_goesAsTold_0 (l : Launch) (g : dkG) (z : Nat) (I0 : dkI) (r0 : Nat) (hr0 : 2 ≤ r0 ∧ r0 < 10) (p0 : Int32) (p1 : Int32) (p2 : Int32) (dp0 : dkN [(0, 5)] p0) (dp1 : dkN [(0, 39)] p1) (dp2 : dkN [(1, 12)] p2)  (hO : dkOk I0) : Met l yX3_goesAsTold wsX3_goesAsTold (dkR 5) (dkPc g z [.ref (z + 325), .int p0, .ref (z + r0), .int p1, .int p2] I0) (dkQi g z (fun r I1 => dkF [(326, 326, 2, 3), (329, 329, 0, 4), (331, 331, 0, 4), (332, 332, 0, 4), (335, 335, 0, 5), (336, 336, 0, 8)] I0 I1 ∧ dkOk I1 ∧ ((dkN [(0, 0)] r ∧ dkN [(-2147483648, 29)] (I1 326 3) ∧ True) ∨ (dkN [(1, 1)] r ∧ True)))) 0 0 (dkA z) := by
  refine Met.ofW (cc := cX3_goesAsTold) (maxL := 6) (ret := (some .boolean)) (by decide) rfl ?_
  intro p e s m args below meth c s₁ B hml hv
  obtain ⟨ha, hW, hK, hT⟩ := hv
  have hx := B.exec
  have hb := B.bytes
  have hr := B.returns
  have hts := atoms_spec (ws := wsX3_goesAsTold) B.pre
  have hown : s.vm.findClass RX3 = some m.cls := findClass_of_methodNamed B.named
  have hlocks := B.notSynchronized
  have hS : va_S (dkA z) s.heap s.heap [] := va_S.rf
  have hF : dkF [(326, 326, 2, 3), (329, 329, 0, 4), (331, 331, 0, 4), (332, 332, 0, 4), (335, 335, 0, 5), (336, 336, 0, 8)] I0 I0 := dkF_rf _ _
  have hl := lv_entry ([.ref (z + 325), .int p0, .ref (z + r0), .int p1, .int p2]) (n := 6) (Nat.le_of_ble_eq_true rfl)
  have hgo : entryFrame m args 6 = entryFrame m ([.ref (z + 325), .int p0, .ref (z + r0), .int p1, .int p2] : List Value).toArray 6 := by rw [ha]
  rw [hgo, lg_entry_eq]
  generalize (lg_sl ([.ref (z + 325), .int p0, .ref (z + r0), .int p1, .int p2]) ++ List.replicate (6 - (lg_sl ([.ref (z + 325), .int p0, .ref (z + r0), .int p1, .int p2])).length) Slot.unset).toArray = ls at hl ⊢
  have hl : lv_has ls 6 [(0, .ref (z + 325)), (1, .int p0), (2, .ref (z + r0)), (3, .int p1), (4, .int p2)] := hl
  have C3 : ∀ (n : Nat), ∀ (I : dkI) (H : Heap) (locs : List Loc) (ls : Array Slot) (x3_5 : Int32), (40 - x3_5.toInt).toNat < n → dkW g z I H → va_S (dkA z) s.heap H locs → dkF [(326, 326, 2, 3), (329, 329, 0, 4), (331, 331, 0, 4), (332, 332, 0, 4), (335, 335, 0, 5), (336, 336, 0, 8)] I0 I → dkOk I → dkN [(0, 40)] x3_5 → lv_has ls 6 [(0, .ref (z + 325)), (1, .int p0), (2, .ref (z + r0)), (3, .int p1), (4, .int p2), (5, .int x3_5)] → W p l e (headSpec wsX3_goesAsTold (dkR 5)).room s m args below meth c H locs 0 0 (MQ below (dkQi g z (fun r I1 => dkF [(326, 326, 2, 3), (329, 329, 0, 4), (331, 331, 0, 4), (332, 332, 0, 4), (335, 335, 0, 5), (336, 336, 0, 8)] I0 I1 ∧ dkOk I1 ∧ ((dkN [(0, 0)] r ∧ dkN [(-2147483648, 29)] (I1 326 3) ∧ True) ∨ (dkN [(1, 1)] r ∧ True)))) args s 0 0 (dkA z)) (F0 m 3 ls []) := by
    intro n
    induction n with
    | zero => intro I H locs ls x3_5 hn; exact absurd hn (Nat.not_lt_zero _)
    | succ n ih3 =>
      intro I3_ H locs ls x3_5 hn3 hW hS hF_3 hO k3_0 hl
      have hF := hF_3
      refine lv_iload hx hb dX3_goesAsTold_3 (lv_at hl 5 rfl) ?_
      refine lv_iload_n hx hb dX3_goesAsTold_5 rfl (lv_at hl 3 rfl) ?_
      refine lv_iload hx hb dX3_goesAsTold_6 (lv_at hl 4 rfl) ?_
      refine lv_iadd hx hb dX3_goesAsTold_8 ?_
      refine lv_topi (fun v1 ev1 => ?_)
      have dv1 : dkN [(1, 51)] v1 := by rw [ev1]; exact dkN_add dp1 dp2 rfl
      refine lv_icmp_ge (tgt := 56) hx hb dX3_goesAsTold_9 (by decide) (fun c2 => ?_) (fun c2 => ?_)
      ·
        have d3 : dkN [(1, 40)] v1 := dkN_le1 0 dv1 k3_0 (dkc_le c2) rfl
        have d4 : dkN [(1, 40)] x3_5 := dkN_le2 0 dv1 k3_0 (dkc_le c2) rfl
        refine lv_iconst (v := 1) hx hb dX3_goesAsTold_56 (by decide) ?_
        exact W.zret (v := 1) (ty := .boolean) hx hb hr rfl (fun t ht hW9 => ⟨⟨1, I3_, rfl, ⟨hF, hO, Or.inr (⟨dkN_sub (dkN_lit (x := 1) (1) rfl) rfl, trivial⟩)⟩, dkW_eq ht hW⟩, hS.F ht⟩) hS.2.2 dX3_goesAsTold_57
      ·
        refine lv_aload_n hx hb dX3_goesAsTold_12 rfl (lv_at hl 0 rfl) ?_
        refine dk_get (k := 325) hx hb hts iX3_goesAsTold_3 hown hK (dk_at325 hW) rfl 1 (by decide) (hts (.fieldLink RX3 12 "DogKings$Seer" "then" "LDogKings$Town;") (List.mem_of_getElem? (i := 1) rfl)) rfl dX3_goesAsTold_13 ?_
        refine dk_Vi (As := []) (rest := []) ⟨hx, hb, hml, hown, hts⟩ (c_X4_pass_0 l g z I3_ (326) (by unfold dkT; omega) hO) (cwV 0 hts gX3_goesAsTold_X4_pass rfl rfl rfl (by decide +kernel) ⟨Nat.le_of_ble_eq_true rfl, Nat.le_of_ble_eq_true rfl⟩) (dk_at326 hW) rfl hK hT hW hS rfl hl.1 rfl (Nat.le_of_ble_eq_true rfl) dX3_goesAsTold_16 ⟨Nat.zero_le _, Nat.zero_le _⟩ (fun v5 I5 H5 L5 hp5 hW hS => ?_)
        obtain ⟨hF5, hO, hc5⟩ := hp5
        have hF := dkF_call hF hF5 rfl
        obtain ⟨dv5, f5_326_3, -⟩ := hc5
        refine lv_pop hx hb dX3_goesAsTold_19 rfl ?_
        refine lv_iload hx hb dX3_goesAsTold_20 (lv_at hl 5 rfl) ?_
        refine lv_if_lt (tgt := 48) hx hb dX3_goesAsTold_22 (by decide) (fun c6 => ?_) (fun c6 => ?_)
        ·
          exact (dkN_nil (show dkN [] x3_5 from dkN_le1 1 k3_0 (dkN_lit (x := 0) (0) rfl) (dkc_lt c6) rfl)).elim
        ·
          refine lv_iload hx hb dX3_goesAsTold_25 (lv_at hl 5 rfl) ?_
          refine lv_aload_n hx hb dX3_goesAsTold_27 rfl (lv_at hl 2 rfl) ?_
          refine dk_alen (k := r0) hx hb hK (dk_aR hr0 hW) (v := 40) rfl dX3_goesAsTold_28 ?_
          refine lv_icmp_ge (tgt := 48) hx hb dX3_goesAsTold_29 (by decide) (fun c7 => ?_) (fun c7 => ?_)
          ·
            have d8 : dkN [(40, 40)] x3_5 := dkN_le2 0 (dkN_lit (x := 40) (40) rfl) k3_0 (dkc_le c7) rfl
            refine lv_iconst (v := 0) hx hb dX3_goesAsTold_48 (by decide) ?_
            exact W.zret (v := 0) (ty := .boolean) hx hb hr rfl (fun t ht hW9 => ⟨⟨0, I5, rfl, ⟨hF, hO, Or.inl ⟨dkN_sub (dkN_lit (x := 0) (0) rfl) rfl, (show dkN [(-2147483648, 29)] (I5 326 3) from dkN_sub f5_326_3 rfl), trivial⟩⟩, dkW_eq ht hW⟩, hS.F ht⟩) hS.2.2 dX3_goesAsTold_49
          ·
            have d9 : dkN [(0, 39)] x3_5 := dkN_le1 1 k3_0 (dkN_lit (x := 40) (40) rfl) (dkc_nle c7) rfl
            refine lv_aload_n hx hb dX3_goesAsTold_32 rfl (lv_at hl 2 rfl) ?_
            refine lv_iload hx hb dX3_goesAsTold_33 (lv_at hl 5 rfl) ?_
            refine dk_ild (k := r0) hx hb hK (dk_aR hr0 hW) (dkN_in (n := 40) d9 rfl) dX3_goesAsTold_35 ?_
            refine lv_topi (fun v10 ev10 => ?_)
            refine lv_aload_n hx hb dX3_goesAsTold_36 rfl (lv_at hl 0 rfl) ?_
            refine dk_get (k := 325) hx hb hts iX3_goesAsTold_3 hown hK (dk_at325 hW) rfl 1 (by decide) (hts (.fieldLink RX3 12 "DogKings$Seer" "then" "LDogKings$Town;") (List.mem_of_getElem? (i := 1) rfl)) rfl dX3_goesAsTold_37 ?_
            refine dk_get (k := 326) hx hb hts iX3_goesAsTold_4 hown hK (dk_at326 hW) rfl 14 (by decide) (hts (.fieldLink RX3 29 "DogKings$Town" "dogAt" "[I") (List.mem_of_getElem? (i := 2) rfl)) rfl dX3_goesAsTold_40 ?_
            refine lv_iload_n hx hb dX3_goesAsTold_43 rfl (lv_at hl 1 rfl) ?_
            refine dk_ild (k := 335) hx hb hK (dk_at335 hW) (dkN_in (n := 6) dp0 rfl) dX3_goesAsTold_44 ?_
            refine lv_topi (fun v11 ev11 => ?_)
            refine lv_icmp_eq (tgt := 50) hx hb dX3_goesAsTold_45 (by decide) (fun c12 => ?_) (fun c12 => ?_)
            ·
              obtain ⟨v13, ev13⟩ : ∃ y : Int32, y = x3_5 + 1 := ⟨_, rfl⟩
              have dv13 : dkN [(1, 40)] v13 := by rw [ev13]; exact dkN_add d9 (dkN_lit (x := 1) (1) rfl) rfl
              refine lv_iinc (v := v13) (lv' := [(5, .int v13), (0, .ref (z + 325)), (1, .int p0), (2, .ref (z + r0)), (3, .int p1), (4, .int p2)]) hx hb dX3_goesAsTold_50 hl (k := 5) rfl (by rw [ev13]; rfl) (by decide) rfl (fun ls hl => ?_)
              refine lv_goto (tgt := 3) hx hb dX3_goesAsTold_53 (by decide) ?_
              exact ih3 I5 _ _ ls v13 (dk_near hn3 (by rw [ev13]; exact dk_inc d9 rfl) (dkN_lt d9 rfl)) hW hS hF hO (dkN_sub dv13 rfl) (lv_sub hl [1, 2, 3, 4, 5, 0] rfl)
            ·
              refine lv_iconst (v := 0) hx hb dX3_goesAsTold_48 (by decide) ?_
              exact W.zret (v := 0) (ty := .boolean) hx hb hr rfl (fun t ht hW9 => ⟨⟨0, I5, rfl, ⟨hF, hO, Or.inl ⟨dkN_sub (dkN_lit (x := 0) (0) rfl) rfl, (show dkN [(-2147483648, 29)] (I5 326 3) from dkN_sub f5_326_3 rfl), trivial⟩⟩, dkW_eq ht hW⟩, hS.F ht⟩) hS.2.2 dX3_goesAsTold_49
  refine lv_iload_n hx hb dX3_goesAsTold_0 rfl (lv_at hl 3 rfl) ?_
  refine lv_istore (lv' := [(5, .int p1), (0, .ref (z + 325)), (1, .int p0), (2, .ref (z + r0)), (3, .int p1), (4, .int p2)]) hx hb dX3_goesAsTold_1 hl (by decide) rfl (fun ls hl => ?_)
  exact C3 _ I0 _ _ ls p1 (Nat.lt_succ_self _) hW hS hF hO (dkN_sub dp1 rfl) (lv_sub hl [1, 2, 3, 4, 5, 0] rfl)
set_option maxHeartbeats 4000000 in
set_option maxRecDepth 100000 in
theorem c_X3_guesses_0 (l : Launch) (g : dkG) (z : Nat) (I0 : dkI) (r0 : Nat) (hr0 : 2 ≤ r0 ∧ r0 < 10) (p0 : Int32) (p1 : Int32) (p2 : Int32) (p3 : Int32) (p4 : Int32) (dp0 : dkN [(0, 1)] p0) (dp1 : dkN [(0, 5)] p1) (dp2 : dkN [(0, 5)] p2) (dp3 : dkN [(0, 39)] p3) (dp4 : dkN [(1, 12)] p4)  (hO : dkOk I0) : Met l yX3_guesses wsX3_guesses (dkR 6) (dkPc g z [.ref (z + 325), .int p0, .int p1, .int p2, .ref (z + r0), .int p3, .int p4] I0) (dkQi g z (fun r I1 => dkF [(326, 326, 0, 4), (326, 326, 11, 11), (326, 326, 15, 17), (327, 327, 0, 4), (328, 328, 0, 4), (329, 329, 0, 4), (330, 330, 0, 4), (331, 331, 0, 4), (332, 332, 0, 4), (333, 333, 0, 5), (334, 334, 0, 5), (335, 335, 0, 5), (336, 336, 0, 8)] I0 I1 ∧ dkOk I1 ∧ ((True ∧ True)))) 0 0 (dkA z) := by
  refine Met.ofW (cc := cX3_guesses) (maxL := 9) (ret := (some .int)) (by decide) rfl ?_
  intro p e s m args below meth c s₁ B hml hv
  obtain ⟨ha, hW, hK, hT⟩ := hv
  have hx := B.exec
  have hb := B.bytes
  have hr := B.returns
  have hts := atoms_spec (ws := wsX3_guesses) B.pre
  have hown : s.vm.findClass RX3 = some m.cls := findClass_of_methodNamed B.named
  have hlocks := B.notSynchronized
  have hS : va_S (dkA z) s.heap s.heap [] := va_S.rf
  have hF : dkF [(326, 326, 0, 4), (326, 326, 11, 11), (326, 326, 15, 17), (327, 327, 0, 4), (328, 328, 0, 4), (329, 329, 0, 4), (330, 330, 0, 4), (331, 331, 0, 4), (332, 332, 0, 4), (333, 333, 0, 5), (334, 334, 0, 5), (335, 335, 0, 5), (336, 336, 0, 8)] I0 I0 := dkF_rf _ _
  have hl := lv_entry ([.ref (z + 325), .int p0, .int p1, .int p2, .ref (z + r0), .int p3, .int p4]) (n := 9) (Nat.le_of_ble_eq_true rfl)
  have hgo : entryFrame m args 9 = entryFrame m ([.ref (z + 325), .int p0, .int p1, .int p2, .ref (z + r0), .int p3, .int p4] : List Value).toArray 9 := by rw [ha]
  rw [hgo, lg_entry_eq]
  generalize (lg_sl ([.ref (z + 325), .int p0, .int p1, .int p2, .ref (z + r0), .int p3, .int p4]) ++ List.replicate (9 - (lg_sl ([.ref (z + 325), .int p0, .int p1, .int p2, .ref (z + r0), .int p3, .int p4])).length) Slot.unset).toArray = ls at hl ⊢
  have hl : lv_has ls 9 [(0, .ref (z + 325)), (1, .int p0), (2, .int p1), (3, .int p2), (4, .ref (z + r0)), (5, .int p3), (6, .int p4)] := hl
  have C9 : ∀ (n : Nat), ∀ (I : dkI) (H : Heap) (locs : List Loc) (ls : Array Slot) (x9_7 : Int32) (x9_8 : Int32), (9 - x9_8.toInt).toNat < n → dkW g z I H → va_S (dkA z) s.heap H locs → dkF [(326, 326, 0, 4), (326, 326, 11, 11), (326, 326, 15, 17), (327, 327, 0, 4), (328, 328, 0, 4), (329, 329, 0, 4), (330, 330, 0, 4), (331, 331, 0, 4), (332, 332, 0, 4), (333, 333, 0, 5), (334, 334, 0, 5), (335, 335, 0, 5), (336, 336, 0, 8)] I0 I → dkOk I → dkN [(0, 9)] x9_8 → lv_has ls 9 [(0, .ref (z + 325)), (1, .int p0), (2, .int p1), (3, .int p2), (4, .ref (z + r0)), (5, .int p3), (6, .int p4), (7, .int x9_7), (8, .int x9_8)] → W p l e (headSpec wsX3_guesses (dkR 6)).room s m args below meth c H locs 0 0 (MQ below (dkQi g z (fun r I1 => dkF [(326, 326, 0, 4), (326, 326, 11, 11), (326, 326, 15, 17), (327, 327, 0, 4), (328, 328, 0, 4), (329, 329, 0, 4), (330, 330, 0, 4), (331, 331, 0, 4), (332, 332, 0, 4), (333, 333, 0, 5), (334, 334, 0, 5), (335, 335, 0, 5), (336, 336, 0, 8)] I0 I1 ∧ dkOk I1 ∧ ((True ∧ True)))) args s 0 0 (dkA z)) (F0 m 9 ls []) := by
    intro n
    induction n with
    | zero => intro I H locs ls x9_7 x9_8 hn; exact absurd hn (Nat.not_lt_zero _)
    | succ n ih9 =>
      intro I9_ H locs ls x9_7 x9_8 hn9 hW hS hF_9 hO k9_1 hl
      have hF := hF_9
      have C64 : ∀ (I : dkI) (H : Heap) (locs : List Loc) (ls : Array Slot) (x64_7 : Int32), dkW g z I H → va_S (dkA z) s.heap H locs → dkF [(326, 326, 0, 4), (326, 326, 11, 11), (326, 326, 15, 17), (327, 327, 0, 4), (328, 328, 0, 4), (329, 329, 0, 4), (330, 330, 0, 4), (331, 331, 0, 4), (332, 332, 0, 4), (333, 333, 0, 5), (334, 334, 0, 5), (335, 335, 0, 5), (336, 336, 0, 8)] I0 I → dkOk I → dkN [(0, 8)] x9_8 → lv_has ls 9 [(0, .ref (z + 325)), (1, .int p0), (2, .int p1), (3, .int p2), (4, .ref (z + r0)), (5, .int p3), (6, .int p4), (7, .int x64_7), (8, .int x9_8)] → W p l e (headSpec wsX3_guesses (dkR 6)).room s m args below meth c H locs 0 0 (MQ below (dkQi g z (fun r I1 => dkF [(326, 326, 0, 4), (326, 326, 11, 11), (326, 326, 15, 17), (327, 327, 0, 4), (328, 328, 0, 4), (329, 329, 0, 4), (330, 330, 0, 4), (331, 331, 0, 4), (332, 332, 0, 4), (333, 333, 0, 5), (334, 334, 0, 5), (335, 335, 0, 5), (336, 336, 0, 8)] I0 I1 ∧ dkOk I1 ∧ ((True ∧ True)))) args s 0 0 (dkA z)) (F0 m 64 ls []) := by
        intro I64_ H locs ls x64_7 hW hS hF_64 hO r64_0 hl
        have hF := hF_64
        obtain ⟨v1, ev1⟩ : ∃ y : Int32, y = x9_8 + 1 := ⟨_, rfl⟩
        have dv1 : dkN [(1, 9)] v1 := by rw [ev1]; exact dkN_add r64_0 (dkN_lit (x := 1) (1) rfl) rfl
        refine lv_iinc (v := v1) (lv' := [(8, .int v1), (0, .ref (z + 325)), (1, .int p0), (2, .int p1), (3, .int p2), (4, .ref (z + r0)), (5, .int p3), (6, .int p4), (7, .int x64_7)]) hx hb dX3_guesses_64 hl (k := 8) rfl (by rw [ev1]; rfl) (by decide) rfl (fun ls hl => ?_)
        refine lv_goto (tgt := 9) hx hb dX3_guesses_67 (by decide) ?_
        exact ih9 I64_ _ _ ls x64_7 v1 (dk_near hn9 (by rw [ev1]; exact dk_inc r64_0 rfl) (dkN_lt r64_0 rfl)) hW hS hF hO (dkN_sub dv1 rfl) (lv_sub hl [1, 2, 3, 4, 5, 6, 7, 8, 0] rfl)
      refine lv_iload hx hb dX3_guesses_9 (lv_at hl 8 rfl) ?_
      refine lv_aload_n hx hb dX3_guesses_11 rfl (lv_at hl 0 rfl) ?_
      refine lv_iload_n hx hb dX3_guesses_12 rfl (lv_at hl 1 rfl) ?_
      refine dk_Vi (As := [.int p0]) (rest := [.int x9_8]) ⟨hx, hb, hml, hown, hts⟩ (c_X3_mostOf_0 l g z I9_ p0 dp0 hO) (cwV 1 hts gX3_guesses_X3_mostOf rfl rfl rfl (by decide +kernel) ⟨Nat.le_of_ble_eq_true rfl, Nat.le_of_ble_eq_true rfl⟩) (dk_at325 hW) rfl hK hT hW hS rfl hl.1 rfl (Nat.le_of_ble_eq_true rfl) dX3_guesses_13 ⟨Nat.zero_le _, Nat.zero_le _⟩ (fun v2 I2 H2 L2 hp2 hW hS => ?_)
      obtain ⟨hF2, hO, hc2⟩ := hp2
      have hF := dkF_call hF hF2 rfl
      obtain ⟨dv2, -⟩ := hc2
      refine lv_icmp_gt (tgt := 70) hx hb dX3_guesses_16 (by decide) (fun c3 => ?_) (fun c3 => ?_)
      ·
        refine lv_iload hx hb dX3_guesses_70 (lv_at hl 7 rfl) ?_
        exact W.iret (v := x9_7) hx hb hr (fun t ht hW9 => ⟨⟨x9_7, I2, rfl, ⟨hF, hO, ⟨trivial, trivial⟩⟩, dkW_eq ht hW⟩, hS.F ht⟩) hS.2.2 dX3_guesses_72
      ·
        have d4 : dkN [(0, 8)] v2 := dkN_le2 0 k9_1 dv2 (dkc_nlt c3) rfl
        have d5 : dkN [(0, 8)] x9_8 := dkN_le1 0 k9_1 dv2 (dkc_nlt c3) rfl
        refine lv_aload_n hx hb dX3_guesses_19 rfl (lv_at hl 0 rfl) ?_
        refine dk_get (k := 325) hx hb hts iX3_guesses_3 hown hK (dk_at325 hW) rfl 1 (by decide) (hts (.fieldLink RX3 12 "DogKings$Seer" "then" "LDogKings$Town;") (List.mem_of_getElem? (i := 1) rfl)) rfl dX3_guesses_20 ?_
        refine lv_aload_n hx hb dX3_guesses_23 rfl (lv_at hl 0 rfl) ?_
        refine dk_get (k := 325) hx hb hts iX3_guesses_3 hown hK (dk_at325 hW) rfl 0 (by decide) (hts (.fieldLink RX3 22 "DogKings$Seer" "now" "LDogKings$Town;") (List.mem_of_getElem? (i := 2) rfl)) rfl dX3_guesses_24 ?_
        refine dk_Vv (As := [.ref (z + 25)]) (rest := []) ⟨hx, hb, hml, hown, hts⟩ (c_X4_become_0 l g z I2 (326) (by unfold dkT; omega) (25) (by unfold dkT; omega) hO) (cwV 1 hts gX3_guesses_X4_become rfl rfl rfl (by decide +kernel) ⟨Nat.le_of_ble_eq_true rfl, Nat.le_of_ble_eq_true rfl⟩) (dk_at326 hW) rfl hK hT hW hS rfl hl.1 rfl (Nat.le_of_ble_eq_true rfl) dX3_guesses_27 ⟨Nat.zero_le _, Nat.zero_le _⟩ (fun I6 H6 L6 hp6 hW hS => ?_)
        obtain ⟨hF6, hO, hc6⟩ := hp6
        have hF := dkF_call hF hF6 rfl
        refine lv_aload_n hx hb dX3_guesses_30 rfl (lv_at hl 0 rfl) ?_
        refine dk_get (k := 325) hx hb hts iX3_guesses_3 hown hK (dk_at325 hW) rfl 1 (by decide) (hts (.fieldLink RX3 12 "DogKings$Seer" "then" "LDogKings$Town;") (List.mem_of_getElem? (i := 1) rfl)) rfl dX3_guesses_31 ?_
        refine lv_iload_n hx hb dX3_guesses_34 rfl (lv_at hl 1 rfl) ?_
        refine lv_iload_n hx hb dX3_guesses_35 rfl (lv_at hl 2 rfl) ?_
        refine lv_iload hx hb dX3_guesses_36 (lv_at hl 8 rfl) ?_
        refine dk_Vv (As := [.int p0, .int p1, .int x9_8]) (rest := []) ⟨hx, hb, hml, hown, hts⟩ (c_X4_take_2 l g z I6 (326) (by unfold dkT; omega) p0 p1 x9_8 dp0 dp1 (dkN_sub d5 rfl) hO) (cwV 3 hts gX3_guesses_X4_take rfl rfl rfl (by decide +kernel) ⟨Nat.le_of_ble_eq_true rfl, Nat.le_of_ble_eq_true rfl⟩) (dk_at326 hW) rfl hK hT hW hS rfl hl.1 rfl (Nat.le_of_ble_eq_true rfl) dX3_guesses_38 ⟨Nat.zero_le _, Nat.zero_le _⟩ (fun I7 H7 L7 hp7 hW hS => ?_)
        obtain ⟨hF7, hO, hc7⟩ := hp7
        have hF := dkF_call hF hF7 rfl
        refine lv_aload_n hx hb dX3_guesses_41 rfl (lv_at hl 0 rfl) ?_
        refine lv_iload_n hx hb dX3_guesses_42 rfl (lv_at hl 3 rfl) ?_
        refine lv_aload hx hb dX3_guesses_43 (lv_at hl 4 rfl) ?_
        refine lv_iload hx hb dX3_guesses_45 (lv_at hl 5 rfl) ?_
        refine lv_iload hx hb dX3_guesses_47 (lv_at hl 6 rfl) ?_
        refine dk_Vi (As := [.int p2, .ref (z + r0), .int p3, .int p4]) (rest := []) ⟨hx, hb, hml, hown, hts⟩ (c_X3_goesAsTold_0 l g z I7 r0 hr0 p2 p3 p4 dp2 dp3 dp4 hO) (cwV 4 hts gX3_guesses_X3_goesAsTold rfl rfl rfl (by decide +kernel) ⟨Nat.le_of_ble_eq_true rfl, Nat.le_of_ble_eq_true rfl⟩) (dk_at325 hW) rfl hK hT hW hS rfl hl.1 rfl (Nat.le_of_ble_eq_true rfl) dX3_guesses_49 ⟨Nat.zero_le _, Nat.zero_le _⟩ (fun v8 I8 H8 L8 hp8 hW hS => ?_)
        obtain ⟨hF8, hO, hc8⟩ := hp8
        have hF := dkF_call hF hF8 rfl
        rcases hc8 with ⟨dv8, f8_326_3, -⟩ | hc8
        ·
          refine lv_if_eq (tgt := 64) hx hb dX3_guesses_52 (by decide) (fun c9 => ?_) (fun c9 => ?_)
          ·
            exact C64 I8 _ _ ls x9_7 hW hS hF hO (dkN_sub d5 rfl) (lv_sub hl [0, 1, 2, 3, 4, 5, 6, 7, 8] rfl)
          ·
            exact (dkN_nil (show dkN [] v8 from dkN_ne1 (0) dv8 (dkN_lit (x := 0) (0) rfl) (dk_ne c9) rfl)).elim
        ·
          obtain ⟨dv8, -⟩ := hc8
          refine lv_if_eq (tgt := 64) hx hb dX3_guesses_52 (by decide) (fun c10 => ?_) (fun c10 => ?_)
          ·
            exact (dkN_nil (show dkN [] v8 from dkN_eq1 dv8 (dkN_lit (x := 0) (0) rfl) (congrArg Int32.toInt c10) rfl)).elim
          ·
            refine lv_iload hx hb dX3_guesses_55 (lv_at hl 7 rfl) ?_
            refine lv_iconst (v := 1) hx hb dX3_guesses_57 (by decide) ?_
            refine lv_iload hx hb dX3_guesses_58 (lv_at hl 8 rfl) ?_
            refine lv_ishl hx hb dX3_guesses_60 ?_
            refine lv_topi (fun v11 ev11 => ?_)
            have dv11 : dkN [(1, 256)] v11 := by rw [ev11]; exact dkN_shl1 0 8 (by decide) d5 rfl
            refine lv_ior hx hb dX3_guesses_61 ?_
            refine lv_topi (fun v12 ev12 => ?_)
            refine lv_istore (lv' := [(7, .int v12), (0, .ref (z + 325)), (1, .int p0), (2, .int p1), (3, .int p2), (4, .ref (z + r0)), (5, .int p3), (6, .int p4), (8, .int x9_8)]) hx hb dX3_guesses_62 hl (by decide) rfl (fun ls hl => ?_)
            exact C64 I8 _ _ ls v12 hW hS hF hO (dkN_sub d5 rfl) (lv_sub hl [1, 2, 3, 4, 5, 6, 7, 0, 8] rfl)
  refine lv_iconst (v := 0) hx hb dX3_guesses_0 (by decide) ?_
  refine lv_istore (lv' := [(7, .int 0), (0, .ref (z + 325)), (1, .int p0), (2, .int p1), (3, .int p2), (4, .ref (z + r0)), (5, .int p3), (6, .int p4)]) hx hb dX3_guesses_1 hl (by decide) rfl (fun ls hl => ?_)
  refine lv_iload_n hx hb dX3_guesses_3 rfl (lv_at hl 2 rfl) ?_
  refine dk_Si (As := [.int p0]) (rest := []) ⟨hx, hb, hml, hown, hts⟩ (c_X3_leastOf_0 l g z I0 p0 dp0 hO) (va_cwS 1 hts gX3_guesses_X3_leastOf rfl rfl rfl (by decide +kernel) ⟨Nat.le_of_ble_eq_true rfl, Nat.le_of_ble_eq_true rfl⟩) hK hT hW hS rfl hl.1 rfl (Nat.le_of_ble_eq_true rfl) dX3_guesses_4 ⟨Nat.zero_le _, Nat.zero_le _⟩ (fun v13 I13 H13 L13 hp13 hW hS => ?_)
  obtain ⟨hF13, hO, hc13⟩ := hp13
  have hF := dkF_call hF hF13 rfl
  rcases hc13 with ⟨dv13, a13_0, -⟩ | hc13
  ·
    have d14 : dkN [(1, 1)] p0 := dkN_eq1 dp0 a13_0 rfl rfl
    refine lv_istore (lv' := [(8, .int v13), (7, .int 0), (0, .ref (z + 325)), (1, .int p0), (2, .int p1), (3, .int p2), (4, .ref (z + r0)), (5, .int p3), (6, .int p4)]) hx hb dX3_guesses_7 hl (by decide) rfl (fun ls hl => ?_)
    exact C9 _ I13 _ _ ls 0 v13 (Nat.lt_succ_self _) hW hS hF hO (dkN_sub dv13 rfl) (lv_sub hl [2, 3, 4, 5, 6, 7, 8, 1, 0] rfl)
  ·
    obtain ⟨dv13, a13_0, -⟩ := hc13
    have d15 : dkN [(0, 0)] p0 := dkN_eq1 dp0 a13_0 rfl rfl
    refine lv_istore (lv' := [(8, .int v13), (7, .int 0), (0, .ref (z + 325)), (1, .int p0), (2, .int p1), (3, .int p2), (4, .ref (z + r0)), (5, .int p3), (6, .int p4)]) hx hb dX3_guesses_7 hl (by decide) rfl (fun ls hl => ?_)
    exact C9 _ I13 _ _ ls 0 v13 (Nat.lt_succ_self _) hW hS hF hO (dkN_sub dv13 rfl) (lv_sub hl [2, 3, 4, 5, 6, 7, 8, 1, 0] rfl)
set_option maxHeartbeats 4000000 in
set_option maxRecDepth 100000 in
theorem c_X5_fits_0 (l : Launch) (g : dkG) (z : Nat) (I0 : dkI) (p0 : Int32) (p1 : Int32) (p2 : Int32) (p3 : Int32) (p4 : Int32)  (hO : dkOk I0) : Met l yX5_fits wsX5_fits (dkR 7) (dkPc g z [.ref (z + 0), .int p0, .int p1, .int p2, .int p3, .int p4] I0) (dkQi g z (fun r I1 => dkF [(0, 0, 3, 3), (326, 326, 0, 4), (326, 326, 11, 11), (326, 326, 15, 17), (327, 327, 0, 4), (328, 328, 0, 4), (329, 329, 0, 4), (330, 330, 0, 4), (331, 331, 0, 4), (332, 332, 0, 4), (333, 333, 0, 5), (334, 334, 0, 5), (335, 335, 0, 5), (336, 336, 0, 8)] I0 I1 ∧ dkOk I1 ∧ ((True ∧ True)))) 0 0 (dkA z) := by
  refine Met.ofW (cc := cX5_fits) (maxL := 7) (ret := (some .int)) (by decide) rfl ?_
  intro p e s m args below meth c s₁ B hml hv
  obtain ⟨ha, hW, hK, hT⟩ := hv
  have hx := B.exec
  have hb := B.bytes
  have hr := B.returns
  have hts := atoms_spec (ws := wsX5_fits) B.pre
  have hown : s.vm.findClass RX5 = some m.cls := findClass_of_methodNamed B.named
  have hlocks := B.notSynchronized
  have hS : va_S (dkA z) s.heap s.heap [] := va_S.rf
  have hF : dkF [(0, 0, 3, 3), (326, 326, 0, 4), (326, 326, 11, 11), (326, 326, 15, 17), (327, 327, 0, 4), (328, 328, 0, 4), (329, 329, 0, 4), (330, 330, 0, 4), (331, 331, 0, 4), (332, 332, 0, 4), (333, 333, 0, 5), (334, 334, 0, 5), (335, 335, 0, 5), (336, 336, 0, 8)] I0 I0 := dkF_rf _ _
  have hl := lv_entry ([.ref (z + 0), .int p0, .int p1, .int p2, .int p3, .int p4]) (n := 7) (Nat.le_of_ble_eq_true rfl)
  have hgo : entryFrame m args 7 = entryFrame m ([.ref (z + 0), .int p0, .int p1, .int p2, .int p3, .int p4] : List Value).toArray 7 := by rw [ha]
  rw [hgo, lg_entry_eq]
  generalize (lg_sl ([.ref (z + 0), .int p0, .int p1, .int p2, .int p3, .int p4]) ++ List.replicate (7 - (lg_sl ([.ref (z + 0), .int p0, .int p1, .int p2, .int p3, .int p4])).length) Slot.unset).toArray = ls at hl ⊢
  have hl : lv_has ls 7 [(0, .ref (z + 0)), (1, .int p0), (2, .int p1), (3, .int p2), (4, .int p3), (5, .int p4)] := hl
  have C77 : ∀ (I : dkI) (H : Heap) (locs : List Loc) (ls : Array Slot) (x77_6 : Int32) (x77_s0 : Int32), dkW g z I H → va_S (dkA z) s.heap H locs → dkF [(0, 0, 3, 3), (326, 326, 0, 4), (326, 326, 11, 11), (326, 326, 15, 17), (327, 327, 0, 4), (328, 328, 0, 4), (329, 329, 0, 4), (330, 330, 0, 4), (331, 331, 0, 4), (332, 332, 0, 4), (333, 333, 0, 5), (334, 334, 0, 5), (335, 335, 0, 5), (336, 336, 0, 8)] I0 I → dkOk I → dkN [(0, 0)] x77_6 → dkN [(0, 1)] x77_s0 → dkN [(0, 5)] p0 → dkN [(0, 7)] p1 → dkN [(0, 39)] p2 → dkN [(1, 12)] p3 → dkN [(0, 1)] p4 → dkN [(1, 6)] (I 25 11) → lv_has ls 7 [(0, .ref (z + 0)), (1, .int p0), (2, .int p1), (3, .int p2), (4, .int p3), (5, .int p4), (6, .int x77_6)] → W p l e (headSpec wsX5_fits (dkR 7)).room s m args below meth c H locs 0 0 (MQ below (dkQi g z (fun r I1 => dkF [(0, 0, 3, 3), (326, 326, 0, 4), (326, 326, 11, 11), (326, 326, 15, 17), (327, 327, 0, 4), (328, 328, 0, 4), (329, 329, 0, 4), (330, 330, 0, 4), (331, 331, 0, 4), (332, 332, 0, 4), (333, 333, 0, 5), (334, 334, 0, 5), (335, 335, 0, 5), (336, 336, 0, 8)] I0 I1 ∧ dkOk I1 ∧ ((True ∧ True)))) args s 0 0 (dkA z)) (F0 m 77 ls [.int x77_s0, .ref (z + 325), .ref (z + 0)]) := by
    intro I77_ H locs ls x77_6 x77_s0 hW hS hF_77 hO k77_0 k77_1 r77_0 r77_1 r77_2 r77_3 r77_4 f77_0 hl
    have hF := hF_77
    refine lv_iload_n hx hb dX5_fits_77 rfl (lv_at hl 1 rfl) ?_
    refine lv_iload_n hx hb dX5_fits_78 rfl (lv_at hl 1 rfl) ?_
    refine lv_aload_n hx hb dX5_fits_79 rfl (lv_at hl 0 rfl) ?_
    refine dk_get (k := 0) hx hb hts iX5_fits_5 hown hK (dk_at0 hW) rfl 0 (by decide) (hts (.fieldLink RX5 11 "DogKings" "items" "[[I") (List.mem_of_getElem? (i := 3) rfl)) rfl dX5_fits_80 ?_
    refine lv_iload_n hx hb dX5_fits_83 rfl (lv_at hl 2 rfl) ?_
    obtain ⟨rf1, hrf1, erf1⟩ := dk_rowAt (z := z) (dkN_in (n := 8) r77_1 rfl)
    refine dk_rld (r := z + rf1) hx hb hK (dk_at1 hW) (dkN_in (n := 8) r77_1 rfl) erf1 dX5_fits_84 ?_
    refine lv_iload_n hx hb dX5_fits_85 rfl (lv_at hl 3 rfl) ?_
    refine lv_iload hx hb dX5_fits_86 (lv_at hl 4 rfl) ?_
    refine dk_Vi (As := [.int x77_s0, .int p0, .int p0, .ref (z + rf1), .int p2, .int p3]) (rest := [.ref (z + 0)]) ⟨hx, hb, hml, hown, hts⟩ (c_X3_guesses_0 l g z I77_ rf1 hrf1 x77_s0 p0 p0 p2 p3 k77_1 r77_0 r77_0 r77_2 r77_3 hO) (cwV 6 hts gX5_fits_X3_guesses rfl rfl rfl (by decide +kernel) ⟨Nat.le_of_ble_eq_true rfl, Nat.le_of_ble_eq_true rfl⟩) (dk_at325 hW) rfl hK hT hW hS rfl hl.1 rfl (Nat.le_of_ble_eq_true rfl) dX5_fits_88 ⟨Nat.zero_le _, Nat.zero_le _⟩ (fun v2 I2 H2 L2 hp2 hW hS => ?_)
    obtain ⟨hF2, hO, hc2⟩ := hp2
    have hF := dkF_call hF hF2 rfl
    obtain ⟨_, -⟩ := hc2
    refine dk_Vi (As := [.int v2]) (rest := []) ⟨hx, hb, hml, hown, hts⟩ (c_X5_nothingFound_0 l g z I2 v2 hO) (cwV 1 hts gX5_fits_X5_nothingFound rfl rfl rfl (by decide +kernel) ⟨Nat.le_of_ble_eq_true rfl, Nat.le_of_ble_eq_true rfl⟩) (dk_at0 hW) rfl hK hT hW hS rfl hl.1 rfl (Nat.le_of_ble_eq_true rfl) dX5_fits_91 ⟨Nat.zero_le _, Nat.zero_le _⟩ (fun v3 I3 H3 L3 hp3 hW hS => ?_)
    obtain ⟨hF3, hO, ev3, hc3⟩ := hp3
    have hF := dkF_call hF hF3 rfl
    obtain ⟨_, f3_0_3, -⟩ := hc3
    rw [ev3]
    exact W.iret (v := v2) hx hb hr (fun t ht hW9 => ⟨⟨v2, I3, rfl, ⟨hF, hO, ⟨trivial, trivial⟩⟩, dkW_eq ht hW⟩, hS.F ht⟩) hS.2.2 dX5_fits_94
  refine lv_aload_n hx hb dX5_fits_0 rfl (lv_at hl 0 rfl) ?_
  refine lv_iload_n hx hb dX5_fits_1 rfl (lv_at hl 1 rfl) ?_
  refine dk_Vi (As := [.int p0]) (rest := []) ⟨hx, hb, hml, hown, hts⟩ (c_X5_isDog_0 l g z I0 p0 hO) (cwV 1 hts gX5_fits_X5_isDog rfl rfl rfl (by decide +kernel) ⟨Nat.le_of_ble_eq_true rfl, Nat.le_of_ble_eq_true rfl⟩) (dk_at0 hW) rfl hK hT hW hS rfl hl.1 rfl (Nat.le_of_ble_eq_true rfl) dX5_fits_2 ⟨Nat.zero_le _, Nat.zero_le _⟩ (fun v4 I4 H4 L4 hp4 hW hS => ?_)
  obtain ⟨hF4, hO, hc4⟩ := hp4
  have hF := dkF_call hF hF4 rfl
  rcases hc4 with ⟨dv4, -⟩ | hc4
  ·
    refine lv_if_eq (tgt := 37) hx hb dX5_fits_5 (by decide) (fun c5 => ?_) (fun c5 => ?_)
    ·
      refine lv_ldc (v := (-1000001)) hx hb hown (hts (.constant RX5 70 (-1000001)) (List.mem_of_getElem? (i := 1) rfl)) dX5_fits_37 ?_
      exact W.iret (v := (-1000001)) hx hb hr (fun t ht hW9 => ⟨⟨(-1000001), I4, rfl, ⟨hF, hO, ⟨trivial, trivial⟩⟩, dkW_eq ht hW⟩, hS.F ht⟩) hS.2.2 dX5_fits_39
    ·
      exact (dkN_nil (show dkN [] v4 from dkN_ne1 (0) dv4 (dkN_lit (x := 0) (0) rfl) (dk_ne c5) rfl)).elim
  ·
    obtain ⟨dv4, a4_0, f4_25_11, -⟩ := hc4
    have d6 : dkN [(0, 5)] p0 := dkN_eq1 (dkN_top p0) a4_0 rfl rfl
    refine lv_if_eq (tgt := 37) hx hb dX5_fits_5 (by decide) (fun c7 => ?_) (fun c7 => ?_)
    ·
      exact (dkN_nil (show dkN [] v4 from dkN_eq1 dv4 (dkN_lit (x := 0) (0) rfl) (congrArg Int32.toInt c7) rfl)).elim
    ·
      refine lv_iload_n hx hb dX5_fits_8 rfl (lv_at hl 2 rfl) ?_
      refine dk_Si (As := [.int p1]) (rest := []) ⟨hx, hb, hml, hown, hts⟩ (c_X5_isRow_0 l g z I4 p1 hO) (va_cwS 1 hts gX5_fits_X5_isRow rfl rfl rfl (by decide +kernel) ⟨Nat.le_of_ble_eq_true rfl, Nat.le_of_ble_eq_true rfl⟩) hK hT hW hS rfl hl.1 rfl (Nat.le_of_ble_eq_true rfl) dX5_fits_9 ⟨Nat.zero_le _, Nat.zero_le _⟩ (fun v8 I8 H8 L8 hp8 hW hS => ?_)
      obtain ⟨hF8, hO, hc8⟩ := hp8
      have hF := dkF_call hF hF8 rfl
      rcases hc8 with ⟨dv8, a8_0, -⟩ | hc8
      ·
        have d9 : dkN [(-2147483648, -1), (8, 2147483647)] p1 := dkN_eq1 (dkN_top p1) a8_0 rfl rfl
        refine lv_if_eq (tgt := 37) hx hb dX5_fits_12 (by decide) (fun c10 => ?_) (fun c10 => ?_)
        ·
          refine lv_ldc (v := (-1000001)) hx hb hown (hts (.constant RX5 70 (-1000001)) (List.mem_of_getElem? (i := 1) rfl)) dX5_fits_37 ?_
          exact W.iret (v := (-1000001)) hx hb hr (fun t ht hW9 => ⟨⟨(-1000001), I8, rfl, ⟨hF, hO, ⟨trivial, trivial⟩⟩, dkW_eq ht hW⟩, hS.F ht⟩) hS.2.2 dX5_fits_39
        ·
          exact (dkN_nil (show dkN [] v8 from dkN_ne1 (0) dv8 (dkN_lit (x := 0) (0) rfl) (dk_ne c10) rfl)).elim
      ·
        obtain ⟨dv8, a8_0, -⟩ := hc8
        have d11 : dkN [(0, 7)] p1 := dkN_eq1 (dkN_top p1) a8_0 rfl rfl
        refine lv_if_eq (tgt := 37) hx hb dX5_fits_12 (by decide) (fun c12 => ?_) (fun c12 => ?_)
        ·
          exact (dkN_nil (show dkN [] v8 from dkN_eq1 dv8 (dkN_lit (x := 0) (0) rfl) (congrArg Int32.toInt c12) rfl)).elim
        ·
          refine lv_iload hx hb dX5_fits_15 (lv_at hl 4 rfl) ?_
          refine lv_iconst (v := 1) hx hb dX5_fits_17 (by decide) ?_
          refine lv_icmp_lt (tgt := 37) hx hb dX5_fits_18 (by decide) (fun c13 => ?_) (fun c13 => ?_)
          ·
            have d14 : dkN [(-2147483648, 0)] p3 := dkN_le1 1 (dkN_top p3) (dkN_lit (x := 1) (1) rfl) (dkc_lt c13) rfl
            refine lv_ldc (v := (-1000001)) hx hb hown (hts (.constant RX5 70 (-1000001)) (List.mem_of_getElem? (i := 1) rfl)) dX5_fits_37 ?_
            exact W.iret (v := (-1000001)) hx hb hr (fun t ht hW9 => ⟨⟨(-1000001), I8, rfl, ⟨hF, hO, ⟨trivial, trivial⟩⟩, dkW_eq ht hW⟩, hS.F ht⟩) hS.2.2 dX5_fits_39
          ·
            have d15 : dkN [(1, 2147483647)] p3 := dkN_le2 0 (dkN_lit (x := 1) (1) rfl) (dkN_top p3) (dkc_nlt c13) rfl
            refine lv_iload hx hb dX5_fits_21 (lv_at hl 4 rfl) ?_
            refine lv_bipush (v := 12) hx hb dX5_fits_23 (by decide) ?_
            refine lv_icmp_gt (tgt := 37) hx hb dX5_fits_25 (by decide) (fun c16 => ?_) (fun c16 => ?_)
            ·
              have d17 : dkN [(13, 2147483647)] p3 := dkN_le2 1 (dkN_lit (x := 12) (12) rfl) d15 (dkc_lt c16) rfl
              refine lv_ldc (v := (-1000001)) hx hb hown (hts (.constant RX5 70 (-1000001)) (List.mem_of_getElem? (i := 1) rfl)) dX5_fits_37 ?_
              exact W.iret (v := (-1000001)) hx hb hr (fun t ht hW9 => ⟨⟨(-1000001), I8, rfl, ⟨hF, hO, ⟨trivial, trivial⟩⟩, dkW_eq ht hW⟩, hS.F ht⟩) hS.2.2 dX5_fits_39
            ·
              have d18 : dkN [(1, 12)] p3 := dkN_le1 0 d15 (dkN_lit (x := 12) (12) rfl) (dkc_nlt c16) rfl
              refine lv_iload hx hb dX5_fits_28 (lv_at hl 5 rfl) ?_
              refine lv_iconst (v := 1) hx hb dX5_fits_30 (by decide) ?_
              refine dk_Si (As := [.int p4, .int 1]) (rest := []) ⟨hx, hb, hml, hown, hts⟩ (c_X5_isUpTo_5 l g z I8 p4 1 (dkN_lit (x := 1) (1) rfl) hO) (va_cwS 2 hts gX5_fits_X5_isUpTo rfl rfl rfl (by decide +kernel) ⟨Nat.le_of_ble_eq_true rfl, Nat.le_of_ble_eq_true rfl⟩) hK hT hW hS rfl hl.1 rfl (Nat.le_of_ble_eq_true rfl) dX5_fits_31 ⟨Nat.zero_le _, Nat.zero_le _⟩ (fun v19 I19 H19 L19 hp19 hW hS => ?_)
              obtain ⟨hF19, hO, hc19⟩ := hp19
              have hF := dkF_call hF hF19 rfl
              rcases hc19 with ⟨dv19, a19_0, -⟩ | hc19
              ·
                have d20 : dkN [(-2147483648, -1), (2, 2147483647)] p4 := dkN_eq1 (dkN_top p4) a19_0 rfl rfl
                refine lv_if_ne (tgt := 40) hx hb dX5_fits_34 (by decide) (fun c21 => ?_) (fun c21 => ?_)
                ·
                  exact (dkN_nil (show dkN [] v19 from dkN_ne1 (0) dv19 (dkN_lit (x := 0) (0) rfl) (dk_ne c21) rfl)).elim
                ·
                  refine lv_ldc (v := (-1000001)) hx hb hown (hts (.constant RX5 70 (-1000001)) (List.mem_of_getElem? (i := 1) rfl)) dX5_fits_37 ?_
                  exact W.iret (v := (-1000001)) hx hb hr (fun t ht hW9 => ⟨⟨(-1000001), I19, rfl, ⟨hF, hO, ⟨trivial, trivial⟩⟩, dkW_eq ht hW⟩, hS.F ht⟩) hS.2.2 dX5_fits_39
              ·
                obtain ⟨dv19, a19_0, -⟩ := hc19
                have d22 : dkN [(0, 1)] p4 := dkN_eq1 (dkN_top p4) a19_0 rfl rfl
                refine lv_if_ne (tgt := 40) hx hb dX5_fits_34 (by decide) (fun c23 => ?_) (fun c23 => ?_)
                ·
                  refine lv_aload_n hx hb dX5_fits_40 rfl (lv_at hl 0 rfl) ?_
                  refine lv_iload_n hx hb dX5_fits_41 rfl (lv_at hl 2 rfl) ?_
                  refine lv_iload_n hx hb dX5_fits_42 rfl (lv_at hl 3 rfl) ?_
                  refine lv_iload hx hb dX5_fits_43 (lv_at hl 4 rfl) ?_
                  refine dk_Vi (As := [.int p1, .int p2, .int p3]) (rest := []) ⟨hx, hb, hml, hown, hts⟩ (c_X5_troubleWith_0 l g z I19 p1 p2 p3 d11 d18 hO) (cwV 3 hts gX5_fits_X5_troubleWith rfl rfl rfl (by decide +kernel) ⟨Nat.le_of_ble_eq_true rfl, Nat.le_of_ble_eq_true rfl⟩) (dk_at0 hW) rfl hK hT hW hS rfl hl.1 rfl (Nat.le_of_ble_eq_true rfl) dX5_fits_45 ⟨Nat.zero_le _, Nat.zero_le _⟩ (fun v24 I24 H24 L24 hp24 hW hS => ?_)
                  obtain ⟨hF24, hO, hc24⟩ := hp24
                  have hF := dkF_call hF hF24 rfl
                  rcases hc24 with ⟨dv24, a24_1, -⟩ | hc24
                  ·
                    have d25 : dkN [(0, 39)] p2 := dkN_eq1 (dkN_top p2) a24_1 rfl rfl
                    refine lv_istore (lv' := [(6, .int v24), (0, .ref (z + 0)), (1, .int p0), (2, .int p1), (3, .int p2), (4, .int p3), (5, .int p4)]) hx hb dX5_fits_48 hl (by decide) rfl (fun ls hl => ?_)
                    refine lv_iload hx hb dX5_fits_50 (lv_at hl 0 rfl) ?_
                    refine lv_if_eq (tgt := 62) hx hb dX5_fits_52 (by decide) (fun c26 => ?_) (fun c26 => ?_)
                    ·
                      refine lv_aload_n hx hb dX5_fits_62 rfl (lv_at hl 1 rfl) ?_
                      refine lv_aload_n hx hb dX5_fits_63 rfl (lv_at hl 1 rfl) ?_
                      refine dk_get (k := 0) hx hb hts iX5_fits_5 hown hK (dk_at0 hW) rfl 8 (by decide) (hts (.fieldLink RX5 51 "DogKings" "seer" "LDogKings$Seer;") (List.mem_of_getElem? (i := 2) rfl)) rfl dX5_fits_64 ?_
                      refine lv_iload hx hb dX5_fits_67 (lv_at hl 6 rfl) ?_
                      refine lv_if_ne (tgt := 76) hx hb dX5_fits_69 (by decide) (fun c27 => ?_) (fun c27 => ?_)
                      ·
                        have d28 : dkN [(1, 1)] p4 := dkN_ne1 (0) d22 (dkN_lit (x := 0) (0) rfl) (dk_ne c27) rfl
                        refine lv_iconst (v := 1) hx hb dX5_fits_76 (by decide) ?_
                        exact C77 I24 _ _ ls v24 1 hW hS hF hO (dkN_sub dv24 rfl) (dkN_sub (dkN_lit (x := 1) (1) rfl) rfl) (dkN_sub d6 rfl) (dkN_sub d11 rfl) (dkN_sub d25 rfl) (dkN_sub d18 rfl) (dkN_sub d28 rfl) (show dkN [(1, 6)] (I24 25 11) from dkN_sub (by rw [hF24 25 11 rfl]; exact (by rw [hF19 25 11 rfl]; exact (by rw [hF8 25 11 rfl]; exact f4_25_11))) rfl) (lv_sub hl [1, 2, 3, 4, 5, 6, 0] rfl)
                      ·
                        have d29 : dkN [(0, 0)] p4 := dkN_eq1 d22 (dkN_lit (x := 0) (0) rfl) (congrArg Int32.toInt c27) rfl
                        refine lv_iconst (v := 0) hx hb dX5_fits_72 (by decide) ?_
                        refine lv_goto (tgt := 77) hx hb dX5_fits_73 (by decide) ?_
                        exact C77 I24 _ _ ls v24 0 hW hS hF hO (dkN_sub dv24 rfl) (dkN_sub (dkN_lit (x := 0) (0) rfl) rfl) (dkN_sub d6 rfl) (dkN_sub d11 rfl) (dkN_sub d25 rfl) (dkN_sub d18 rfl) (dkN_sub d29 rfl) (show dkN [(1, 6)] (I24 25 11) from dkN_sub (by rw [hF24 25 11 rfl]; exact (by rw [hF19 25 11 rfl]; exact (by rw [hF8 25 11 rfl]; exact f4_25_11))) rfl) (lv_sub hl [1, 2, 3, 4, 5, 6, 0] rfl)
                    ·
                      exact (dkN_nil (show dkN [] v24 from dkN_ne1 (0) dv24 (dkN_lit (x := 0) (0) rfl) (dk_ne c26) rfl)).elim
                  rcases hc24 with ⟨dv24, -⟩ | hc24
                  ·
                    refine lv_istore (lv' := [(6, .int v24), (0, .ref (z + 0)), (1, .int p0), (2, .int p1), (3, .int p2), (4, .int p3), (5, .int p4)]) hx hb dX5_fits_48 hl (by decide) rfl (fun ls hl => ?_)
                    refine lv_iload hx hb dX5_fits_50 (lv_at hl 0 rfl) ?_
                    refine lv_if_eq (tgt := 62) hx hb dX5_fits_52 (by decide) (fun c30 => ?_) (fun c30 => ?_)
                    ·
                      exact (dkN_nil (show dkN [] v24 from dkN_eq1 dv24 (dkN_lit (x := 0) (0) rfl) (congrArg Int32.toInt c30) rfl)).elim
                    ·
                      refine lv_aload_n hx hb dX5_fits_55 rfl (lv_at hl 1 rfl) ?_
                      refine lv_iload hx hb dX5_fits_56 (lv_at hl 0 rfl) ?_
                      refine dk_Vi (As := [.int v24]) (rest := []) ⟨hx, hb, hml, hown, hts⟩ (c_X5_found_1 l g z I24 v24 dv24 hO) (cwV 1 hts gX5_fits_X5_found rfl rfl rfl (by decide +kernel) ⟨Nat.le_of_ble_eq_true rfl, Nat.le_of_ble_eq_true rfl⟩) (dk_at0 hW) rfl hK hT hW hS rfl hl.1 rfl (Nat.le_of_ble_eq_true rfl) dX5_fits_58 ⟨Nat.zero_le _, Nat.zero_le _⟩ (fun v31 I31 H31 L31 hp31 hW hS => ?_)
                      obtain ⟨hF31, hO, hc31⟩ := hp31
                      have hF := dkF_call hF hF31 rfl
                      obtain ⟨dv31, f31_0_3, -⟩ := hc31
                      exact W.iret (v := v31) hx hb hr (fun t ht hW9 => ⟨⟨v31, I31, rfl, ⟨hF, hO, ⟨trivial, trivial⟩⟩, dkW_eq ht hW⟩, hS.F ht⟩) hS.2.2 dX5_fits_61
                  ·
                    obtain ⟨dv24, -⟩ := hc24
                    refine lv_istore (lv' := [(6, .int v24), (0, .ref (z + 0)), (1, .int p0), (2, .int p1), (3, .int p2), (4, .int p3), (5, .int p4)]) hx hb dX5_fits_48 hl (by decide) rfl (fun ls hl => ?_)
                    refine lv_iload hx hb dX5_fits_50 (lv_at hl 0 rfl) ?_
                    refine lv_if_eq (tgt := 62) hx hb dX5_fits_52 (by decide) (fun c32 => ?_) (fun c32 => ?_)
                    ·
                      exact (dkN_nil (show dkN [] v24 from dkN_eq1 dv24 (dkN_lit (x := 0) (0) rfl) (congrArg Int32.toInt c32) rfl)).elim
                    ·
                      refine lv_aload_n hx hb dX5_fits_55 rfl (lv_at hl 1 rfl) ?_
                      refine lv_iload hx hb dX5_fits_56 (lv_at hl 0 rfl) ?_
                      refine dk_Vi (As := [.int v24]) (rest := []) ⟨hx, hb, hml, hown, hts⟩ (c_X5_found_2 l g z I24 v24 dv24 hO) (cwV 1 hts gX5_fits_X5_found rfl rfl rfl (by decide +kernel) ⟨Nat.le_of_ble_eq_true rfl, Nat.le_of_ble_eq_true rfl⟩) (dk_at0 hW) rfl hK hT hW hS rfl hl.1 rfl (Nat.le_of_ble_eq_true rfl) dX5_fits_58 ⟨Nat.zero_le _, Nat.zero_le _⟩ (fun v33 I33 H33 L33 hp33 hW hS => ?_)
                      obtain ⟨hF33, hO, hc33⟩ := hp33
                      have hF := dkF_call hF hF33 rfl
                      obtain ⟨dv33, f33_0_3, -⟩ := hc33
                      exact W.iret (v := v33) hx hb hr (fun t ht hW9 => ⟨⟨v33, I33, rfl, ⟨hF, hO, ⟨trivial, trivial⟩⟩, dkW_eq ht hW⟩, hS.F ht⟩) hS.2.2 dX5_fits_61
                ·
                  exact (dkN_nil (show dkN [] v19 from dkN_eq1 dv19 (dkN_lit (x := 0) (0) rfl) (congrArg Int32.toInt c23) rfl)).elim
set_option maxHeartbeats 4000000 in
set_option maxRecDepth 100000 in
theorem c_X6_in_17 (l : Launch) (g : dkG) (z : Nat) (I0 : dkI) (p0 : Int32) (p1 : Int32) (p2 : Int32) (dp1 : dkN [(1, 1)] p1) (dp2 : dkN [(12, 12)] p2)  (hO : dkOk I0) : Met l yX6_in wsX6_in (dkR 0) (dkPc g z [.int p0, .int p1, .int p2] I0) (dkQi g z (fun r I1 => dkF [] I0 I1 ∧ dkOk I1 ∧ ((dkN [(0, 0)] r ∧ dkN [(-2147483648, 0), (13, 2147483647)] p0 ∧ True) ∨ (dkN [(1, 1)] r ∧ dkN [(1, 12)] p0 ∧ True)))) 0 0 (dkA z) := by
  refine Met.ofW (cc := cX6_in) (maxL := 3) (ret := (some .boolean)) (by decide) rfl ?_
  intro p e s m args below meth c s₁ B hml hv
  obtain ⟨ha, hW, hK, hT⟩ := hv
  have hx := B.exec
  have hb := B.bytes
  have hr := B.returns
  have hts := atoms_spec (ws := wsX6_in) B.pre
  have hown : s.vm.findClass RX6 = some m.cls := findClass_of_methodNamed B.named
  have hlocks := B.notSynchronized
  have hS : va_S (dkA z) s.heap s.heap [] := va_S.rf
  have hF : dkF [] I0 I0 := dkF_rf _ _
  have hl := lv_entry ([.int p0, .int p1, .int p2]) (n := 3) (Nat.le_of_ble_eq_true rfl)
  have hgo : entryFrame m args 3 = entryFrame m ([.int p0, .int p1, .int p2] : List Value).toArray 3 := by rw [ha]
  rw [hgo, lg_entry_eq]
  generalize (lg_sl ([.int p0, .int p1, .int p2]) ++ List.replicate (3 - (lg_sl ([.int p0, .int p1, .int p2])).length) Slot.unset).toArray = ls at hl ⊢
  have hl : lv_has ls 3 [(0, .int p0), (1, .int p1), (2, .int p2)] := hl
  refine lv_iload_n hx hb dX6_in_0 rfl (lv_at hl 0 rfl) ?_
  refine lv_iload_n hx hb dX6_in_1 rfl (lv_at hl 1 rfl) ?_
  refine lv_icmp_lt (tgt := 14) hx hb dX6_in_2 (by decide) (fun c1 => ?_) (fun c1 => ?_)
  ·
    have d2 : dkN [(-2147483648, 0)] p0 := dkN_le1 1 (dkN_top p0) dp1 (dkc_lt c1) rfl
    refine lv_iconst (v := 0) hx hb dX6_in_14 (by decide) ?_
    exact W.zret (v := 0) (ty := .boolean) hx hb hr rfl (fun t ht hW9 => ⟨⟨0, I0, rfl, ⟨hF, hO, Or.inl ⟨dkN_sub (dkN_lit (x := 0) (0) rfl) rfl, dkN_sub d2 rfl, trivial⟩⟩, dkW_eq ht hW⟩, hS.F ht⟩) hS.2.2 dX6_in_15
  ·
    have d3 : dkN [(1, 2147483647)] p0 := dkN_le2 0 dp1 (dkN_top p0) (dkc_nlt c1) rfl
    refine lv_iload_n hx hb dX6_in_5 rfl (lv_at hl 0 rfl) ?_
    refine lv_iload_n hx hb dX6_in_6 rfl (lv_at hl 2 rfl) ?_
    refine lv_icmp_gt (tgt := 14) hx hb dX6_in_7 (by decide) (fun c4 => ?_) (fun c4 => ?_)
    ·
      have d5 : dkN [(13, 2147483647)] p0 := dkN_le2 1 dp2 d3 (dkc_lt c4) rfl
      refine lv_iconst (v := 0) hx hb dX6_in_14 (by decide) ?_
      exact W.zret (v := 0) (ty := .boolean) hx hb hr rfl (fun t ht hW9 => ⟨⟨0, I0, rfl, ⟨hF, hO, Or.inl ⟨dkN_sub (dkN_lit (x := 0) (0) rfl) rfl, dkN_sub d5 rfl, trivial⟩⟩, dkW_eq ht hW⟩, hS.F ht⟩) hS.2.2 dX6_in_15
    ·
      have d6 : dkN [(1, 12)] p0 := dkN_le1 0 d3 dp2 (dkc_nlt c4) rfl
      refine lv_iconst (v := 1) hx hb dX6_in_10 (by decide) ?_
      refine lv_goto (tgt := 15) hx hb dX6_in_11 (by decide) ?_
      exact W.zret (v := 1) (ty := .boolean) hx hb hr rfl (fun t ht hW9 => ⟨⟨1, I0, rfl, ⟨hF, hO, Or.inr (⟨dkN_sub (dkN_lit (x := 1) (1) rfl) rfl, dkN_sub d6 rfl, trivial⟩)⟩, dkW_eq ht hW⟩, hS.F ht⟩) hS.2.2 dX6_in_15
set_option maxHeartbeats 4000000 in
set_option maxRecDepth 100000 in
theorem c_X6_isPart_2 (l : Launch) (g : dkG) (z : Nat) (I0 : dkI) (p0 : Int32) (p1 : Int32) (p2 : Int32) (dp0 : dkN [(0, 7)] p0) (dp2 : dkN [(1, 12)] p2)  (hO : dkOk I0) : Met l yX6_isPart wsX6_isPart (dkR 0) (dkPc g z [.ref (z + 340), .int p0, .int p1, .int p2] I0) (dkQi g z (fun r I1 => dkF [] I0 I1 ∧ dkOk I1 ∧ ((dkN [(0, 0)] r ∧ True) ∨ (dkN [(1, 1)] r ∧ dkN [(0, 40)] p1 ∧ p1.toInt + p2.toInt ≤ 40 ∧ True)))) 0 0 (dkA z) := by
  refine Met.ofW (cc := cX6_isPart) (maxL := 4) (ret := (some .boolean)) (by decide) rfl ?_
  intro p e s m args below meth c s₁ B hml hv
  obtain ⟨ha, hW, hK, hT⟩ := hv
  have hx := B.exec
  have hb := B.bytes
  have hr := B.returns
  have hts := atoms_spec (ws := wsX6_isPart) B.pre
  have hown : s.vm.findClass RX6 = some m.cls := findClass_of_methodNamed B.named
  have hlocks := B.notSynchronized
  have hS : va_S (dkA z) s.heap s.heap [] := va_S.rf
  have hF : dkF [] I0 I0 := dkF_rf _ _
  have hl := lv_entry ([.ref (z + 340), .int p0, .int p1, .int p2]) (n := 4) (Nat.le_of_ble_eq_true rfl)
  have hgo : entryFrame m args 4 = entryFrame m ([.ref (z + 340), .int p0, .int p1, .int p2] : List Value).toArray 4 := by rw [ha]
  rw [hgo, lg_entry_eq]
  generalize (lg_sl ([.ref (z + 340), .int p0, .int p1, .int p2]) ++ List.replicate (4 - (lg_sl ([.ref (z + 340), .int p0, .int p1, .int p2])).length) Slot.unset).toArray = ls at hl ⊢
  have hl : lv_has ls 4 [(0, .ref (z + 340)), (1, .int p0), (2, .int p1), (3, .int p2)] := hl
  refine lv_iload_n hx hb dX6_isPart_0 rfl (lv_at hl 2 rfl) ?_
  refine lv_if_lt (tgt := 34) hx hb dX6_isPart_1 (by decide) (fun c1 => ?_) (fun c1 => ?_)
  ·
    have d2 : dkN [(-2147483648, -1)] p1 := dkN_le1 1 (dkN_top p1) (dkN_lit (x := 0) (0) rfl) (dkc_lt c1) rfl
    refine lv_iconst (v := 0) hx hb dX6_isPart_34 (by decide) ?_
    exact W.zret (v := 0) (ty := .boolean) hx hb hr rfl (fun t ht hW9 => ⟨⟨0, I0, rfl, ⟨hF, hO, Or.inl ⟨dkN_sub (dkN_lit (x := 0) (0) rfl) rfl, trivial⟩⟩, dkW_eq ht hW⟩, hS.F ht⟩) hS.2.2 dX6_isPart_35
  ·
    have d3 : dkN [(0, 2147483647)] p1 := dkN_le2 0 (dkN_lit (x := 0) (0) rfl) (dkN_top p1) (dkc_nlt c1) rfl
    refine lv_iload_n hx hb dX6_isPart_4 rfl (lv_at hl 3 rfl) ?_
    refine lv_if_lt (tgt := 34) hx hb dX6_isPart_5 (by decide) (fun c4 => ?_) (fun c4 => ?_)
    ·
      exact (dkN_nil (show dkN [] p2 from dkN_le1 1 dp2 (dkN_lit (x := 0) (0) rfl) (dkc_lt c4) rfl)).elim
    ·
      refine lv_iload_n hx hb dX6_isPart_8 rfl (lv_at hl 2 rfl) ?_
      refine lv_aload_n hx hb dX6_isPart_9 rfl (lv_at hl 0 rfl) ?_
      refine dk_get (k := 340) hx hb hts iX6_isPart_6 hown hK (dk_at340 hW) rfl 1 (by decide) (hts (.fieldLink RX6 13 "DogKingsModel" "many" "[I") (List.mem_of_getElem? (i := 1) rfl)) rfl dX6_isPart_10 ?_
      refine lv_iload_n hx hb dX6_isPart_13 rfl (lv_at hl 1 rfl) ?_
      refine dk_ild (k := 342) hx hb hK (dk_at342 hW) (dkN_in (n := 8) dp0 rfl) dX6_isPart_14 ?_
      refine lv_topi (fun v5 ev5 => ?_)
      have dv5 : dkN [(0, 40)] v5 := by rw [ev5]; exact (hO 342 _)
      refine lv_icmp_gt (tgt := 34) hx hb dX6_isPart_15 (by decide) (fun c6 => ?_) (fun c6 => ?_)
      ·
        have d7 : dkN [(1, 2147483647)] p1 := dkN_le2 1 dv5 d3 (dkc_lt c6) rfl
        refine lv_iconst (v := 0) hx hb dX6_isPart_34 (by decide) ?_
        exact W.zret (v := 0) (ty := .boolean) hx hb hr rfl (fun t ht hW9 => ⟨⟨0, I0, rfl, ⟨hF, hO, Or.inl ⟨dkN_sub (dkN_lit (x := 0) (0) rfl) rfl, trivial⟩⟩, dkW_eq ht hW⟩, hS.F ht⟩) hS.2.2 dX6_isPart_35
      ·
        have d8 : dkN [(0, 40)] p1 := dkN_le1 0 d3 dv5 (dkc_nlt c6) rfl
        refine lv_iload_n hx hb dX6_isPart_18 rfl (lv_at hl 3 rfl) ?_
        refine lv_aload_n hx hb dX6_isPart_19 rfl (lv_at hl 0 rfl) ?_
        refine dk_get (k := 340) hx hb hts iX6_isPart_6 hown hK (dk_at340 hW) rfl 1 (by decide) (hts (.fieldLink RX6 13 "DogKingsModel" "many" "[I") (List.mem_of_getElem? (i := 1) rfl)) rfl dX6_isPart_20 ?_
        refine lv_iload_n hx hb dX6_isPart_23 rfl (lv_at hl 1 rfl) ?_
        refine dk_ild (k := 342) hx hb hK (dk_at342 hW) (dkN_in (n := 8) dp0 rfl) dX6_isPart_24 ?_
        refine lv_topi (fun v9 ev9 => ?_)
        have dv9 : dkN [(0, 40)] v9 := by rw [ev9]; exact (hO 342 _)
        refine lv_iload_n hx hb dX6_isPart_25 rfl (lv_at hl 2 rfl) ?_
        refine lv_isub hx hb dX6_isPart_26 ?_
        refine lv_topi (fun v10 ev10 => ?_)
        have dv10 : dkN [(-40, 40)] v10 := by rw [ev10]; exact dkN_subt dv9 d8 rfl
        refine lv_icmp_gt (tgt := 34) hx hb dX6_isPart_27 (by decide) (fun c11 => ?_) (fun c11 => ?_)
        ·
          have d12 : dkN [(-40, 11)] v10 := dkN_le1 1 dv10 dp2 (dkc_lt c11) rfl
          refine lv_iconst (v := 0) hx hb dX6_isPart_34 (by decide) ?_
          exact W.zret (v := 0) (ty := .boolean) hx hb hr rfl (fun t ht hW9 => ⟨⟨0, I0, rfl, ⟨hF, hO, Or.inl ⟨dkN_sub (dkN_lit (x := 0) (0) rfl) rfl, trivial⟩⟩, dkW_eq ht hW⟩, hS.F ht⟩) hS.2.2 dX6_isPart_35
        ·
          have d13 : dkN [(1, 40)] v10 := dkN_le2 0 dp2 dv10 (dkc_nlt c11) rfl
          refine lv_iconst (v := 1) hx hb dX6_isPart_30 (by decide) ?_
          refine lv_goto (tgt := 35) hx hb dX6_isPart_31 (by decide) ?_
          exact W.zret (v := 1) (ty := .boolean) hx hb hr rfl (fun t ht hW9 => ⟨⟨1, I0, rfl, ⟨hF, hO, Or.inr (⟨dkN_sub (dkN_lit (x := 1) (1) rfl) rfl, dkN_sub d8 rfl, (dk_relsub ev10 dv9 d8 (dkc_nlt c11) rfl), trivial⟩)⟩, dkW_eq ht hW⟩, hS.F ht⟩) hS.2.2 dX6_isPart_35
set_option maxHeartbeats 4000000 in
set_option maxRecDepth 100000 in
theorem c_X6_isSeen_0 (l : Launch) (g : dkG) (z : Nat) (I0 : dkI) (p0 : Int32) (p1 : Int32) (p2 : Int32) (dp0 : dkN [(0, 5)] p0) (dp1 : dkN [(0, 320)] p1) (dp2 : dkN [(1, 12)] p2)  (m0 : p1.toInt + p2.toInt ≤ 320) (hO : dkOk I0) : Met l yX6_isSeen wsX6_isSeen (dkR 6) (dkPc g z [.ref (z + 340), .int p0, .int p1, .int p2] I0) (dkQi g z (fun r I1 => dkF [(348, 348, 2, 3), (348, 348, 8, 35), (348, 348, 38, 38), (348, 348, 41, 41), (348, 348, 44, 44), (348, 348, 47, 47), (348, 348, 50, 50), (348, 348, 53, 53)] I0 I1 ∧ dkOk I1 ∧ ((dkN [(0, 1)] r ∧ True)))) 0 0 (dkA z) := by
  refine Met.ofW (cc := cX6_isSeen) (maxL := 6) (ret := (some .boolean)) (by decide) rfl ?_
  intro p e s m args below meth c s₁ B hml hv
  obtain ⟨ha, hW, hK, hT⟩ := hv
  have hx := B.exec
  have hb := B.bytes
  have hr := B.returns
  have hts := atoms_spec (ws := wsX6_isSeen) B.pre
  have hown : s.vm.findClass RX6 = some m.cls := findClass_of_methodNamed B.named
  have hlocks := B.notSynchronized
  have hS : va_S (dkA z) s.heap s.heap [] := va_S.rf
  have hF : dkF [(348, 348, 2, 3), (348, 348, 8, 35), (348, 348, 38, 38), (348, 348, 41, 41), (348, 348, 44, 44), (348, 348, 47, 47), (348, 348, 50, 50), (348, 348, 53, 53)] I0 I0 := dkF_rf _ _
  have hl := lv_entry ([.ref (z + 340), .int p0, .int p1, .int p2]) (n := 6) (Nat.le_of_ble_eq_true rfl)
  have hgo : entryFrame m args 6 = entryFrame m ([.ref (z + 340), .int p0, .int p1, .int p2] : List Value).toArray 6 := by rw [ha]
  rw [hgo, lg_entry_eq]
  generalize (lg_sl ([.ref (z + 340), .int p0, .int p1, .int p2]) ++ List.replicate (6 - (lg_sl ([.ref (z + 340), .int p0, .int p1, .int p2])).length) Slot.unset).toArray = ls at hl ⊢
  have hl : lv_has ls 6 [(0, .ref (z + 340)), (1, .int p0), (2, .int p1), (3, .int p2)] := hl
  have C6 : ∀ (n : Nat), ∀ (I : dkI) (H : Heap) (locs : List Loc) (ls : Array Slot) (x6_4 : Int32) (x6_5 : Int32), (12 - x6_5.toInt).toNat < n → dkW g z I H → va_S (dkA z) s.heap H locs → dkF [(348, 348, 2, 3), (348, 348, 8, 35), (348, 348, 38, 38), (348, 348, 41, 41), (348, 348, 44, 44), (348, 348, 47, 47), (348, 348, 50, 50), (348, 348, 53, 53)] I0 I → dkOk I → dkN [(0, 1)] x6_4 → dkN [(0, 12)] x6_5 → p1.toInt + p2.toInt ≤ 320 → lv_has ls 6 [(0, .ref (z + 340)), (1, .int p0), (2, .int p1), (3, .int p2), (4, .int x6_4), (5, .int x6_5)] → W p l e (headSpec wsX6_isSeen (dkR 6)).room s m args below meth c H locs 0 0 (MQ below (dkQi g z (fun r I1 => dkF [(348, 348, 2, 3), (348, 348, 8, 35), (348, 348, 38, 38), (348, 348, 41, 41), (348, 348, 44, 44), (348, 348, 47, 47), (348, 348, 50, 50), (348, 348, 53, 53)] I0 I1 ∧ dkOk I1 ∧ ((dkN [(0, 1)] r ∧ True)))) args s 0 0 (dkA z)) (F0 m 6 ls []) := by
    intro n
    induction n with
    | zero => intro I H locs ls x6_4 x6_5 hn; exact absurd hn (Nat.not_lt_zero _)
    | succ n ih6 =>
      intro I6_ H locs ls x6_4 x6_5 hn6 hW hS hF_6 hO k6_0 k6_1 q6_0 hl
      have hF := hF_6
      have C54 : ∀ (I : dkI) (H : Heap) (locs : List Loc) (ls : Array Slot) (x54_s0 : Int32), dkW g z I H → va_S (dkA z) s.heap H locs → dkF [(348, 348, 2, 3), (348, 348, 8, 35), (348, 348, 38, 38), (348, 348, 41, 41), (348, 348, 44, 44), (348, 348, 47, 47), (348, 348, 50, 50), (348, 348, 53, 53)] I0 I → dkOk I → dkN [(0, 1)] x54_s0 → dkN [(0, 1)] x6_4 → dkN [(0, 11)] x6_5 → p1.toInt + p2.toInt ≤ 320 → lv_has ls 6 [(0, .ref (z + 340)), (1, .int p0), (2, .int p1), (3, .int p2), (4, .int x6_4), (5, .int x6_5)] → W p l e (headSpec wsX6_isSeen (dkR 6)).room s m args below meth c H locs 0 0 (MQ below (dkQi g z (fun r I1 => dkF [(348, 348, 2, 3), (348, 348, 8, 35), (348, 348, 38, 38), (348, 348, 41, 41), (348, 348, 44, 44), (348, 348, 47, 47), (348, 348, 50, 50), (348, 348, 53, 53)] I0 I1 ∧ dkOk I1 ∧ ((dkN [(0, 1)] r ∧ True)))) args s 0 0 (dkA z)) (F0 m 54 ls [.int x54_s0]) := by
        intro I54_ H locs ls x54_s0 hW hS hF_54 hO k54_0 r54_0 r54_1 q54_0 hl
        have hF := hF_54
        refine lv_istore (lv' := [(4, .int x54_s0), (0, .ref (z + 340)), (1, .int p0), (2, .int p1), (3, .int p2), (5, .int x6_5)]) hx hb dX6_isSeen_54 hl (by decide) rfl (fun ls hl => ?_)
        obtain ⟨v1, ev1⟩ : ∃ y : Int32, y = x6_5 + 1 := ⟨_, rfl⟩
        have dv1 : dkN [(1, 12)] v1 := by rw [ev1]; exact dkN_add r54_1 (dkN_lit (x := 1) (1) rfl) rfl
        refine lv_iinc (v := v1) (lv' := [(5, .int v1), (4, .int x54_s0), (0, .ref (z + 340)), (1, .int p0), (2, .int p1), (3, .int p2)]) hx hb dX6_isSeen_56 hl (k := 5) rfl (by rw [ev1]; rfl) (by decide) rfl (fun ls hl => ?_)
        refine lv_goto (tgt := 6) hx hb dX6_isSeen_59 (by decide) ?_
        exact ih6 I54_ _ _ ls x54_s0 v1 (dk_near hn6 (by rw [ev1]; exact dk_inc r54_1 rfl) (dkN_lt r54_1 rfl)) hW hS hF hO (dkN_sub k54_0 rfl) (dkN_sub dv1 rfl) q54_0 (lv_sub hl [2, 3, 4, 5, 1, 0] rfl)
      have C53 : ∀ (I : dkI) (H : Heap) (locs : List Loc) (ls : Array Slot), dkW g z I H → va_S (dkA z) s.heap H locs → dkF [(348, 348, 2, 3), (348, 348, 8, 35), (348, 348, 38, 38), (348, 348, 41, 41), (348, 348, 44, 44), (348, 348, 47, 47), (348, 348, 50, 50), (348, 348, 53, 53)] I0 I → dkOk I → dkN [(0, 1)] x6_4 → dkN [(0, 11)] x6_5 → p1.toInt + p2.toInt ≤ 320 → lv_has ls 6 [(0, .ref (z + 340)), (1, .int p0), (2, .int p1), (3, .int p2), (4, .int x6_4), (5, .int x6_5)] → W p l e (headSpec wsX6_isSeen (dkR 6)).room s m args below meth c H locs 0 0 (MQ below (dkQi g z (fun r I1 => dkF [(348, 348, 2, 3), (348, 348, 8, 35), (348, 348, 38, 38), (348, 348, 41, 41), (348, 348, 44, 44), (348, 348, 47, 47), (348, 348, 50, 50), (348, 348, 53, 53)] I0 I1 ∧ dkOk I1 ∧ ((dkN [(0, 1)] r ∧ True)))) args s 0 0 (dkA z)) (F0 m 53 ls []) := by
        intro I53_ H locs ls hW hS hF_53 hO r53_0 r53_1 q53_0 hl
        have hF := hF_53
        refine lv_iconst (v := 0) hx hb dX6_isSeen_53 (by decide) ?_
        exact C54 I53_ _ _ ls 0 hW hS hF hO (dkN_sub (dkN_lit (x := 0) (0) rfl) rfl) (dkN_sub r53_0 rfl) (dkN_sub r53_1 rfl) q53_0 (lv_sub hl [0, 1, 2, 3, 4, 5] rfl)
      refine lv_iload hx hb dX6_isSeen_6 (lv_at hl 5 rfl) ?_
      refine lv_iload_n hx hb dX6_isSeen_8 rfl (lv_at hl 3 rfl) ?_
      refine lv_icmp_ge (tgt := 62) hx hb dX6_isSeen_9 (by decide) (fun c2 => ?_) (fun c2 => ?_)
      ·
        have d3 : dkN [(1, 12)] x6_5 := dkN_le2 0 dp2 k6_1 (dkc_le c2) rfl
        refine lv_iload hx hb dX6_isSeen_62 (lv_at hl 4 rfl) ?_
        exact W.zret (v := x6_4) (ty := .boolean) hx hb hr (dkN_zr k6_0 rfl) (fun t ht hW9 => ⟨⟨x6_4, I6_, rfl, ⟨hF, hO, ⟨dkN_sub k6_0 rfl, trivial⟩⟩, dkW_eq ht hW⟩, hS.F ht⟩) hS.2.2 dX6_isSeen_64
      ·
        have d4 : dkN [(0, 11)] x6_5 := dkN_le1 1 k6_1 dp2 (dkc_nle c2) rfl
        refine lv_aload_n hx hb dX6_isSeen_12 rfl (lv_at hl 0 rfl) ?_
        refine dk_get (k := 340) hx hb hts iX6_isSeen_6 hown hK (dk_at340 hW) rfl 15 (by decide) (hts (.fieldLink RX6 31 "DogKingsModel" "tried" "[I") (List.mem_of_getElem? (i := 1) rfl)) rfl dX6_isSeen_13 ?_
        refine dk_Sv (As := [.ref (z + 348)]) (rest := []) ⟨hx, hb, hml, hown, hts⟩ (c_X6_passes_1 l g z I6_ hO) (va_cwS 1 hts gX6_isSeen_X6_passes rfl rfl rfl (by decide +kernel) ⟨Nat.le_of_ble_eq_true rfl, Nat.le_of_ble_eq_true rfl⟩) hK hT hW hS rfl hl.1 rfl (Nat.le_of_ble_eq_true rfl) dX6_isSeen_16 ⟨Nat.zero_le _, Nat.zero_le _⟩ (fun I5 H5 L5 hp5 hW hS => ?_)
        obtain ⟨hF5, hO, hc5⟩ := hp5
        have hF := dkF_call hF hF5 rfl
        refine lv_iload hx hb dX6_isSeen_19 (lv_at hl 4 rfl) ?_
        refine lv_if_eq (tgt := 53) hx hb dX6_isSeen_21 (by decide) (fun c6 => ?_) (fun c6 => ?_)
        ·
          have d7 : dkN [(0, 0)] x6_4 := dkN_eq1 k6_0 (dkN_lit (x := 0) (0) rfl) (congrArg Int32.toInt c6) rfl
          exact C53 I5 _ _ ls  hW hS hF hO (dkN_sub d7 rfl) (dkN_sub d4 rfl) q6_0 (lv_sub hl [0, 1, 2, 3, 4, 5] rfl)
        ·
          have d8 : dkN [(1, 1)] x6_4 := dkN_ne1 (0) k6_0 (dkN_lit (x := 0) (0) rfl) (dk_ne c6) rfl
          refine lv_aload_n hx hb dX6_isSeen_24 rfl (lv_at hl 0 rfl) ?_
          refine dk_get (k := 340) hx hb hts iX6_isSeen_6 hown hK (dk_at340 hW) rfl 15 (by decide) (hts (.fieldLink RX6 31 "DogKingsModel" "tried" "[I") (List.mem_of_getElem? (i := 1) rfl)) rfl dX6_isSeen_25 ?_
          refine lv_bipush (v := 36) hx hb dX6_isSeen_28 (by decide) ?_
          refine lv_iconst (v := 3) hx hb dX6_isSeen_30 (by decide) ?_
          refine lv_iload_n hx hb dX6_isSeen_31 rfl (lv_at hl 1 rfl) ?_
          refine lv_imul hx hb dX6_isSeen_32 ?_
          refine lv_topi (fun v9 ev9 => ?_)
          have dv9 : dkN [(0, 0), (3, 3), (6, 6), (9, 9), (12, 12), (15, 15)] v9 := by rw [ev9]; exact dkN_mulPt 3 (dkN_lit (x := 3) (3) rfl) dp0 rfl
          refine lv_iadd hx hb dX6_isSeen_33 ?_
          refine lv_topi (fun v10 ev10 => ?_)
          have dv10 : dkN [(36, 36), (39, 39), (42, 42), (45, 45), (48, 48), (51, 51)] v10 := by rw [ev10]; exact dkN_add (dkN_lit (x := 36) (36) rfl) dv9 rfl
          refine lv_iconst (v := 2) hx hb dX6_isSeen_34 (by decide) ?_
          refine lv_iadd hx hb dX6_isSeen_35 ?_
          refine lv_topi (fun v11 ev11 => ?_)
          have dv11 : dkN [(38, 38), (41, 41), (44, 44), (47, 47), (50, 50), (53, 53)] v11 := by rw [ev11]; exact dkN_add dv10 (dkN_lit (x := 2) (2) rfl) rfl
          refine dk_ild (k := 348) hx hb hK (dk_at348 hW) (dkN_in (n := 54) dv11 rfl) dX6_isSeen_36 ?_
          refine lv_topi (fun v12 ev12 => ?_)
          refine lv_aload_n hx hb dX6_isSeen_37 rfl (lv_at hl 0 rfl) ?_
          refine dk_get (k := 340) hx hb hts iX6_isSeen_6 hown hK (dk_at340 hW) rfl 2 (by decide) (hts (.fieldLink RX6 16 "DogKingsModel" "items" "[I") (List.mem_of_getElem? (i := 2) rfl)) rfl dX6_isSeen_38 ?_
          refine lv_iload_n hx hb dX6_isSeen_41 rfl (lv_at hl 2 rfl) ?_
          refine lv_iload hx hb dX6_isSeen_42 (lv_at hl 5 rfl) ?_
          refine lv_iadd hx hb dX6_isSeen_44 ?_
          refine lv_topi (fun v13 ev13 => ?_)
          have dv13 : dkN [(0, 331)] v13 := by rw [ev13]; exact dkN_add dp1 d4 rfl
          refine dk_ild (k := 343) hx hb hK (dk_at343 hW) (dk_inSeen ev13 dp1 d4 (dkc_nle c2) m0 rfl) dX6_isSeen_45 ?_
          refine lv_topi (fun v14 ev14 => ?_)
          refine lv_icmp_ne (tgt := 53) hx hb dX6_isSeen_46 (by decide) (fun c15 => ?_) (fun c15 => ?_)
          ·
            exact C53 I5 _ _ ls  hW hS hF hO (dkN_sub d8 rfl) (dkN_sub d4 rfl) q6_0 (lv_sub hl [0, 1, 2, 3, 4, 5] rfl)
          ·
            refine lv_iconst (v := 1) hx hb dX6_isSeen_49 (by decide) ?_
            refine lv_goto (tgt := 54) hx hb dX6_isSeen_50 (by decide) ?_
            exact C54 I5 _ _ ls 1 hW hS hF hO (dkN_sub (dkN_lit (x := 1) (1) rfl) rfl) (dkN_sub d8 rfl) (dkN_sub d4 rfl) q6_0 (lv_sub hl [0, 1, 2, 3, 4, 5] rfl)
  refine lv_iconst (v := 1) hx hb dX6_isSeen_0 (by decide) ?_
  refine lv_istore (lv' := [(4, .int 1), (0, .ref (z + 340)), (1, .int p0), (2, .int p1), (3, .int p2)]) hx hb dX6_isSeen_1 hl (by decide) rfl (fun ls hl => ?_)
  refine lv_iconst (v := 0) hx hb dX6_isSeen_3 (by decide) ?_
  refine lv_istore (lv' := [(5, .int 0), (4, .int 1), (0, .ref (z + 340)), (1, .int p0), (2, .int p1), (3, .int p2)]) hx hb dX6_isSeen_4 hl (by decide) rfl (fun ls hl => ?_)
  exact C6 _ I0 _ _ ls 1 0 (Nat.lt_succ_self _) hW hS hF hO (dkN_sub (dkN_lit (x := 1) (1) rfl) rfl) (dkN_sub (dkN_lit (x := 0) (0) rfl) rfl) m0 (lv_sub hl [2, 3, 4, 5, 1, 0] rfl)
set_option maxHeartbeats 4000000 in
set_option maxRecDepth 100000 in
theorem c_X6_seenBy_0 (l : Launch) (g : dkG) (z : Nat) (I0 : dkI) (p0 : Int32) (p1 : Int32) (p2 : Int32) (p3 : Int32) (p4 : Int32) (p5 : Int32) (dp0 : dkN [(0, 5)] p0) (dp1 : dkN [(0, 320)] p1) (dp2 : dkN [(1, 12)] p2) (dp3 : dkN [(38, 38), (41, 41), (44, 44), (47, 47), (50, 50), (53, 53)] p3) (dp4 : dkN [(0, 0)] p4) (dp5 : dkN [(-1, 8)] p5)  (m0 : p1.toInt + p2.toInt ≤ 320) (hO : dkOk I0) : Met l yX6_seenBy wsX6_seenBy (dkR 7) (dkPc g z [.ref (z + 340), .int p0, .int p1, .int p2, .int p3, .int p4, .int p5] I0) (dkQi g z (fun r I1 => dkF [(348, 348, 0, 53)] I0 I1 ∧ dkOk I1 ∧ ((True ∧ True)))) 0 0 (dkA z) := by
  refine Met.ofW (cc := cX6_seenBy) (maxL := 9) (ret := (some .int)) (by decide) rfl ?_
  intro p e s m args below meth c s₁ B hml hv
  obtain ⟨ha, hW, hK, hT⟩ := hv
  have hx := B.exec
  have hb := B.bytes
  have hr := B.returns
  have hts := atoms_spec (ws := wsX6_seenBy) B.pre
  have hown : s.vm.findClass RX6 = some m.cls := findClass_of_methodNamed B.named
  have hlocks := B.notSynchronized
  have hS : va_S (dkA z) s.heap s.heap [] := va_S.rf
  have hF : dkF [(348, 348, 0, 53)] I0 I0 := dkF_rf _ _
  have hl := lv_entry ([.ref (z + 340), .int p0, .int p1, .int p2, .int p3, .int p4, .int p5]) (n := 9) (Nat.le_of_ble_eq_true rfl)
  have hgo : entryFrame m args 9 = entryFrame m ([.ref (z + 340), .int p0, .int p1, .int p2, .int p3, .int p4, .int p5] : List Value).toArray 9 := by rw [ha]
  rw [hgo, lg_entry_eq]
  generalize (lg_sl ([.ref (z + 340), .int p0, .int p1, .int p2, .int p3, .int p4, .int p5]) ++ List.replicate (9 - (lg_sl ([.ref (z + 340), .int p0, .int p1, .int p2, .int p3, .int p4, .int p5])).length) Slot.unset).toArray = ls at hl ⊢
  have hl : lv_has ls 9 [(0, .ref (z + 340)), (1, .int p0), (2, .int p1), (3, .int p2), (4, .int p3), (5, .int p4), (6, .int p5)] := hl
  have C7 : ∀ (n : Nat), ∀ (I : dkI) (H : Heap) (locs : List Loc) (ls : Array Slot) (x7_7 : Int32) (x7_8 : Int32), (9 - x7_8.toInt).toNat < n → dkW g z I H → va_S (dkA z) s.heap H locs → dkF [(348, 348, 0, 53)] I0 I → dkOk I → dkN [(0, 9)] x7_8 → p1.toInt + p2.toInt ≤ 320 → lv_has ls 9 [(0, .ref (z + 340)), (1, .int p0), (2, .int p1), (3, .int p2), (4, .int p3), (5, .int p4), (6, .int p5), (7, .int x7_7), (8, .int x7_8)] → W p l e (headSpec wsX6_seenBy (dkR 7)).room s m args below meth c H locs 0 0 (MQ below (dkQi g z (fun r I1 => dkF [(348, 348, 0, 53)] I0 I1 ∧ dkOk I1 ∧ ((True ∧ True)))) args s 0 0 (dkA z)) (F0 m 7 ls []) := by
    intro n
    induction n with
    | zero => intro I H locs ls x7_7 x7_8 hn; exact absurd hn (Nat.not_lt_zero _)
    | succ n ih7 =>
      intro I7_ H locs ls x7_7 x7_8 hn7 hW hS hF_7 hO k7_1 q7_0 hl
      have hF := hF_7
      have C56 : ∀ (I : dkI) (H : Heap) (locs : List Loc) (ls : Array Slot) (x56_s0 : Int32), dkW g z I H → va_S (dkA z) s.heap H locs → dkF [(348, 348, 0, 53)] I0 I → dkOk I → dkN [(0, 256)] x56_s0 → dkN [(0, 8)] p5 → dkN [(0, 8)] x7_8 → p1.toInt + p2.toInt ≤ 320 → lv_has ls 9 [(0, .ref (z + 340)), (1, .int p0), (2, .int p1), (3, .int p2), (4, .int p3), (5, .int p4), (6, .int p5), (7, .int x7_7), (8, .int x7_8)] → W p l e (headSpec wsX6_seenBy (dkR 7)).room s m args below meth c H locs 0 0 (MQ below (dkQi g z (fun r I1 => dkF [(348, 348, 0, 53)] I0 I1 ∧ dkOk I1 ∧ ((True ∧ True)))) args s 0 0 (dkA z)) (F0 m 56 ls [.int x56_s0, .int x7_7]) := by
        intro I56_ H locs ls x56_s0 hW hS hF_56 hO k56_0 r56_0 r56_1 q56_0 hl
        have hF := hF_56
        refine lv_ior hx hb dX6_seenBy_56 ?_
        refine lv_topi (fun v1 ev1 => ?_)
        refine lv_istore (lv' := [(7, .int v1), (0, .ref (z + 340)), (1, .int p0), (2, .int p1), (3, .int p2), (4, .int p3), (5, .int p4), (6, .int p5), (8, .int x7_8)]) hx hb dX6_seenBy_57 hl (by decide) rfl (fun ls hl => ?_)
        obtain ⟨v2, ev2⟩ : ∃ y : Int32, y = x7_8 + 1 := ⟨_, rfl⟩
        have dv2 : dkN [(1, 9)] v2 := by rw [ev2]; exact dkN_add r56_1 (dkN_lit (x := 1) (1) rfl) rfl
        refine lv_iinc (v := v2) (lv' := [(8, .int v2), (7, .int v1), (0, .ref (z + 340)), (1, .int p0), (2, .int p1), (3, .int p2), (4, .int p3), (5, .int p4), (6, .int p5)]) hx hb dX6_seenBy_59 hl (k := 8) rfl (by rw [ev2]; rfl) (by decide) rfl (fun ls hl => ?_)
        refine lv_goto (tgt := 7) hx hb dX6_seenBy_62 (by decide) ?_
        exact ih7 I56_ _ _ ls v1 v2 (dk_near hn7 (by rw [ev2]; exact dk_inc r56_1 rfl) (dkN_lt r56_1 rfl)) hW hS hF hO (dkN_sub dv2 rfl) q56_0 (lv_sub hl [2, 3, 4, 5, 6, 7, 8, 1, 0] rfl)
      refine lv_iload hx hb dX6_seenBy_7 (lv_at hl 8 rfl) ?_
      refine lv_iload hx hb dX6_seenBy_9 (lv_at hl 6 rfl) ?_
      refine lv_icmp_gt (tgt := 65) hx hb dX6_seenBy_11 (by decide) (fun c3 => ?_) (fun c3 => ?_)
      ·
        refine lv_iload hx hb dX6_seenBy_65 (lv_at hl 7 rfl) ?_
        exact W.iret (v := x7_7) hx hb hr (fun t ht hW9 => ⟨⟨x7_7, I7_, rfl, ⟨hF, hO, ⟨trivial, trivial⟩⟩, dkW_eq ht hW⟩, hS.F ht⟩) hS.2.2 dX6_seenBy_67
      ·
        have d4 : dkN [(0, 8)] p5 := dkN_le2 0 k7_1 dp5 (dkc_nlt c3) rfl
        have d5 : dkN [(0, 8)] x7_8 := dkN_le1 0 k7_1 dp5 (dkc_nlt c3) rfl
        refine lv_aload_n hx hb dX6_seenBy_14 rfl (lv_at hl 0 rfl) ?_
        refine dk_get (k := 340) hx hb hts iX6_seenBy_6 hown hK (dk_at340 hW) rfl 13 (by decide) (hts (.fieldLink RX6 25 "DogKingsModel" "now" "[I") (List.mem_of_getElem? (i := 1) rfl)) rfl dX6_seenBy_15 ?_
        refine lv_iconst (v := 0) hx hb dX6_seenBy_18 (by decide) ?_
        refine lv_aload_n hx hb dX6_seenBy_19 rfl (lv_at hl 0 rfl) ?_
        refine dk_get (k := 340) hx hb hts iX6_seenBy_6 hown hK (dk_at340 hW) rfl 15 (by decide) (hts (.fieldLink RX6 31 "DogKingsModel" "tried" "[I") (List.mem_of_getElem? (i := 2) rfl)) rfl dX6_seenBy_20 ?_
        refine lv_iconst (v := 0) hx hb dX6_seenBy_23 (by decide) ?_
        refine dk_Sv (As := [.ref (z + 346), .int 0, .ref (z + 348), .int 0]) (rest := []) ⟨hx, hb, hml, hown, hts⟩ (c_X6_copies l g z I7_ (kf := 346) (kt := 348) (nf := 54) (nt := 54) 0 0 (A := 0) (B := 0) rfl rfl (by decide) (by decide) (by decide) (by decide) (by decide) (by decide) (fun _ => rfl) (fun _ => rfl)) (va_cwS 4 hts gX6_seenBy_X6_copies rfl rfl rfl (by decide +kernel) ⟨Nat.le_of_ble_eq_true rfl, Nat.le_of_ble_eq_true rfl⟩) hK hT hW hS rfl hl.1 rfl (Nat.le_of_ble_eq_true rfl) dX6_seenBy_24 ⟨Nat.zero_le _, Nat.zero_le _⟩ (fun I6 H6 L6 eI6 hW hS => ?_)
        have eI6 : I6 = dkCp I7_ 346 348 0 0 := eI6
        have hO := dkO_cp hO eI6 (by decide) (by decide) (by decide) (by decide)
        have hF := dkF_cp (lo := 0) (hi := 0) hF eI6 ⟨by decide, by decide⟩ rfl
        refine lv_aload_n hx hb dX6_seenBy_27 rfl (lv_at hl 0 rfl) ?_
        refine dk_get (k := 340) hx hb hts iX6_seenBy_6 hown hK (dk_at340 hW) rfl 15 (by decide) (hts (.fieldLink RX6 31 "DogKingsModel" "tried" "[I") (List.mem_of_getElem? (i := 2) rfl)) rfl dX6_seenBy_28 ?_
        refine lv_iload hx hb dX6_seenBy_31 (lv_at hl 4 rfl) ?_
        refine lv_iload hx hb dX6_seenBy_33 (lv_at hl 8 rfl) ?_
        refine dk_ist (k := 348) hx hb hK hW (fun _ => rfl) (by decide) hS (dkN_in (n := 54) dp3 rfl) dX6_seenBy_35 (fun I7 H7 L7 eI7 hW hS => ?_)
        have hO := dkO_set hO eI7 (by rw [dkB_w (k := 348) (B := [(-2147483648, 2147483647)]) (by decide) dp3 rfl]; exact dkN_top _)
        have hF := dkF_set hF eI7 (dkIn_v dp3 rfl)
        refine lv_iload hx hb dX6_seenBy_36 (lv_at hl 7 rfl) ?_
        refine lv_aload_n hx hb dX6_seenBy_38 rfl (lv_at hl 0 rfl) ?_
        refine lv_iload_n hx hb dX6_seenBy_39 rfl (lv_at hl 1 rfl) ?_
        refine lv_iload_n hx hb dX6_seenBy_40 rfl (lv_at hl 2 rfl) ?_
        refine lv_iload_n hx hb dX6_seenBy_41 rfl (lv_at hl 3 rfl) ?_
        refine dk_Vi (As := [.int p0, .int p1, .int p2]) (rest := [.int x7_7]) ⟨hx, hb, hml, hown, hts⟩ (c_X6_isSeen_0 l g z I7 p0 p1 p2 dp0 dp1 dp2 q7_0 hO) (cwV 3 hts gX6_seenBy_X6_isSeen rfl rfl rfl (by decide +kernel) ⟨Nat.le_of_ble_eq_true rfl, Nat.le_of_ble_eq_true rfl⟩) (dk_at340 hW) rfl hK hT hW hS rfl hl.1 rfl (Nat.le_of_ble_eq_true rfl) dX6_seenBy_42 ⟨Nat.zero_le _, Nat.zero_le _⟩ (fun v8 I8 H8 L8 hp8 hW hS => ?_)
        obtain ⟨hF8, hO, hc8⟩ := hp8
        have hF := dkF_call hF hF8 rfl
        obtain ⟨dv8, -⟩ := hc8
        refine lv_if_eq (tgt := 55) hx hb dX6_seenBy_45 (by decide) (fun c9 => ?_) (fun c9 => ?_)
        ·
          have d10 : dkN [(0, 0)] v8 := dkN_eq1 dv8 (dkN_lit (x := 0) (0) rfl) (congrArg Int32.toInt c9) rfl
          refine lv_iconst (v := 0) hx hb dX6_seenBy_55 (by decide) ?_
          exact C56 I8 _ _ ls 0 hW hS hF hO (dkN_sub (dkN_lit (x := 0) (0) rfl) rfl) (dkN_sub d4 rfl) (dkN_sub d5 rfl) q7_0 (lv_sub hl [0, 1, 2, 3, 4, 5, 6, 7, 8] rfl)
        ·
          have d11 : dkN [(1, 1)] v8 := dkN_ne1 (0) dv8 (dkN_lit (x := 0) (0) rfl) (dk_ne c9) rfl
          refine lv_iconst (v := 1) hx hb dX6_seenBy_48 (by decide) ?_
          refine lv_iload hx hb dX6_seenBy_49 (lv_at hl 8 rfl) ?_
          refine lv_ishl hx hb dX6_seenBy_51 ?_
          refine lv_topi (fun v12 ev12 => ?_)
          have dv12 : dkN [(1, 256)] v12 := by rw [ev12]; exact dkN_shl1 0 8 (by decide) d5 rfl
          refine lv_goto (tgt := 56) hx hb dX6_seenBy_52 (by decide) ?_
          exact C56 I8 _ _ ls v12 hW hS hF hO (dkN_sub dv12 rfl) (dkN_sub d4 rfl) (dkN_sub d5 rfl) q7_0 (lv_sub hl [0, 1, 2, 3, 4, 5, 6, 7, 8] rfl)
  refine lv_iconst (v := 0) hx hb dX6_seenBy_0 (by decide) ?_
  refine lv_istore (lv' := [(7, .int 0), (0, .ref (z + 340)), (1, .int p0), (2, .int p1), (3, .int p2), (4, .int p3), (5, .int p4), (6, .int p5)]) hx hb dX6_seenBy_1 hl (by decide) rfl (fun ls hl => ?_)
  refine lv_iload hx hb dX6_seenBy_3 (lv_at hl 6 rfl) ?_
  refine lv_istore (lv' := [(8, .int p4), (7, .int 0), (0, .ref (z + 340)), (1, .int p0), (2, .int p1), (3, .int p2), (4, .int p3), (5, .int p4), (6, .int p5)]) hx hb dX6_seenBy_5 hl (by decide) rfl (fun ls hl => ?_)
  exact C7 _ I0 _ _ ls 0 p4 (Nat.lt_succ_self _) hW hS hF hO (dkN_sub dp4 rfl) m0 (lv_sub hl [2, 3, 4, 5, 6, 7, 8, 1, 0] rfl)
set_option maxHeartbeats 4000000 in
set_option maxRecDepth 100000 in
theorem c_X6_seenBy_1 (l : Launch) (g : dkG) (z : Nat) (I0 : dkI) (p0 : Int32) (p1 : Int32) (p2 : Int32) (p3 : Int32) (p4 : Int32) (p5 : Int32) (dp0 : dkN [(0, 5)] p0) (dp1 : dkN [(0, 320)] p1) (dp2 : dkN [(1, 12)] p2) (dp3 : dkN [(36, 36), (39, 39), (42, 42), (45, 45), (48, 48), (51, 51)] p3) (dp4 : dkN [(1, 1)] p4) (dp5 : dkN [(5, 5)] p5)  (m0 : p1.toInt + p2.toInt ≤ 320) (hO : dkOk I0) : Met l yX6_seenBy wsX6_seenBy (dkR 7) (dkPc g z [.ref (z + 340), .int p0, .int p1, .int p2, .int p3, .int p4, .int p5] I0) (dkQi g z (fun r I1 => dkF [(348, 348, 0, 53)] I0 I1 ∧ dkOk I1 ∧ ((True ∧ True)))) 0 0 (dkA z) := by
  refine Met.ofW (cc := cX6_seenBy) (maxL := 9) (ret := (some .int)) (by decide) rfl ?_
  intro p e s m args below meth c s₁ B hml hv
  obtain ⟨ha, hW, hK, hT⟩ := hv
  have hx := B.exec
  have hb := B.bytes
  have hr := B.returns
  have hts := atoms_spec (ws := wsX6_seenBy) B.pre
  have hown : s.vm.findClass RX6 = some m.cls := findClass_of_methodNamed B.named
  have hlocks := B.notSynchronized
  have hS : va_S (dkA z) s.heap s.heap [] := va_S.rf
  have hF : dkF [(348, 348, 0, 53)] I0 I0 := dkF_rf _ _
  have hl := lv_entry ([.ref (z + 340), .int p0, .int p1, .int p2, .int p3, .int p4, .int p5]) (n := 9) (Nat.le_of_ble_eq_true rfl)
  have hgo : entryFrame m args 9 = entryFrame m ([.ref (z + 340), .int p0, .int p1, .int p2, .int p3, .int p4, .int p5] : List Value).toArray 9 := by rw [ha]
  rw [hgo, lg_entry_eq]
  generalize (lg_sl ([.ref (z + 340), .int p0, .int p1, .int p2, .int p3, .int p4, .int p5]) ++ List.replicate (9 - (lg_sl ([.ref (z + 340), .int p0, .int p1, .int p2, .int p3, .int p4, .int p5])).length) Slot.unset).toArray = ls at hl ⊢
  have hl : lv_has ls 9 [(0, .ref (z + 340)), (1, .int p0), (2, .int p1), (3, .int p2), (4, .int p3), (5, .int p4), (6, .int p5)] := hl
  have C7 : ∀ (n : Nat), ∀ (I : dkI) (H : Heap) (locs : List Loc) (ls : Array Slot) (x7_7 : Int32) (x7_8 : Int32), (6 - x7_8.toInt).toNat < n → dkW g z I H → va_S (dkA z) s.heap H locs → dkF [(348, 348, 0, 53)] I0 I → dkOk I → dkN [(1, 6)] x7_8 → p1.toInt + p2.toInt ≤ 320 → lv_has ls 9 [(0, .ref (z + 340)), (1, .int p0), (2, .int p1), (3, .int p2), (4, .int p3), (5, .int p4), (6, .int p5), (7, .int x7_7), (8, .int x7_8)] → W p l e (headSpec wsX6_seenBy (dkR 7)).room s m args below meth c H locs 0 0 (MQ below (dkQi g z (fun r I1 => dkF [(348, 348, 0, 53)] I0 I1 ∧ dkOk I1 ∧ ((True ∧ True)))) args s 0 0 (dkA z)) (F0 m 7 ls []) := by
    intro n
    induction n with
    | zero => intro I H locs ls x7_7 x7_8 hn; exact absurd hn (Nat.not_lt_zero _)
    | succ n ih7 =>
      intro I7_ H locs ls x7_7 x7_8 hn7 hW hS hF_7 hO k7_1 q7_0 hl
      have hF := hF_7
      have C56 : ∀ (I : dkI) (H : Heap) (locs : List Loc) (ls : Array Slot) (x56_s0 : Int32), dkW g z I H → va_S (dkA z) s.heap H locs → dkF [(348, 348, 0, 53)] I0 I → dkOk I → dkN [(0, 0), (2, 32)] x56_s0 → dkN [(1, 5)] x7_8 → p1.toInt + p2.toInt ≤ 320 → lv_has ls 9 [(0, .ref (z + 340)), (1, .int p0), (2, .int p1), (3, .int p2), (4, .int p3), (5, .int p4), (6, .int p5), (7, .int x7_7), (8, .int x7_8)] → W p l e (headSpec wsX6_seenBy (dkR 7)).room s m args below meth c H locs 0 0 (MQ below (dkQi g z (fun r I1 => dkF [(348, 348, 0, 53)] I0 I1 ∧ dkOk I1 ∧ ((True ∧ True)))) args s 0 0 (dkA z)) (F0 m 56 ls [.int x56_s0, .int x7_7]) := by
        intro I56_ H locs ls x56_s0 hW hS hF_56 hO k56_0 r56_0 q56_0 hl
        have hF := hF_56
        refine lv_ior hx hb dX6_seenBy_56 ?_
        refine lv_topi (fun v1 ev1 => ?_)
        refine lv_istore (lv' := [(7, .int v1), (0, .ref (z + 340)), (1, .int p0), (2, .int p1), (3, .int p2), (4, .int p3), (5, .int p4), (6, .int p5), (8, .int x7_8)]) hx hb dX6_seenBy_57 hl (by decide) rfl (fun ls hl => ?_)
        obtain ⟨v2, ev2⟩ : ∃ y : Int32, y = x7_8 + 1 := ⟨_, rfl⟩
        have dv2 : dkN [(2, 6)] v2 := by rw [ev2]; exact dkN_add r56_0 (dkN_lit (x := 1) (1) rfl) rfl
        refine lv_iinc (v := v2) (lv' := [(8, .int v2), (7, .int v1), (0, .ref (z + 340)), (1, .int p0), (2, .int p1), (3, .int p2), (4, .int p3), (5, .int p4), (6, .int p5)]) hx hb dX6_seenBy_59 hl (k := 8) rfl (by rw [ev2]; rfl) (by decide) rfl (fun ls hl => ?_)
        refine lv_goto (tgt := 7) hx hb dX6_seenBy_62 (by decide) ?_
        exact ih7 I56_ _ _ ls v1 v2 (dk_near hn7 (by rw [ev2]; exact dk_inc r56_0 rfl) (dkN_lt r56_0 rfl)) hW hS hF hO (dkN_sub dv2 rfl) q56_0 (lv_sub hl [2, 3, 4, 5, 6, 7, 8, 1, 0] rfl)
      refine lv_iload hx hb dX6_seenBy_7 (lv_at hl 8 rfl) ?_
      refine lv_iload hx hb dX6_seenBy_9 (lv_at hl 6 rfl) ?_
      refine lv_icmp_gt (tgt := 65) hx hb dX6_seenBy_11 (by decide) (fun c3 => ?_) (fun c3 => ?_)
      ·
        have d4 : dkN [(6, 6)] x7_8 := dkN_le2 1 dp5 k7_1 (dkc_lt c3) rfl
        refine lv_iload hx hb dX6_seenBy_65 (lv_at hl 7 rfl) ?_
        exact W.iret (v := x7_7) hx hb hr (fun t ht hW9 => ⟨⟨x7_7, I7_, rfl, ⟨hF, hO, ⟨trivial, trivial⟩⟩, dkW_eq ht hW⟩, hS.F ht⟩) hS.2.2 dX6_seenBy_67
      ·
        have d5 : dkN [(1, 5)] x7_8 := dkN_le1 0 k7_1 dp5 (dkc_nlt c3) rfl
        refine lv_aload_n hx hb dX6_seenBy_14 rfl (lv_at hl 0 rfl) ?_
        refine dk_get (k := 340) hx hb hts iX6_seenBy_6 hown hK (dk_at340 hW) rfl 13 (by decide) (hts (.fieldLink RX6 25 "DogKingsModel" "now" "[I") (List.mem_of_getElem? (i := 1) rfl)) rfl dX6_seenBy_15 ?_
        refine lv_iconst (v := 0) hx hb dX6_seenBy_18 (by decide) ?_
        refine lv_aload_n hx hb dX6_seenBy_19 rfl (lv_at hl 0 rfl) ?_
        refine dk_get (k := 340) hx hb hts iX6_seenBy_6 hown hK (dk_at340 hW) rfl 15 (by decide) (hts (.fieldLink RX6 31 "DogKingsModel" "tried" "[I") (List.mem_of_getElem? (i := 2) rfl)) rfl dX6_seenBy_20 ?_
        refine lv_iconst (v := 0) hx hb dX6_seenBy_23 (by decide) ?_
        refine dk_Sv (As := [.ref (z + 346), .int 0, .ref (z + 348), .int 0]) (rest := []) ⟨hx, hb, hml, hown, hts⟩ (c_X6_copies l g z I7_ (kf := 346) (kt := 348) (nf := 54) (nt := 54) 0 0 (A := 0) (B := 0) rfl rfl (by decide) (by decide) (by decide) (by decide) (by decide) (by decide) (fun _ => rfl) (fun _ => rfl)) (va_cwS 4 hts gX6_seenBy_X6_copies rfl rfl rfl (by decide +kernel) ⟨Nat.le_of_ble_eq_true rfl, Nat.le_of_ble_eq_true rfl⟩) hK hT hW hS rfl hl.1 rfl (Nat.le_of_ble_eq_true rfl) dX6_seenBy_24 ⟨Nat.zero_le _, Nat.zero_le _⟩ (fun I6 H6 L6 eI6 hW hS => ?_)
        have eI6 : I6 = dkCp I7_ 346 348 0 0 := eI6
        have hO := dkO_cp hO eI6 (by decide) (by decide) (by decide) (by decide)
        have hF := dkF_cp (lo := 0) (hi := 0) hF eI6 ⟨by decide, by decide⟩ rfl
        refine lv_aload_n hx hb dX6_seenBy_27 rfl (lv_at hl 0 rfl) ?_
        refine dk_get (k := 340) hx hb hts iX6_seenBy_6 hown hK (dk_at340 hW) rfl 15 (by decide) (hts (.fieldLink RX6 31 "DogKingsModel" "tried" "[I") (List.mem_of_getElem? (i := 2) rfl)) rfl dX6_seenBy_28 ?_
        refine lv_iload hx hb dX6_seenBy_31 (lv_at hl 4 rfl) ?_
        refine lv_iload hx hb dX6_seenBy_33 (lv_at hl 8 rfl) ?_
        refine dk_ist (k := 348) hx hb hK hW (fun _ => rfl) (by decide) hS (dkN_in (n := 54) dp3 rfl) dX6_seenBy_35 (fun I7 H7 L7 eI7 hW hS => ?_)
        have hO := dkO_set hO eI7 (by rw [dkB_w (k := 348) (B := [(-2147483648, 2147483647)]) (by decide) dp3 rfl]; exact dkN_top _)
        have hF := dkF_set hF eI7 (dkIn_v dp3 rfl)
        refine lv_iload hx hb dX6_seenBy_36 (lv_at hl 7 rfl) ?_
        refine lv_aload_n hx hb dX6_seenBy_38 rfl (lv_at hl 0 rfl) ?_
        refine lv_iload_n hx hb dX6_seenBy_39 rfl (lv_at hl 1 rfl) ?_
        refine lv_iload_n hx hb dX6_seenBy_40 rfl (lv_at hl 2 rfl) ?_
        refine lv_iload_n hx hb dX6_seenBy_41 rfl (lv_at hl 3 rfl) ?_
        refine dk_Vi (As := [.int p0, .int p1, .int p2]) (rest := [.int x7_7]) ⟨hx, hb, hml, hown, hts⟩ (c_X6_isSeen_0 l g z I7 p0 p1 p2 dp0 dp1 dp2 q7_0 hO) (cwV 3 hts gX6_seenBy_X6_isSeen rfl rfl rfl (by decide +kernel) ⟨Nat.le_of_ble_eq_true rfl, Nat.le_of_ble_eq_true rfl⟩) (dk_at340 hW) rfl hK hT hW hS rfl hl.1 rfl (Nat.le_of_ble_eq_true rfl) dX6_seenBy_42 ⟨Nat.zero_le _, Nat.zero_le _⟩ (fun v8 I8 H8 L8 hp8 hW hS => ?_)
        obtain ⟨hF8, hO, hc8⟩ := hp8
        have hF := dkF_call hF hF8 rfl
        obtain ⟨dv8, -⟩ := hc8
        refine lv_if_eq (tgt := 55) hx hb dX6_seenBy_45 (by decide) (fun c9 => ?_) (fun c9 => ?_)
        ·
          have d10 : dkN [(0, 0)] v8 := dkN_eq1 dv8 (dkN_lit (x := 0) (0) rfl) (congrArg Int32.toInt c9) rfl
          refine lv_iconst (v := 0) hx hb dX6_seenBy_55 (by decide) ?_
          exact C56 I8 _ _ ls 0 hW hS hF hO (dkN_sub (dkN_lit (x := 0) (0) rfl) rfl) (dkN_sub d5 rfl) q7_0 (lv_sub hl [0, 1, 2, 3, 4, 5, 6, 7, 8] rfl)
        ·
          have d11 : dkN [(1, 1)] v8 := dkN_ne1 (0) dv8 (dkN_lit (x := 0) (0) rfl) (dk_ne c9) rfl
          refine lv_iconst (v := 1) hx hb dX6_seenBy_48 (by decide) ?_
          refine lv_iload hx hb dX6_seenBy_49 (lv_at hl 8 rfl) ?_
          refine lv_ishl hx hb dX6_seenBy_51 ?_
          refine lv_topi (fun v12 ev12 => ?_)
          have dv12 : dkN [(2, 32)] v12 := by rw [ev12]; exact dkN_shl1 1 5 (by decide) d5 rfl
          refine lv_goto (tgt := 56) hx hb dX6_seenBy_52 (by decide) ?_
          exact C56 I8 _ _ ls v12 hW hS hF hO (dkN_sub dv12 rfl) (dkN_sub d5 rfl) q7_0 (lv_sub hl [0, 1, 2, 3, 4, 5, 6, 7, 8] rfl)
  refine lv_iconst (v := 0) hx hb dX6_seenBy_0 (by decide) ?_
  refine lv_istore (lv' := [(7, .int 0), (0, .ref (z + 340)), (1, .int p0), (2, .int p1), (3, .int p2), (4, .int p3), (5, .int p4), (6, .int p5)]) hx hb dX6_seenBy_1 hl (by decide) rfl (fun ls hl => ?_)
  refine lv_iload hx hb dX6_seenBy_3 (lv_at hl 6 rfl) ?_
  refine lv_istore (lv' := [(8, .int p4), (7, .int 0), (0, .ref (z + 340)), (1, .int p0), (2, .int p1), (3, .int p2), (4, .int p3), (5, .int p4), (6, .int p5)]) hx hb dX6_seenBy_5 hl (by decide) rfl (fun ls hl => ?_)
  exact C7 _ I0 _ _ ls 0 p4 (Nat.lt_succ_self _) hW hS hF hO (dkN_sub dp4 rfl) m0 (lv_sub hl [2, 3, 4, 5, 6, 7, 8, 1, 0] rfl)
