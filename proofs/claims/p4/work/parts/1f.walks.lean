set_option maxHeartbeats 4000000 in
set_option maxRecDepth 100000 in
theorem c_X6_figure_4 (l : Launch) (g : dkG) (z : Nat) (I0 : dkI) (p0 : Int32) (p1 : Int32) (dp0 : dkN [(0, 0)] p0) (dp1 : dkN [(9, 9)] p1) (np0 : dkN [(0, 2147483647)] (I0 340 8))  (hO : dkOk I0) : Met l yX6_figure wsX6_figure (dkR 2) (dkPc g z [.ref (z + 340), .int p0, .int p1] I0) (dkQi g z (fun r I1 => dkF [] I0 I1 ∧ dkOk I1 ∧ ((dkN [(0, 0)] r ∧ dkN [(0, 2147483647)] (I1 340 8) ∧ True)))) 0 0 (dkA z) := by
  refine Met.ofW (cc := cX6_figure) (maxL := 3) (ret := (some .int)) (by decide) rfl ?_
  intro p e s m args below meth c s₁ B hml hv
  obtain ⟨ha, hW, hK, hT⟩ := hv
  have hx := B.exec
  have hb := B.bytes
  have hr := B.returns
  have hts := atoms_spec (ws := wsX6_figure) B.pre
  have hown : s.vm.findClass RX6 = some m.cls := findClass_of_methodNamed B.named
  have hlocks := B.notSynchronized
  have hS : va_S (dkA z) s.heap s.heap [] := va_S.rf
  have hF : dkF [] I0 I0 := dkF_rf _ _
  have hl := lv_entry ([.ref (z + 340), .int p0, .int p1]) (n := 3) (Nat.le_of_ble_eq_true rfl)
  have hgo : entryFrame m args 3 = entryFrame m ([.ref (z + 340), .int p0, .int p1] : List Value).toArray 3 := by rw [ha]
  rw [hgo, lg_entry_eq]
  generalize (lg_sl ([.ref (z + 340), .int p0, .int p1]) ++ List.replicate (3 - (lg_sl ([.ref (z + 340), .int p0, .int p1])).length) Slot.unset).toArray = ls at hl ⊢
  have hl : lv_has ls 3 [(0, .ref (z + 340)), (1, .int p0), (2, .int p1)] := hl
  have C22 : ∀ (I : dkI) (H : Heap) (locs : List Loc) (ls : Array Slot), dkW g z I H → va_S (dkA z) s.heap H locs → dkF [] I0 I → dkOk I → dkN [(0, 2147483647)] (I 340 8) → lv_has ls 3 [(0, .ref (z + 340)), (1, .int p0), (2, .int p1)] → W p l e (headSpec wsX6_figure (dkR 2)).room s m args below meth c H locs 0 0 (MQ below (dkQi g z (fun r I1 => dkF [] I0 I1 ∧ dkOk I1 ∧ ((dkN [(0, 0)] r ∧ dkN [(0, 2147483647)] (I1 340 8) ∧ True)))) args s 0 0 (dkA z)) (F0 m 22 ls []) := by
    intro I22_ H locs ls hW hS hF_22 hO f22_0 hl
    have hF := hF_22
    refine lv_aload_n hx hb dX6_figure_22 rfl (lv_at hl 0 rfl) ?_
    refine lv_aload_n hx hb dX6_figure_23 rfl (lv_at hl 0 rfl) ?_
    refine dk_get (k := 340) hx hb hts iX6_figure_6 hown hK (dk_at340 hW) rfl 12 (by decide) (hts (.fieldLink RX6 95 "DogKingsModel" "value" "I") (List.mem_of_getElem? (i := 2) rfl)) rfl dX6_figure_24 ?_
    refine lv_topi (fun v1 ev1 => ?_)
    refine lv_iload_n hx hb dX6_figure_27 rfl (lv_at hl 1 rfl) ?_
    refine lv_iload_n hx hb dX6_figure_28 rfl (lv_at hl 2 rfl) ?_
    refine dk_Si (As := [.int v1, .int p0, .int p1]) (rest := [.ref (z + 340)]) ⟨hx, hb, hml, hown, hts⟩ (c_X6_in_10 l g z I22_ v1 p0 p1 dp0 dp1 hO) (va_cwS 3 hts gX6_figure_X6_in rfl rfl rfl (by decide +kernel) ⟨Nat.le_of_ble_eq_true rfl, Nat.le_of_ble_eq_true rfl⟩) hK hT hW hS rfl hl.1 rfl (Nat.le_of_ble_eq_true rfl) dX6_figure_29 ⟨Nat.zero_le _, Nat.zero_le _⟩ (fun v2 I2 H2 L2 hp2 hW hS => ?_)
    obtain ⟨hF2, hO, hc2⟩ := hp2
    have hF := dkF_call hF hF2 rfl
    rcases hc2 with ⟨dv2, a2_0, -⟩ | hc2
    ·
      have e3 : v1 = I2 340 12 := by rw [hF2 340 12 rfl]; exact ev1
      have d4 : dkN [(-2147483648, -1), (10, 2147483647)] v1 := dkN_eq1 (dkN_top v1) a2_0 rfl rfl
      have f5 : dkN [(-2147483648, -1), (10, 2147483647)] (I2 340 12) := by rw [← e3]; exact d4
      refine lv_iconst (v := 2) hx hb dX6_figure_32 (by decide) ?_
      refine dk_Vi (As := [.int v2, .int 2]) (rest := []) ⟨hx, hb, hml, hown, hts⟩ (c_X6_takes_14 l g z I2 v2 2 dv2 (dkN_lit (x := 2) (2) rfl) (show dkN [(-2147483648, -1), (10, 2147483647)] (I2 340 12) from dkN_sub f5 rfl) (show dkN [(0, 2147483647)] (I2 340 8) from dkN_sub (by rw [hF2 340 8 rfl]; exact f22_0) rfl) hO) (cwV 2 hts gX6_figure_X6_takes rfl rfl rfl (by decide +kernel) ⟨Nat.le_of_ble_eq_true rfl, Nat.le_of_ble_eq_true rfl⟩) (dk_at340 hW) rfl hK hT hW hS rfl hl.1 rfl (Nat.le_of_ble_eq_true rfl) dX6_figure_33 ⟨Nat.zero_le _, Nat.zero_le _⟩ (fun v6 I6 H6 L6 hp6 hW hS => ?_)
      obtain ⟨hF6, hO, hc6⟩ := hp6
      have hF := dkF_call hF hF6 rfl
      obtain ⟨dv6, f6_340_12, f6_340_8, -⟩ := hc6
      exact W.iret (v := v6) hx hb hr (fun t ht hW9 => ⟨⟨v6, I6, rfl, ⟨hF, hO, ⟨dkN_sub dv6 rfl, (show dkN [(0, 2147483647)] (I6 340 8) from dkN_sub f6_340_8 rfl), trivial⟩⟩, dkW_eq ht hW⟩, hS.F ht⟩) hS.2.2 dX6_figure_36
    ·
      obtain ⟨dv2, a2_0, -⟩ := hc2
      have e7 : v1 = I2 340 12 := by rw [hF2 340 12 rfl]; exact ev1
      have d8 : dkN [(0, 9)] v1 := dkN_eq1 (dkN_top v1) a2_0 rfl rfl
      have f9 : dkN [(0, 9)] (I2 340 12) := by rw [← e7]; exact d8
      refine lv_iconst (v := 2) hx hb dX6_figure_32 (by decide) ?_
      refine dk_Vi (As := [.int v2, .int 2]) (rest := []) ⟨hx, hb, hml, hown, hts⟩ (c_X6_takes_15 l g z I2 v2 2 dv2 (dkN_lit (x := 2) (2) rfl) (show dkN [(0, 9)] (I2 340 12) from dkN_sub f9 rfl) (show dkN [(0, 2147483647)] (I2 340 8) from dkN_sub (by rw [hF2 340 8 rfl]; exact f22_0) rfl) hO) (cwV 2 hts gX6_figure_X6_takes rfl rfl rfl (by decide +kernel) ⟨Nat.le_of_ble_eq_true rfl, Nat.le_of_ble_eq_true rfl⟩) (dk_at340 hW) rfl hK hT hW hS rfl hl.1 rfl (Nat.le_of_ble_eq_true rfl) dX6_figure_33 ⟨Nat.zero_le _, Nat.zero_le _⟩ (fun v10 I10 H10 L10 hp10 hW hS => ?_)
      obtain ⟨hF10, hO, hc10⟩ := hp10
      have hF := dkF_call hF hF10 rfl
      obtain ⟨dv10, f10_340_12, f10_340_8, -⟩ := hc10
      exact W.iret (v := v10) hx hb hr (fun t ht hW9 => ⟨⟨v10, I10, rfl, ⟨hF, hO, ⟨dkN_sub dv10 rfl, (show dkN [(0, 2147483647)] (I10 340 8) from dkN_sub f10_340_8 rfl), trivial⟩⟩, dkW_eq ht hW⟩, hS.F ht⟩) hS.2.2 dX6_figure_36
  refine lv_aload_n hx hb dX6_figure_0 rfl (lv_at hl 0 rfl) ?_
  refine dk_Vi (As := []) (rest := []) ⟨hx, hb, hml, hown, hts⟩ (c_X6_isWell_4 l g z I0 (show dkN [(0, 2147483647)] (I0 340 8) from dkN_sub np0 rfl) hO) (cwV 0 hts gX6_figure_X6_isWell rfl rfl rfl (by decide +kernel) ⟨Nat.le_of_ble_eq_true rfl, Nat.le_of_ble_eq_true rfl⟩) (dk_at340 hW) rfl hK hT hW hS rfl hl.1 rfl (Nat.le_of_ble_eq_true rfl) dX6_figure_1 ⟨Nat.zero_le _, Nat.zero_le _⟩ (fun v11 I11 H11 L11 hp11 hW hS => ?_)
  obtain ⟨hF11, hO, hc11⟩ := hp11
  have hF := dkF_call hF hF11 rfl
  obtain ⟨dv11, f11_340_8, -⟩ := hc11
  refine lv_if_eq (tgt := 22) hx hb dX6_figure_4 (by decide) (fun c12 => ?_) (fun c12 => ?_)
  ·
    exact C22 I11 _ _ ls  hW hS hF hO (show dkN [(0, 2147483647)] (I11 340 8) from dkN_sub f11_340_8 rfl) (lv_sub hl [0, 1, 2] rfl)
  ·
    exact (dkN_nil (show dkN [] v11 from dkN_ne1 (0) dv11 (dkN_lit (x := 0) (0) rfl) (dk_ne c12) rfl)).elim
set_option maxHeartbeats 4000000 in
set_option maxRecDepth 100000 in
theorem c_X6_follows_2 (l : Launch) (g : dkG) (z : Nat) (I0 : dkI) (p0 : Int32) (p1 : Int32) (dp0 : dkN [(0, 0)] p0) (dp1 : dkN [(9, 9)] p1) (np0 : dkN [(0, 2147483647)] (I0 340 8))  (hO : dkOk I0) : Met l yX6_follows wsX6_follows (dkR 3) (dkPc g z [.ref (z + 340), .int p0, .int p1] I0) (dkQi g z (fun r I1 => dkF [] I0 I1 ∧ dkOk I1 ∧ ((dkN [(0, 0)] r ∧ dkN [(0, 2147483647)] (I1 340 8) ∧ True)))) 0 0 (dkA z) := by
  refine Met.ofW (cc := cX6_follows) (maxL := 3) (ret := (some .int)) (by decide) rfl ?_
  intro p e s m args below meth c s₁ B hml hv
  obtain ⟨ha, hW, hK, hT⟩ := hv
  have hx := B.exec
  have hb := B.bytes
  have hr := B.returns
  have hts := atoms_spec (ws := wsX6_follows) B.pre
  have hown : s.vm.findClass RX6 = some m.cls := findClass_of_methodNamed B.named
  have hlocks := B.notSynchronized
  have hS : va_S (dkA z) s.heap s.heap [] := va_S.rf
  have hF : dkF [] I0 I0 := dkF_rf _ _
  have hl := lv_entry ([.ref (z + 340), .int p0, .int p1]) (n := 3) (Nat.le_of_ble_eq_true rfl)
  have hgo : entryFrame m args 3 = entryFrame m ([.ref (z + 340), .int p0, .int p1] : List Value).toArray 3 := by rw [ha]
  rw [hgo, lg_entry_eq]
  generalize (lg_sl ([.ref (z + 340), .int p0, .int p1]) ++ List.replicate (3 - (lg_sl ([.ref (z + 340), .int p0, .int p1])).length) Slot.unset).toArray = ls at hl ⊢
  have hl : lv_has ls 3 [(0, .ref (z + 340)), (1, .int p0), (2, .int p1)] := hl
  have C14 : ∀ (I : dkI) (H : Heap) (locs : List Loc) (ls : Array Slot) (x14_s0 : Int32), dkW g z I H → va_S (dkA z) s.heap H locs → dkF [] I0 I → dkOk I → dkN [(0, 1)] x14_s0 → dkN [(0, 2147483647)] (I 340 8) → lv_has ls 3 [(0, .ref (z + 340)), (1, .int p0), (2, .int p1)] → W p l e (headSpec wsX6_follows (dkR 3)).room s m args below meth c H locs 0 0 (MQ below (dkQi g z (fun r I1 => dkF [] I0 I1 ∧ dkOk I1 ∧ ((dkN [(0, 0)] r ∧ dkN [(0, 2147483647)] (I1 340 8) ∧ True)))) args s 0 0 (dkA z)) (F0 m 14 ls [.int x14_s0, .ref (z + 340)]) := by
    intro I14_ H locs ls x14_s0 hW hS hF_14 hO k14_0 f14_0 hl
    have hF := hF_14
    refine lv_iconst (v := 1) hx hb dX6_follows_14 (by decide) ?_
    refine dk_Vi (As := [.int x14_s0, .int 1]) (rest := []) ⟨hx, hb, hml, hown, hts⟩ (c_X6_takes_13 l g z I14_ x14_s0 1 k14_0 (dkN_lit (x := 1) (1) rfl) (show dkN [(0, 2147483647)] (I14_ 340 8) from dkN_sub f14_0 rfl) hO) (cwV 2 hts gX6_follows_X6_takes rfl rfl rfl (by decide +kernel) ⟨Nat.le_of_ble_eq_true rfl, Nat.le_of_ble_eq_true rfl⟩) (dk_at340 hW) rfl hK hT hW hS rfl hl.1 rfl (Nat.le_of_ble_eq_true rfl) dX6_follows_15 ⟨Nat.zero_le _, Nat.zero_le _⟩ (fun v1 I1 H1 L1 hp1 hW hS => ?_)
    obtain ⟨hF1, hO, hc1⟩ := hp1
    have hF := dkF_call hF hF1 rfl
    obtain ⟨dv1, f1_340_8, -⟩ := hc1
    refine lv_pop hx hb dX6_follows_18 rfl ?_
    refine lv_aload_n hx hb dX6_follows_19 rfl (lv_at hl 0 rfl) ?_
    refine lv_iload_n hx hb dX6_follows_20 rfl (lv_at hl 1 rfl) ?_
    refine lv_iload_n hx hb dX6_follows_21 rfl (lv_at hl 2 rfl) ?_
    refine dk_Vi (As := [.int p0, .int p1]) (rest := []) ⟨hx, hb, hml, hown, hts⟩ (c_X6_figure_4 l g z I1 p0 p1 dp0 dp1 (show dkN [(0, 2147483647)] (I1 340 8) from dkN_sub f1_340_8 rfl) hO) (cwV 2 hts gX6_follows_X6_figure rfl rfl rfl (by decide +kernel) ⟨Nat.le_of_ble_eq_true rfl, Nat.le_of_ble_eq_true rfl⟩) (dk_at340 hW) rfl hK hT hW hS rfl hl.1 rfl (Nat.le_of_ble_eq_true rfl) dX6_follows_22 ⟨Nat.zero_le _, Nat.zero_le _⟩ (fun v2 I2 H2 L2 hp2 hW hS => ?_)
    obtain ⟨hF2, hO, hc2⟩ := hp2
    have hF := dkF_call hF hF2 rfl
    obtain ⟨dv2, f2_340_8, -⟩ := hc2
    exact W.iret (v := v2) hx hb hr (fun t ht hW9 => ⟨⟨v2, I2, rfl, ⟨hF, hO, ⟨dkN_sub dv2 rfl, (show dkN [(0, 2147483647)] (I2 340 8) from dkN_sub f2_340_8 rfl), trivial⟩⟩, dkW_eq ht hW⟩, hS.F ht⟩) hS.2.2 dX6_follows_25
  refine lv_aload_n hx hb dX6_follows_0 rfl (lv_at hl 0 rfl) ?_
  refine lv_aload_n hx hb dX6_follows_1 rfl (lv_at hl 0 rfl) ?_
  refine dk_get (k := 340) hx hb hts iX6_follows_6 hown hK (dk_at340 hW) rfl 11 (by decide) (hts (.fieldLink RX6 98 "DogKingsModel" "token" "I") (List.mem_of_getElem? (i := 1) rfl)) rfl dX6_follows_2 ?_
  refine lv_topi (fun v3 ev3 => ?_)
  refine lv_iconst (v := 3) hx hb dX6_follows_5 (by decide) ?_
  refine lv_icmp_ne (tgt := 13) hx hb dX6_follows_6 (by decide) (fun c4 => ?_) (fun c4 => ?_)
  ·
    have d5 : dkN [(-2147483648, 2), (4, 2147483647)] v3 := dkN_ne1 (3) (dkN_top v3) (dkN_lit (x := 3) (3) rfl) (dk_ne c4) rfl
    have f6 : dkN [(-2147483648, 2), (4, 2147483647)] (I0 340 11) := by rw [← ev3]; exact d5
    refine lv_iconst (v := 0) hx hb dX6_follows_13 (by decide) ?_
    exact C14 I0 _ _ ls 0 hW hS hF hO (dkN_sub (dkN_lit (x := 0) (0) rfl) rfl) (show dkN [(0, 2147483647)] (I0 340 8) from dkN_sub np0 rfl) (lv_sub hl [0, 1, 2] rfl)
  ·
    have d7 : dkN [(3, 3)] v3 := dkN_eq1 (dkN_top v3) (dkN_lit (x := 3) (3) rfl) (congrArg Int32.toInt c4) rfl
    have f8 : dkN [(3, 3)] (I0 340 11) := by rw [← ev3]; exact d7
    refine lv_iconst (v := 1) hx hb dX6_follows_9 (by decide) ?_
    refine lv_goto (tgt := 14) hx hb dX6_follows_10 (by decide) ?_
    exact C14 I0 _ _ ls 1 hW hS hF hO (dkN_sub (dkN_lit (x := 1) (1) rfl) rfl) (show dkN [(0, 2147483647)] (I0 340 8) from dkN_sub np0 rfl) (lv_sub hl [0, 1, 2] rfl)
set_option maxHeartbeats 4000000 in
set_option maxRecDepth 100000 in
theorem c_X6_takes_16 (l : Launch) (g : dkG) (z : Nat) (I0 : dkI) (p0 : Int32) (p1 : Int32) (dp0 : dkN [(0, 0)] p0) (dp1 : dkN [(2, 2)] p1) (np0 : dkN [(-2147483648, -1), (3, 2147483647)] (I0 340 12)) (np1 : dkN [(0, 2147483647)] (I0 340 8))  (hO : dkOk I0) : Met l yX6_takes wsX6_takes (dkR 1) (dkPc g z [.ref (z + 340), .int p0, .int p1] I0) (dkQi g z (fun r I1 => dkF [] I0 I1 ∧ dkOk I1 ∧ ((dkN [(0, 0)] r ∧ dkN [(-2147483648, -1), (3, 2147483647)] (I1 340 12) ∧ dkN [(0, 2147483647)] (I1 340 8) ∧ True)))) 0 0 (dkA z) := by
  refine Met.ofW (cc := cX6_takes) (maxL := 4) (ret := (some .int)) (by decide) rfl ?_
  intro p e s m args below meth c s₁ B hml hv
  obtain ⟨ha, hW, hK, hT⟩ := hv
  have hx := B.exec
  have hb := B.bytes
  have hr := B.returns
  have hts := atoms_spec (ws := wsX6_takes) B.pre
  have hown : s.vm.findClass RX6 = some m.cls := findClass_of_methodNamed B.named
  have hlocks := B.notSynchronized
  have hS : va_S (dkA z) s.heap s.heap [] := va_S.rf
  have hF : dkF [] I0 I0 := dkF_rf _ _
  have hl := lv_entry ([.ref (z + 340), .int p0, .int p1]) (n := 4) (Nat.le_of_ble_eq_true rfl)
  have hgo : entryFrame m args 4 = entryFrame m ([.ref (z + 340), .int p0, .int p1] : List Value).toArray 4 := by rw [ha]
  rw [hgo, lg_entry_eq]
  generalize (lg_sl ([.ref (z + 340), .int p0, .int p1]) ++ List.replicate (4 - (lg_sl ([.ref (z + 340), .int p0, .int p1])).length) Slot.unset).toArray = ls at hl ⊢
  have hl : lv_has ls 4 [(0, .ref (z + 340)), (1, .int p0), (2, .int p1)] := hl
  refine lv_aload_n hx hb dX6_takes_0 rfl (lv_at hl 0 rfl) ?_
  refine dk_Vi (As := []) (rest := []) ⟨hx, hb, hml, hown, hts⟩ (c_X6_isWell_4 l g z I0 (show dkN [(0, 2147483647)] (I0 340 8) from dkN_sub np1 rfl) hO) (cwV 0 hts gX6_takes_X6_isWell rfl rfl rfl (by decide +kernel) ⟨Nat.le_of_ble_eq_true rfl, Nat.le_of_ble_eq_true rfl⟩) (dk_at340 hW) rfl hK hT hW hS rfl hl.1 rfl (Nat.le_of_ble_eq_true rfl) dX6_takes_1 ⟨Nat.zero_le _, Nat.zero_le _⟩ (fun v1 I1 H1 L1 hp1 hW hS => ?_)
  obtain ⟨hF1, hO, hc1⟩ := hp1
  have hF := dkF_call hF hF1 rfl
  obtain ⟨dv1, f1_340_8, -⟩ := hc1
  refine lv_if_ne (tgt := 9) hx hb dX6_takes_4 (by decide) (fun c2 => ?_) (fun c2 => ?_)
  ·
    exact (dkN_nil (show dkN [] v1 from dkN_ne1 (0) dv1 (dkN_lit (x := 0) (0) rfl) (dk_ne c2) rfl)).elim
  ·
    refine lv_iconst (v := 0) hx hb dX6_takes_7 (by decide) ?_
    exact W.iret (v := 0) hx hb hr (fun t ht hW9 => ⟨⟨0, I1, rfl, ⟨hF, hO, ⟨dkN_sub (dkN_lit (x := 0) (0) rfl) rfl, (show dkN [(-2147483648, -1), (3, 2147483647)] (I1 340 12) from dkN_sub (by rw [hF1 340 12 rfl]; exact np0) rfl), (show dkN [(0, 2147483647)] (I1 340 8) from dkN_sub f1_340_8 rfl), trivial⟩⟩, dkW_eq ht hW⟩, hS.F ht⟩) hS.2.2 dX6_takes_8
set_option maxHeartbeats 4000000 in
set_option maxRecDepth 100000 in
theorem c_X6_takes_17 (l : Launch) (g : dkG) (z : Nat) (I0 : dkI) (p0 : Int32) (p1 : Int32) (dp0 : dkN [(1, 1)] p0) (dp1 : dkN [(2, 2)] p1) (np0 : dkN [(0, 2)] (I0 340 12)) (np1 : dkN [(0, 2147483647)] (I0 340 8))  (hO : dkOk I0) : Met l yX6_takes wsX6_takes (dkR 1) (dkPc g z [.ref (z + 340), .int p0, .int p1] I0) (dkQi g z (fun r I1 => dkF [] I0 I1 ∧ dkOk I1 ∧ ((dkN [(0, 0)] r ∧ dkN [(0, 2)] (I1 340 12) ∧ dkN [(0, 2147483647)] (I1 340 8) ∧ True)))) 0 0 (dkA z) := by
  refine Met.ofW (cc := cX6_takes) (maxL := 4) (ret := (some .int)) (by decide) rfl ?_
  intro p e s m args below meth c s₁ B hml hv
  obtain ⟨ha, hW, hK, hT⟩ := hv
  have hx := B.exec
  have hb := B.bytes
  have hr := B.returns
  have hts := atoms_spec (ws := wsX6_takes) B.pre
  have hown : s.vm.findClass RX6 = some m.cls := findClass_of_methodNamed B.named
  have hlocks := B.notSynchronized
  have hS : va_S (dkA z) s.heap s.heap [] := va_S.rf
  have hF : dkF [] I0 I0 := dkF_rf _ _
  have hl := lv_entry ([.ref (z + 340), .int p0, .int p1]) (n := 4) (Nat.le_of_ble_eq_true rfl)
  have hgo : entryFrame m args 4 = entryFrame m ([.ref (z + 340), .int p0, .int p1] : List Value).toArray 4 := by rw [ha]
  rw [hgo, lg_entry_eq]
  generalize (lg_sl ([.ref (z + 340), .int p0, .int p1]) ++ List.replicate (4 - (lg_sl ([.ref (z + 340), .int p0, .int p1])).length) Slot.unset).toArray = ls at hl ⊢
  have hl : lv_has ls 4 [(0, .ref (z + 340)), (1, .int p0), (2, .int p1)] := hl
  refine lv_aload_n hx hb dX6_takes_0 rfl (lv_at hl 0 rfl) ?_
  refine dk_Vi (As := []) (rest := []) ⟨hx, hb, hml, hown, hts⟩ (c_X6_isWell_4 l g z I0 (show dkN [(0, 2147483647)] (I0 340 8) from dkN_sub np1 rfl) hO) (cwV 0 hts gX6_takes_X6_isWell rfl rfl rfl (by decide +kernel) ⟨Nat.le_of_ble_eq_true rfl, Nat.le_of_ble_eq_true rfl⟩) (dk_at340 hW) rfl hK hT hW hS rfl hl.1 rfl (Nat.le_of_ble_eq_true rfl) dX6_takes_1 ⟨Nat.zero_le _, Nat.zero_le _⟩ (fun v1 I1 H1 L1 hp1 hW hS => ?_)
  obtain ⟨hF1, hO, hc1⟩ := hp1
  have hF := dkF_call hF hF1 rfl
  obtain ⟨dv1, f1_340_8, -⟩ := hc1
  refine lv_if_ne (tgt := 9) hx hb dX6_takes_4 (by decide) (fun c2 => ?_) (fun c2 => ?_)
  ·
    exact (dkN_nil (show dkN [] v1 from dkN_ne1 (0) dv1 (dkN_lit (x := 0) (0) rfl) (dk_ne c2) rfl)).elim
  ·
    refine lv_iconst (v := 0) hx hb dX6_takes_7 (by decide) ?_
    exact W.iret (v := 0) hx hb hr (fun t ht hW9 => ⟨⟨0, I1, rfl, ⟨hF, hO, ⟨dkN_sub (dkN_lit (x := 0) (0) rfl) rfl, (show dkN [(0, 2)] (I1 340 12) from dkN_sub (by rw [hF1 340 12 rfl]; exact np0) rfl), (show dkN [(0, 2147483647)] (I1 340 8) from dkN_sub f1_340_8 rfl), trivial⟩⟩, dkW_eq ht hW⟩, hS.F ht⟩) hS.2.2 dX6_takes_8
set_option maxHeartbeats 4000000 in
set_option maxRecDepth 100000 in
theorem c_X6_figure_5 (l : Launch) (g : dkG) (z : Nat) (I0 : dkI) (p0 : Int32) (p1 : Int32) (dp0 : dkN [(0, 0)] p0) (dp1 : dkN [(2, 2)] p1) (np0 : dkN [(0, 2147483647)] (I0 340 8))  (hO : dkOk I0) : Met l yX6_figure wsX6_figure (dkR 2) (dkPc g z [.ref (z + 340), .int p0, .int p1] I0) (dkQi g z (fun r I1 => dkF [] I0 I1 ∧ dkOk I1 ∧ ((dkN [(0, 0)] r ∧ dkN [(0, 2147483647)] (I1 340 8) ∧ True)))) 0 0 (dkA z) := by
  refine Met.ofW (cc := cX6_figure) (maxL := 3) (ret := (some .int)) (by decide) rfl ?_
  intro p e s m args below meth c s₁ B hml hv
  obtain ⟨ha, hW, hK, hT⟩ := hv
  have hx := B.exec
  have hb := B.bytes
  have hr := B.returns
  have hts := atoms_spec (ws := wsX6_figure) B.pre
  have hown : s.vm.findClass RX6 = some m.cls := findClass_of_methodNamed B.named
  have hlocks := B.notSynchronized
  have hS : va_S (dkA z) s.heap s.heap [] := va_S.rf
  have hF : dkF [] I0 I0 := dkF_rf _ _
  have hl := lv_entry ([.ref (z + 340), .int p0, .int p1]) (n := 3) (Nat.le_of_ble_eq_true rfl)
  have hgo : entryFrame m args 3 = entryFrame m ([.ref (z + 340), .int p0, .int p1] : List Value).toArray 3 := by rw [ha]
  rw [hgo, lg_entry_eq]
  generalize (lg_sl ([.ref (z + 340), .int p0, .int p1]) ++ List.replicate (3 - (lg_sl ([.ref (z + 340), .int p0, .int p1])).length) Slot.unset).toArray = ls at hl ⊢
  have hl : lv_has ls 3 [(0, .ref (z + 340)), (1, .int p0), (2, .int p1)] := hl
  have C22 : ∀ (I : dkI) (H : Heap) (locs : List Loc) (ls : Array Slot), dkW g z I H → va_S (dkA z) s.heap H locs → dkF [] I0 I → dkOk I → dkN [(0, 2147483647)] (I 340 8) → lv_has ls 3 [(0, .ref (z + 340)), (1, .int p0), (2, .int p1)] → W p l e (headSpec wsX6_figure (dkR 2)).room s m args below meth c H locs 0 0 (MQ below (dkQi g z (fun r I1 => dkF [] I0 I1 ∧ dkOk I1 ∧ ((dkN [(0, 0)] r ∧ dkN [(0, 2147483647)] (I1 340 8) ∧ True)))) args s 0 0 (dkA z)) (F0 m 22 ls []) := by
    intro I22_ H locs ls hW hS hF_22 hO f22_0 hl
    have hF := hF_22
    refine lv_aload_n hx hb dX6_figure_22 rfl (lv_at hl 0 rfl) ?_
    refine lv_aload_n hx hb dX6_figure_23 rfl (lv_at hl 0 rfl) ?_
    refine dk_get (k := 340) hx hb hts iX6_figure_6 hown hK (dk_at340 hW) rfl 12 (by decide) (hts (.fieldLink RX6 95 "DogKingsModel" "value" "I") (List.mem_of_getElem? (i := 2) rfl)) rfl dX6_figure_24 ?_
    refine lv_topi (fun v1 ev1 => ?_)
    refine lv_iload_n hx hb dX6_figure_27 rfl (lv_at hl 1 rfl) ?_
    refine lv_iload_n hx hb dX6_figure_28 rfl (lv_at hl 2 rfl) ?_
    refine dk_Si (As := [.int v1, .int p0, .int p1]) (rest := [.ref (z + 340)]) ⟨hx, hb, hml, hown, hts⟩ (c_X6_in_1 l g z I22_ v1 p0 p1 dp0 dp1 hO) (va_cwS 3 hts gX6_figure_X6_in rfl rfl rfl (by decide +kernel) ⟨Nat.le_of_ble_eq_true rfl, Nat.le_of_ble_eq_true rfl⟩) hK hT hW hS rfl hl.1 rfl (Nat.le_of_ble_eq_true rfl) dX6_figure_29 ⟨Nat.zero_le _, Nat.zero_le _⟩ (fun v2 I2 H2 L2 hp2 hW hS => ?_)
    obtain ⟨hF2, hO, hc2⟩ := hp2
    have hF := dkF_call hF hF2 rfl
    rcases hc2 with ⟨dv2, a2_0, -⟩ | hc2
    ·
      have e3 : v1 = I2 340 12 := by rw [hF2 340 12 rfl]; exact ev1
      have d4 : dkN [(-2147483648, -1), (3, 2147483647)] v1 := dkN_eq1 (dkN_top v1) a2_0 rfl rfl
      have f5 : dkN [(-2147483648, -1), (3, 2147483647)] (I2 340 12) := by rw [← e3]; exact d4
      refine lv_iconst (v := 2) hx hb dX6_figure_32 (by decide) ?_
      refine dk_Vi (As := [.int v2, .int 2]) (rest := []) ⟨hx, hb, hml, hown, hts⟩ (c_X6_takes_16 l g z I2 v2 2 dv2 (dkN_lit (x := 2) (2) rfl) (show dkN [(-2147483648, -1), (3, 2147483647)] (I2 340 12) from dkN_sub f5 rfl) (show dkN [(0, 2147483647)] (I2 340 8) from dkN_sub (by rw [hF2 340 8 rfl]; exact f22_0) rfl) hO) (cwV 2 hts gX6_figure_X6_takes rfl rfl rfl (by decide +kernel) ⟨Nat.le_of_ble_eq_true rfl, Nat.le_of_ble_eq_true rfl⟩) (dk_at340 hW) rfl hK hT hW hS rfl hl.1 rfl (Nat.le_of_ble_eq_true rfl) dX6_figure_33 ⟨Nat.zero_le _, Nat.zero_le _⟩ (fun v6 I6 H6 L6 hp6 hW hS => ?_)
      obtain ⟨hF6, hO, hc6⟩ := hp6
      have hF := dkF_call hF hF6 rfl
      obtain ⟨dv6, f6_340_12, f6_340_8, -⟩ := hc6
      exact W.iret (v := v6) hx hb hr (fun t ht hW9 => ⟨⟨v6, I6, rfl, ⟨hF, hO, ⟨dkN_sub dv6 rfl, (show dkN [(0, 2147483647)] (I6 340 8) from dkN_sub f6_340_8 rfl), trivial⟩⟩, dkW_eq ht hW⟩, hS.F ht⟩) hS.2.2 dX6_figure_36
    ·
      obtain ⟨dv2, a2_0, -⟩ := hc2
      have e7 : v1 = I2 340 12 := by rw [hF2 340 12 rfl]; exact ev1
      have d8 : dkN [(0, 2)] v1 := dkN_eq1 (dkN_top v1) a2_0 rfl rfl
      have f9 : dkN [(0, 2)] (I2 340 12) := by rw [← e7]; exact d8
      refine lv_iconst (v := 2) hx hb dX6_figure_32 (by decide) ?_
      refine dk_Vi (As := [.int v2, .int 2]) (rest := []) ⟨hx, hb, hml, hown, hts⟩ (c_X6_takes_17 l g z I2 v2 2 dv2 (dkN_lit (x := 2) (2) rfl) (show dkN [(0, 2)] (I2 340 12) from dkN_sub f9 rfl) (show dkN [(0, 2147483647)] (I2 340 8) from dkN_sub (by rw [hF2 340 8 rfl]; exact f22_0) rfl) hO) (cwV 2 hts gX6_figure_X6_takes rfl rfl rfl (by decide +kernel) ⟨Nat.le_of_ble_eq_true rfl, Nat.le_of_ble_eq_true rfl⟩) (dk_at340 hW) rfl hK hT hW hS rfl hl.1 rfl (Nat.le_of_ble_eq_true rfl) dX6_figure_33 ⟨Nat.zero_le _, Nat.zero_le _⟩ (fun v10 I10 H10 L10 hp10 hW hS => ?_)
      obtain ⟨hF10, hO, hc10⟩ := hp10
      have hF := dkF_call hF hF10 rfl
      obtain ⟨dv10, f10_340_12, f10_340_8, -⟩ := hc10
      exact W.iret (v := v10) hx hb hr (fun t ht hW9 => ⟨⟨v10, I10, rfl, ⟨hF, hO, ⟨dkN_sub dv10 rfl, (show dkN [(0, 2147483647)] (I10 340 8) from dkN_sub f10_340_8 rfl), trivial⟩⟩, dkW_eq ht hW⟩, hS.F ht⟩) hS.2.2 dX6_figure_36
  refine lv_aload_n hx hb dX6_figure_0 rfl (lv_at hl 0 rfl) ?_
  refine dk_Vi (As := []) (rest := []) ⟨hx, hb, hml, hown, hts⟩ (c_X6_isWell_4 l g z I0 (show dkN [(0, 2147483647)] (I0 340 8) from dkN_sub np0 rfl) hO) (cwV 0 hts gX6_figure_X6_isWell rfl rfl rfl (by decide +kernel) ⟨Nat.le_of_ble_eq_true rfl, Nat.le_of_ble_eq_true rfl⟩) (dk_at340 hW) rfl hK hT hW hS rfl hl.1 rfl (Nat.le_of_ble_eq_true rfl) dX6_figure_1 ⟨Nat.zero_le _, Nat.zero_le _⟩ (fun v11 I11 H11 L11 hp11 hW hS => ?_)
  obtain ⟨hF11, hO, hc11⟩ := hp11
  have hF := dkF_call hF hF11 rfl
  obtain ⟨dv11, f11_340_8, -⟩ := hc11
  refine lv_if_eq (tgt := 22) hx hb dX6_figure_4 (by decide) (fun c12 => ?_) (fun c12 => ?_)
  ·
    exact C22 I11 _ _ ls  hW hS hF hO (show dkN [(0, 2147483647)] (I11 340 8) from dkN_sub f11_340_8 rfl) (lv_sub hl [0, 1, 2] rfl)
  ·
    exact (dkN_nil (show dkN [] v11 from dkN_ne1 (0) dv11 (dkN_lit (x := 0) (0) rfl) (dk_ne c12) rfl)).elim
set_option maxHeartbeats 4000000 in
set_option maxRecDepth 100000 in
theorem c_X6_follows_3 (l : Launch) (g : dkG) (z : Nat) (I0 : dkI) (p0 : Int32) (p1 : Int32) (dp0 : dkN [(0, 0)] p0) (dp1 : dkN [(2, 2)] p1) (np0 : dkN [(0, 2147483647)] (I0 340 8))  (hO : dkOk I0) : Met l yX6_follows wsX6_follows (dkR 3) (dkPc g z [.ref (z + 340), .int p0, .int p1] I0) (dkQi g z (fun r I1 => dkF [] I0 I1 ∧ dkOk I1 ∧ ((dkN [(0, 0)] r ∧ dkN [(0, 2147483647)] (I1 340 8) ∧ True)))) 0 0 (dkA z) := by
  refine Met.ofW (cc := cX6_follows) (maxL := 3) (ret := (some .int)) (by decide) rfl ?_
  intro p e s m args below meth c s₁ B hml hv
  obtain ⟨ha, hW, hK, hT⟩ := hv
  have hx := B.exec
  have hb := B.bytes
  have hr := B.returns
  have hts := atoms_spec (ws := wsX6_follows) B.pre
  have hown : s.vm.findClass RX6 = some m.cls := findClass_of_methodNamed B.named
  have hlocks := B.notSynchronized
  have hS : va_S (dkA z) s.heap s.heap [] := va_S.rf
  have hF : dkF [] I0 I0 := dkF_rf _ _
  have hl := lv_entry ([.ref (z + 340), .int p0, .int p1]) (n := 3) (Nat.le_of_ble_eq_true rfl)
  have hgo : entryFrame m args 3 = entryFrame m ([.ref (z + 340), .int p0, .int p1] : List Value).toArray 3 := by rw [ha]
  rw [hgo, lg_entry_eq]
  generalize (lg_sl ([.ref (z + 340), .int p0, .int p1]) ++ List.replicate (3 - (lg_sl ([.ref (z + 340), .int p0, .int p1])).length) Slot.unset).toArray = ls at hl ⊢
  have hl : lv_has ls 3 [(0, .ref (z + 340)), (1, .int p0), (2, .int p1)] := hl
  have C14 : ∀ (I : dkI) (H : Heap) (locs : List Loc) (ls : Array Slot) (x14_s0 : Int32), dkW g z I H → va_S (dkA z) s.heap H locs → dkF [] I0 I → dkOk I → dkN [(0, 1)] x14_s0 → dkN [(0, 2147483647)] (I 340 8) → lv_has ls 3 [(0, .ref (z + 340)), (1, .int p0), (2, .int p1)] → W p l e (headSpec wsX6_follows (dkR 3)).room s m args below meth c H locs 0 0 (MQ below (dkQi g z (fun r I1 => dkF [] I0 I1 ∧ dkOk I1 ∧ ((dkN [(0, 0)] r ∧ dkN [(0, 2147483647)] (I1 340 8) ∧ True)))) args s 0 0 (dkA z)) (F0 m 14 ls [.int x14_s0, .ref (z + 340)]) := by
    intro I14_ H locs ls x14_s0 hW hS hF_14 hO k14_0 f14_0 hl
    have hF := hF_14
    refine lv_iconst (v := 1) hx hb dX6_follows_14 (by decide) ?_
    refine dk_Vi (As := [.int x14_s0, .int 1]) (rest := []) ⟨hx, hb, hml, hown, hts⟩ (c_X6_takes_13 l g z I14_ x14_s0 1 k14_0 (dkN_lit (x := 1) (1) rfl) (show dkN [(0, 2147483647)] (I14_ 340 8) from dkN_sub f14_0 rfl) hO) (cwV 2 hts gX6_follows_X6_takes rfl rfl rfl (by decide +kernel) ⟨Nat.le_of_ble_eq_true rfl, Nat.le_of_ble_eq_true rfl⟩) (dk_at340 hW) rfl hK hT hW hS rfl hl.1 rfl (Nat.le_of_ble_eq_true rfl) dX6_follows_15 ⟨Nat.zero_le _, Nat.zero_le _⟩ (fun v1 I1 H1 L1 hp1 hW hS => ?_)
    obtain ⟨hF1, hO, hc1⟩ := hp1
    have hF := dkF_call hF hF1 rfl
    obtain ⟨dv1, f1_340_8, -⟩ := hc1
    refine lv_pop hx hb dX6_follows_18 rfl ?_
    refine lv_aload_n hx hb dX6_follows_19 rfl (lv_at hl 0 rfl) ?_
    refine lv_iload_n hx hb dX6_follows_20 rfl (lv_at hl 1 rfl) ?_
    refine lv_iload_n hx hb dX6_follows_21 rfl (lv_at hl 2 rfl) ?_
    refine dk_Vi (As := [.int p0, .int p1]) (rest := []) ⟨hx, hb, hml, hown, hts⟩ (c_X6_figure_5 l g z I1 p0 p1 dp0 dp1 (show dkN [(0, 2147483647)] (I1 340 8) from dkN_sub f1_340_8 rfl) hO) (cwV 2 hts gX6_follows_X6_figure rfl rfl rfl (by decide +kernel) ⟨Nat.le_of_ble_eq_true rfl, Nat.le_of_ble_eq_true rfl⟩) (dk_at340 hW) rfl hK hT hW hS rfl hl.1 rfl (Nat.le_of_ble_eq_true rfl) dX6_follows_22 ⟨Nat.zero_le _, Nat.zero_le _⟩ (fun v2 I2 H2 L2 hp2 hW hS => ?_)
    obtain ⟨hF2, hO, hc2⟩ := hp2
    have hF := dkF_call hF hF2 rfl
    obtain ⟨dv2, f2_340_8, -⟩ := hc2
    exact W.iret (v := v2) hx hb hr (fun t ht hW9 => ⟨⟨v2, I2, rfl, ⟨hF, hO, ⟨dkN_sub dv2 rfl, (show dkN [(0, 2147483647)] (I2 340 8) from dkN_sub f2_340_8 rfl), trivial⟩⟩, dkW_eq ht hW⟩, hS.F ht⟩) hS.2.2 dX6_follows_25
  refine lv_aload_n hx hb dX6_follows_0 rfl (lv_at hl 0 rfl) ?_
  refine lv_aload_n hx hb dX6_follows_1 rfl (lv_at hl 0 rfl) ?_
  refine dk_get (k := 340) hx hb hts iX6_follows_6 hown hK (dk_at340 hW) rfl 11 (by decide) (hts (.fieldLink RX6 98 "DogKingsModel" "token" "I") (List.mem_of_getElem? (i := 1) rfl)) rfl dX6_follows_2 ?_
  refine lv_topi (fun v3 ev3 => ?_)
  refine lv_iconst (v := 3) hx hb dX6_follows_5 (by decide) ?_
  refine lv_icmp_ne (tgt := 13) hx hb dX6_follows_6 (by decide) (fun c4 => ?_) (fun c4 => ?_)
  ·
    have d5 : dkN [(-2147483648, 2), (4, 2147483647)] v3 := dkN_ne1 (3) (dkN_top v3) (dkN_lit (x := 3) (3) rfl) (dk_ne c4) rfl
    have f6 : dkN [(-2147483648, 2), (4, 2147483647)] (I0 340 11) := by rw [← ev3]; exact d5
    refine lv_iconst (v := 0) hx hb dX6_follows_13 (by decide) ?_
    exact C14 I0 _ _ ls 0 hW hS hF hO (dkN_sub (dkN_lit (x := 0) (0) rfl) rfl) (show dkN [(0, 2147483647)] (I0 340 8) from dkN_sub np0 rfl) (lv_sub hl [0, 1, 2] rfl)
  ·
    have d7 : dkN [(3, 3)] v3 := dkN_eq1 (dkN_top v3) (dkN_lit (x := 3) (3) rfl) (congrArg Int32.toInt c4) rfl
    have f8 : dkN [(3, 3)] (I0 340 11) := by rw [← ev3]; exact d7
    refine lv_iconst (v := 1) hx hb dX6_follows_9 (by decide) ?_
    refine lv_goto (tgt := 14) hx hb dX6_follows_10 (by decide) ?_
    exact C14 I0 _ _ ls 1 hW hS hF hO (dkN_sub (dkN_lit (x := 1) (1) rfl) rfl) (show dkN [(0, 2147483647)] (I0 340 8) from dkN_sub np0 rfl) (lv_sub hl [0, 1, 2] rfl)
set_option maxHeartbeats 4000000 in
set_option maxRecDepth 100000 in
theorem c_X6_takes_18 (l : Launch) (g : dkG) (z : Nat) (I0 : dkI) (p0 : Int32) (p1 : Int32) (dp0 : dkN [(0, 0)] p0) (dp1 : dkN [(1, 1)] p1) (np0 : dkN [(0, 2147483647)] (I0 340 8))  (hO : dkOk I0) : Met l yX6_takes wsX6_takes (dkR 1) (dkPc g z [.ref (z + 340), .int p0, .int p1] I0) (dkQi g z (fun r I1 => dkF [] I0 I1 ∧ dkOk I1 ∧ ((dkN [(0, 0)] r ∧ dkN [(0, 2147483647)] (I1 340 8) ∧ True)))) 0 0 (dkA z) := by
  refine Met.ofW (cc := cX6_takes) (maxL := 4) (ret := (some .int)) (by decide) rfl ?_
  intro p e s m args below meth c s₁ B hml hv
  obtain ⟨ha, hW, hK, hT⟩ := hv
  have hx := B.exec
  have hb := B.bytes
  have hr := B.returns
  have hts := atoms_spec (ws := wsX6_takes) B.pre
  have hown : s.vm.findClass RX6 = some m.cls := findClass_of_methodNamed B.named
  have hlocks := B.notSynchronized
  have hS : va_S (dkA z) s.heap s.heap [] := va_S.rf
  have hF : dkF [] I0 I0 := dkF_rf _ _
  have hl := lv_entry ([.ref (z + 340), .int p0, .int p1]) (n := 4) (Nat.le_of_ble_eq_true rfl)
  have hgo : entryFrame m args 4 = entryFrame m ([.ref (z + 340), .int p0, .int p1] : List Value).toArray 4 := by rw [ha]
  rw [hgo, lg_entry_eq]
  generalize (lg_sl ([.ref (z + 340), .int p0, .int p1]) ++ List.replicate (4 - (lg_sl ([.ref (z + 340), .int p0, .int p1])).length) Slot.unset).toArray = ls at hl ⊢
  have hl : lv_has ls 4 [(0, .ref (z + 340)), (1, .int p0), (2, .int p1)] := hl
  refine lv_aload_n hx hb dX6_takes_0 rfl (lv_at hl 0 rfl) ?_
  refine dk_Vi (As := []) (rest := []) ⟨hx, hb, hml, hown, hts⟩ (c_X6_isWell_4 l g z I0 (show dkN [(0, 2147483647)] (I0 340 8) from dkN_sub np0 rfl) hO) (cwV 0 hts gX6_takes_X6_isWell rfl rfl rfl (by decide +kernel) ⟨Nat.le_of_ble_eq_true rfl, Nat.le_of_ble_eq_true rfl⟩) (dk_at340 hW) rfl hK hT hW hS rfl hl.1 rfl (Nat.le_of_ble_eq_true rfl) dX6_takes_1 ⟨Nat.zero_le _, Nat.zero_le _⟩ (fun v1 I1 H1 L1 hp1 hW hS => ?_)
  obtain ⟨hF1, hO, hc1⟩ := hp1
  have hF := dkF_call hF hF1 rfl
  obtain ⟨dv1, f1_340_8, -⟩ := hc1
  refine lv_if_ne (tgt := 9) hx hb dX6_takes_4 (by decide) (fun c2 => ?_) (fun c2 => ?_)
  ·
    exact (dkN_nil (show dkN [] v1 from dkN_ne1 (0) dv1 (dkN_lit (x := 0) (0) rfl) (dk_ne c2) rfl)).elim
  ·
    refine lv_iconst (v := 0) hx hb dX6_takes_7 (by decide) ?_
    exact W.iret (v := 0) hx hb hr (fun t ht hW9 => ⟨⟨0, I1, rfl, ⟨hF, hO, ⟨dkN_sub (dkN_lit (x := 0) (0) rfl) rfl, (show dkN [(0, 2147483647)] (I1 340 8) from dkN_sub f1_340_8 rfl), trivial⟩⟩, dkW_eq ht hW⟩, hS.F ht⟩) hS.2.2 dX6_takes_8
set_option maxHeartbeats 4000000 in
set_option maxRecDepth 100000 in
theorem c_X6_takes_19 (l : Launch) (g : dkG) (z : Nat) (I0 : dkI) (p0 : Int32) (p1 : Int32) (dp0 : dkN [(1, 1)] p0) (dp1 : dkN [(1, 1)] p1) (np0 : dkN [(0, 2147483647)] (I0 340 8))  (hO : dkOk I0) : Met l yX6_takes wsX6_takes (dkR 1) (dkPc g z [.ref (z + 340), .int p0, .int p1] I0) (dkQi g z (fun r I1 => dkF [] I0 I1 ∧ dkOk I1 ∧ ((dkN [(0, 0)] r ∧ dkN [(0, 2147483647)] (I1 340 8) ∧ True)))) 0 0 (dkA z) := by
  refine Met.ofW (cc := cX6_takes) (maxL := 4) (ret := (some .int)) (by decide) rfl ?_
  intro p e s m args below meth c s₁ B hml hv
  obtain ⟨ha, hW, hK, hT⟩ := hv
  have hx := B.exec
  have hb := B.bytes
  have hr := B.returns
  have hts := atoms_spec (ws := wsX6_takes) B.pre
  have hown : s.vm.findClass RX6 = some m.cls := findClass_of_methodNamed B.named
  have hlocks := B.notSynchronized
  have hS : va_S (dkA z) s.heap s.heap [] := va_S.rf
  have hF : dkF [] I0 I0 := dkF_rf _ _
  have hl := lv_entry ([.ref (z + 340), .int p0, .int p1]) (n := 4) (Nat.le_of_ble_eq_true rfl)
  have hgo : entryFrame m args 4 = entryFrame m ([.ref (z + 340), .int p0, .int p1] : List Value).toArray 4 := by rw [ha]
  rw [hgo, lg_entry_eq]
  generalize (lg_sl ([.ref (z + 340), .int p0, .int p1]) ++ List.replicate (4 - (lg_sl ([.ref (z + 340), .int p0, .int p1])).length) Slot.unset).toArray = ls at hl ⊢
  have hl : lv_has ls 4 [(0, .ref (z + 340)), (1, .int p0), (2, .int p1)] := hl
  refine lv_aload_n hx hb dX6_takes_0 rfl (lv_at hl 0 rfl) ?_
  refine dk_Vi (As := []) (rest := []) ⟨hx, hb, hml, hown, hts⟩ (c_X6_isWell_4 l g z I0 (show dkN [(0, 2147483647)] (I0 340 8) from dkN_sub np0 rfl) hO) (cwV 0 hts gX6_takes_X6_isWell rfl rfl rfl (by decide +kernel) ⟨Nat.le_of_ble_eq_true rfl, Nat.le_of_ble_eq_true rfl⟩) (dk_at340 hW) rfl hK hT hW hS rfl hl.1 rfl (Nat.le_of_ble_eq_true rfl) dX6_takes_1 ⟨Nat.zero_le _, Nat.zero_le _⟩ (fun v1 I1 H1 L1 hp1 hW hS => ?_)
  obtain ⟨hF1, hO, hc1⟩ := hp1
  have hF := dkF_call hF hF1 rfl
  obtain ⟨dv1, f1_340_8, -⟩ := hc1
  refine lv_if_ne (tgt := 9) hx hb dX6_takes_4 (by decide) (fun c2 => ?_) (fun c2 => ?_)
  ·
    exact (dkN_nil (show dkN [] v1 from dkN_ne1 (0) dv1 (dkN_lit (x := 0) (0) rfl) (dk_ne c2) rfl)).elim
  ·
    refine lv_iconst (v := 0) hx hb dX6_takes_7 (by decide) ?_
    exact W.iret (v := 0) hx hb hr (fun t ht hW9 => ⟨⟨0, I1, rfl, ⟨hF, hO, ⟨dkN_sub (dkN_lit (x := 0) (0) rfl) rfl, (show dkN [(0, 2147483647)] (I1 340 8) from dkN_sub f1_340_8 rfl), trivial⟩⟩, dkW_eq ht hW⟩, hS.F ht⟩) hS.2.2 dX6_takes_8
set_option maxHeartbeats 4000000 in
set_option maxRecDepth 100000 in
theorem c_X6_takes_20 (l : Launch) (g : dkG) (z : Nat) (I0 : dkI) (p0 : Int32) (p1 : Int32) (dp0 : dkN [(1, 1)] p0) (dp1 : dkN [(3, 3)] p1)  (hO : dkOk I0) : Met l yX6_takes wsX6_takes (dkR 2) (dkPc g z [.ref (z + 340), .int p0, .int p1] I0) (dkQi g z (fun r I1 => dkF [(340, 340, 9, 12)] I0 I1 ∧ dkOk I1 ∧ ((True ∧ True)))) 0 0 (dkA z) := by
  refine Met.ofW (cc := cX6_takes) (maxL := 4) (ret := (some .int)) (by decide) rfl ?_
  intro p e s m args below meth c s₁ B hml hv
  obtain ⟨ha, hW, hK, hT⟩ := hv
  have hx := B.exec
  have hb := B.bytes
  have hr := B.returns
  have hts := atoms_spec (ws := wsX6_takes) B.pre
  have hown : s.vm.findClass RX6 = some m.cls := findClass_of_methodNamed B.named
  have hlocks := B.notSynchronized
  have hS : va_S (dkA z) s.heap s.heap [] := va_S.rf
  have hF : dkF [(340, 340, 9, 12)] I0 I0 := dkF_rf _ _
  have hl := lv_entry ([.ref (z + 340), .int p0, .int p1]) (n := 4) (Nat.le_of_ble_eq_true rfl)
  have hgo : entryFrame m args 4 = entryFrame m ([.ref (z + 340), .int p0, .int p1] : List Value).toArray 4 := by rw [ha]
  rw [hgo, lg_entry_eq]
  generalize (lg_sl ([.ref (z + 340), .int p0, .int p1]) ++ List.replicate (4 - (lg_sl ([.ref (z + 340), .int p0, .int p1])).length) Slot.unset).toArray = ls at hl ⊢
  have hl : lv_has ls 4 [(0, .ref (z + 340)), (1, .int p0), (2, .int p1)] := hl
  refine lv_aload_n hx hb dX6_takes_0 rfl (lv_at hl 0 rfl) ?_
  refine dk_Vi (As := []) (rest := []) ⟨hx, hb, hml, hown, hts⟩ (c_X6_isWell_3 l g z I0 hO) (cwV 0 hts gX6_takes_X6_isWell rfl rfl rfl (by decide +kernel) ⟨Nat.le_of_ble_eq_true rfl, Nat.le_of_ble_eq_true rfl⟩) (dk_at340 hW) rfl hK hT hW hS rfl hl.1 rfl (Nat.le_of_ble_eq_true rfl) dX6_takes_1 ⟨Nat.zero_le _, Nat.zero_le _⟩ (fun v1 I1 H1 L1 hp1 hW hS => ?_)
  obtain ⟨hF1, hO, hc1⟩ := hp1
  have hF := dkF_call hF hF1 rfl
  rcases hc1 with ⟨dv1, f1_340_8, -⟩ | hc1
  ·
    refine lv_if_ne (tgt := 9) hx hb dX6_takes_4 (by decide) (fun c2 => ?_) (fun c2 => ?_)
    ·
      exact (dkN_nil (show dkN [] v1 from dkN_ne1 (0) dv1 (dkN_lit (x := 0) (0) rfl) (dk_ne c2) rfl)).elim
    ·
      refine lv_iconst (v := 0) hx hb dX6_takes_7 (by decide) ?_
      exact W.iret (v := 0) hx hb hr (fun t ht hW9 => ⟨⟨0, I1, rfl, ⟨hF, hO, ⟨trivial, trivial⟩⟩, dkW_eq ht hW⟩, hS.F ht⟩) hS.2.2 dX6_takes_8
  ·
    obtain ⟨dv1, f1_340_8, -⟩ := hc1
    refine lv_if_ne (tgt := 9) hx hb dX6_takes_4 (by decide) (fun c3 => ?_) (fun c3 => ?_)
    ·
      refine lv_iload_n hx hb dX6_takes_9 rfl (lv_at hl 1 rfl) ?_
      refine lv_if_ne (tgt := 28) hx hb dX6_takes_10 (by decide) (fun c4 => ?_) (fun c4 => ?_)
      ·
        refine lv_aload_n hx hb dX6_takes_28 rfl (lv_at hl 0 rfl) ?_
        refine dk_get (k := 340) hx hb hts iX6_takes_6 hown hK (dk_at340 hW) rfl 12 (by decide) (hts (.fieldLink RX6 95 "DogKingsModel" "value" "I") (List.mem_of_getElem? (i := 4) rfl)) rfl dX6_takes_29 ?_
        refine lv_topi (fun v5 ev5 => ?_)
        refine lv_istore_n (lv' := [(3, .int v5), (0, .ref (z + 340)), (1, .int p0), (2, .int p1)]) hx hb dX6_takes_32 rfl hl (by decide) rfl (fun ls hl => ?_)
        refine lv_aload_n hx hb dX6_takes_33 rfl (lv_at hl 1 rfl) ?_
        refine dk_Vv (As := []) (rest := []) ⟨hx, hb, hml, hown, hts⟩ (c_X6_advances_0 l g z I1 hO) (cwV 0 hts gX6_takes_X6_advances rfl rfl rfl (by decide +kernel) ⟨Nat.le_of_ble_eq_true rfl, Nat.le_of_ble_eq_true rfl⟩) (dk_at340 hW) rfl hK hT hW hS rfl hl.1 rfl (Nat.le_of_ble_eq_true rfl) dX6_takes_34 ⟨Nat.zero_le _, Nat.zero_le _⟩ (fun I6 H6 L6 hp6 hW hS => ?_)
        obtain ⟨hF6, hO, hc6⟩ := hp6
        have hF := dkF_call hF hF6 rfl
        obtain ⟨f6_340_11, -⟩ := hc6
        refine lv_iload_n hx hb dX6_takes_37 rfl (lv_at hl 0 rfl) ?_
        exact W.iret (v := v5) hx hb hr (fun t ht hW9 => ⟨⟨v5, I6, rfl, ⟨hF, hO, ⟨trivial, trivial⟩⟩, dkW_eq ht hW⟩, hS.F ht⟩) hS.2.2 dX6_takes_38
      ·
        exact (dkN_nil (show dkN [] p0 from dkN_eq1 dp0 (dkN_lit (x := 0) (0) rfl) (congrArg Int32.toInt c4) rfl)).elim
    ·
      exact (dkN_nil (show dkN [] v1 from dkN_eq1 dv1 (dkN_lit (x := 0) (0) rfl) (congrArg Int32.toInt c3) rfl)).elim
set_option maxHeartbeats 4000000 in
set_option maxRecDepth 100000 in
theorem c_X6_isWell_5 (l : Launch) (g : dkG) (z : Nat) (I0 : dkI) (np0 : dkN [(-2147483648, -1)] (I0 340 8))  (hO : dkOk I0) : Met l yX6_isWell wsX6_isWell (dkR 0) (dkPc g z [.ref (z + 340)] I0) (dkQi g z (fun r I1 => dkF [] I0 I1 ∧ dkOk I1 ∧ ((dkN [(1, 1)] r ∧ dkN [(-2147483648, -1)] (I1 340 8) ∧ True)))) 0 0 (dkA z) := by
  refine Met.ofW (cc := cX6_isWell) (maxL := 1) (ret := (some .boolean)) (by decide) rfl ?_
  intro p e s m args below meth c s₁ B hml hv
  obtain ⟨ha, hW, hK, hT⟩ := hv
  have hx := B.exec
  have hb := B.bytes
  have hr := B.returns
  have hts := atoms_spec (ws := wsX6_isWell) B.pre
  have hown : s.vm.findClass RX6 = some m.cls := findClass_of_methodNamed B.named
  have hlocks := B.notSynchronized
  have hS : va_S (dkA z) s.heap s.heap [] := va_S.rf
  have hF : dkF [] I0 I0 := dkF_rf _ _
  have hl := lv_entry ([.ref (z + 340)]) (n := 1) (Nat.le_of_ble_eq_true rfl)
  have hgo : entryFrame m args 1 = entryFrame m ([.ref (z + 340)] : List Value).toArray 1 := by rw [ha]
  rw [hgo, lg_entry_eq]
  generalize (lg_sl ([.ref (z + 340)]) ++ List.replicate (1 - (lg_sl ([.ref (z + 340)])).length) Slot.unset).toArray = ls at hl ⊢
  have hl : lv_has ls 1 [(0, .ref (z + 340))] := hl
  refine lv_aload_n hx hb dX6_isWell_0 rfl (lv_at hl 0 rfl) ?_
  refine dk_get (k := 340) hx hb hts iX6_isWell_6 hown hK (dk_at340 hW) rfl 8 (by decide) (hts (.fieldLink RX6 101 "DogKingsModel" "faultPlace" "I") (List.mem_of_getElem? (i := 1) rfl)) rfl dX6_isWell_1 ?_
  refine lv_topi (fun v1 ev1 => ?_)
  have dv1 : dkN [(-2147483648, -1)] v1 := by rw [ev1]; exact np0
  refine lv_if_ge (tgt := 11) hx hb dX6_isWell_4 (by decide) (fun c2 => ?_) (fun c2 => ?_)
  ·
    exact (dkN_nil (show dkN [] 0 from dkN_le1 0 (dkN_lit (x := 0) (0) rfl) dv1 (dkc_le c2) rfl)).elim
  ·
    refine lv_iconst (v := 1) hx hb dX6_isWell_7 (by decide) ?_
    refine lv_goto (tgt := 12) hx hb dX6_isWell_8 (by decide) ?_
    exact W.zret (v := 1) (ty := .boolean) hx hb hr rfl (fun t ht hW9 => ⟨⟨1, I0, rfl, ⟨hF, hO, ⟨dkN_sub (dkN_lit (x := 1) (1) rfl) rfl, (show dkN [(-2147483648, -1)] (I0 340 8) from dkN_sub np0 rfl), trivial⟩⟩, dkW_eq ht hW⟩, hS.F ht⟩) hS.2.2 dX6_isWell_12
set_option maxHeartbeats 4000000 in
set_option maxRecDepth 100000 in
theorem c_X6_takes_21 (l : Launch) (g : dkG) (z : Nat) (I0 : dkI) (p0 : Int32) (p1 : Int32) (dp0 : dkN [(0, 0)] p0) (dp1 : dkN [(1, 1)] p1) (np0 : dkN [(-2147483648, -1)] (I0 340 8))  (hO : dkOk I0) : Met l yX6_takes wsX6_takes (dkR 1) (dkPc g z [.ref (z + 340), .int p0, .int p1] I0) (dkQi g z (fun r I1 => dkF [(340, 340, 7, 8)] I0 I1 ∧ dkOk I1 ∧ ((dkN [(0, 0)] r ∧ dkN [(1, 1)] (I1 340 7) ∧ dkN [(0, 90)] (I1 340 8) ∧ True)))) 0 0 (dkA z) := by
  refine Met.ofW (cc := cX6_takes) (maxL := 4) (ret := (some .int)) (by decide) rfl ?_
  intro p e s m args below meth c s₁ B hml hv
  obtain ⟨ha, hW, hK, hT⟩ := hv
  have hx := B.exec
  have hb := B.bytes
  have hr := B.returns
  have hts := atoms_spec (ws := wsX6_takes) B.pre
  have hown : s.vm.findClass RX6 = some m.cls := findClass_of_methodNamed B.named
  have hlocks := B.notSynchronized
  have hS : va_S (dkA z) s.heap s.heap [] := va_S.rf
  have hF : dkF [(340, 340, 7, 8)] I0 I0 := dkF_rf _ _
  have hl := lv_entry ([.ref (z + 340), .int p0, .int p1]) (n := 4) (Nat.le_of_ble_eq_true rfl)
  have hgo : entryFrame m args 4 = entryFrame m ([.ref (z + 340), .int p0, .int p1] : List Value).toArray 4 := by rw [ha]
  rw [hgo, lg_entry_eq]
  generalize (lg_sl ([.ref (z + 340), .int p0, .int p1]) ++ List.replicate (4 - (lg_sl ([.ref (z + 340), .int p0, .int p1])).length) Slot.unset).toArray = ls at hl ⊢
  have hl : lv_has ls 4 [(0, .ref (z + 340)), (1, .int p0), (2, .int p1)] := hl
  refine lv_aload_n hx hb dX6_takes_0 rfl (lv_at hl 0 rfl) ?_
  refine dk_Vi (As := []) (rest := []) ⟨hx, hb, hml, hown, hts⟩ (c_X6_isWell_5 l g z I0 (show dkN [(-2147483648, -1)] (I0 340 8) from dkN_sub np0 rfl) hO) (cwV 0 hts gX6_takes_X6_isWell rfl rfl rfl (by decide +kernel) ⟨Nat.le_of_ble_eq_true rfl, Nat.le_of_ble_eq_true rfl⟩) (dk_at340 hW) rfl hK hT hW hS rfl hl.1 rfl (Nat.le_of_ble_eq_true rfl) dX6_takes_1 ⟨Nat.zero_le _, Nat.zero_le _⟩ (fun v1 I1 H1 L1 hp1 hW hS => ?_)
  obtain ⟨hF1, hO, hc1⟩ := hp1
  have hF := dkF_call hF hF1 rfl
  obtain ⟨dv1, f1_340_8, -⟩ := hc1
  refine lv_if_ne (tgt := 9) hx hb dX6_takes_4 (by decide) (fun c2 => ?_) (fun c2 => ?_)
  ·
    refine lv_iload_n hx hb dX6_takes_9 rfl (lv_at hl 1 rfl) ?_
    refine lv_if_ne (tgt := 28) hx hb dX6_takes_10 (by decide) (fun c3 => ?_) (fun c3 => ?_)
    ·
      exact (dkN_nil (show dkN [] p0 from dkN_ne1 (0) dp0 (dkN_lit (x := 0) (0) rfl) (dk_ne c3) rfl)).elim
    ·
      refine lv_aload_n hx hb dX6_takes_13 rfl (lv_at hl 0 rfl) ?_
      refine lv_aload_n hx hb dX6_takes_14 rfl (lv_at hl 0 rfl) ?_
      refine dk_get (k := 340) hx hb hts iX6_takes_6 hown hK (dk_at340 hW) rfl 10 (by decide) (hts (.fieldLink RX6 89 "DogKingsModel" "start" "I") (List.mem_of_getElem? (i := 1) rfl)) rfl dX6_takes_15 ?_
      refine lv_topi (fun v4 ev4 => ?_)
      have dv4 : dkN [(0, 90)] v4 := by rw [ev4]; exact (hO 340 10)
      refine dk_put (k := 340) hx hb hts iX6_takes_6 tyX6 tyX6_ok nmX6 hown hK hW (dk_at340 hW) hS rfl 8 (by decide) (hts (.fieldLink RX6 101 "DogKingsModel" "faultPlace" "I") (List.mem_of_getElem? (i := 2) rfl)) rfl rfl (Nat.le_of_ble_eq_true rfl) rfl dX6_takes_18 (fun I5 H5 L5 eI5 hW hS => ?_)
      have eI5 : I5 = dkU I1 340 8 v4 := eI5
      have hO := dkO_set hO eI5 (dkN_sub dv4 rfl)
      have hF := dkF_set hF eI5 rfl
      refine lv_aload_n hx hb dX6_takes_21 rfl (lv_at hl 0 rfl) ?_
      refine lv_iload_n hx hb dX6_takes_22 rfl (lv_at hl 2 rfl) ?_
      refine dk_put (k := 340) hx hb hts iX6_takes_6 tyX6 tyX6_ok nmX6 hown hK hW (dk_at340 hW) hS rfl 7 (by decide) (hts (.fieldLink RX6 108 "DogKingsModel" "faultKind" "I") (List.mem_of_getElem? (i := 3) rfl)) rfl rfl (Nat.le_of_ble_eq_true rfl) rfl dX6_takes_23 (fun I6 H6 L6 eI6 hW hS => ?_)
      have eI6 : I6 = dkU I5 340 7 p1 := eI6
      have hO := dkO_set hO eI6 (dkN_sub dp1 rfl)
      have hF := dkF_set hF eI6 rfl
      refine lv_iconst (v := 0) hx hb dX6_takes_26 (by decide) ?_
      exact W.iret (v := 0) hx hb hr (fun t ht hW9 => ⟨⟨0, I6, rfl, ⟨hF, hO, ⟨dkN_sub (dkN_lit (x := 0) (0) rfl) rfl, (show dkN [(1, 1)] (I6 340 7) from dkN_sub (by rw [eI6, dkU_ss]; exact dp1) rfl), (show dkN [(0, 90)] (I6 340 8) from dkN_sub (by rw [eI6, dkU_sn (by decide)]; exact (by rw [eI5, dkU_ss]; exact dv4)) rfl), trivial⟩⟩, dkW_eq ht hW⟩, hS.F ht⟩) hS.2.2 dX6_takes_27
  ·
    exact (dkN_nil (show dkN [] v1 from dkN_eq1 dv1 (dkN_lit (x := 0) (0) rfl) (congrArg Int32.toInt c2) rfl)).elim
set_option maxHeartbeats 4000000 in
set_option maxRecDepth 100000 in
theorem c_X6_takes_22 (l : Launch) (g : dkG) (z : Nat) (I0 : dkI) (p0 : Int32) (p1 : Int32) (dp0 : dkN [(0, 0)] p0) (dp1 : dkN [(2, 2)] p1)  (hO : dkOk I0) : Met l yX6_takes wsX6_takes (dkR 1) (dkPc g z [.ref (z + 340), .int p0, .int p1] I0) (dkQi g z (fun r I1 => dkF [(340, 340, 7, 8)] I0 I1 ∧ dkOk I1 ∧ ((dkN [(0, 0)] r ∧ dkN [(0, 2147483647)] (I1 340 8) ∧ True)))) 0 0 (dkA z) := by
  refine Met.ofW (cc := cX6_takes) (maxL := 4) (ret := (some .int)) (by decide) rfl ?_
  intro p e s m args below meth c s₁ B hml hv
  obtain ⟨ha, hW, hK, hT⟩ := hv
  have hx := B.exec
  have hb := B.bytes
  have hr := B.returns
  have hts := atoms_spec (ws := wsX6_takes) B.pre
  have hown : s.vm.findClass RX6 = some m.cls := findClass_of_methodNamed B.named
  have hlocks := B.notSynchronized
  have hS : va_S (dkA z) s.heap s.heap [] := va_S.rf
  have hF : dkF [(340, 340, 7, 8)] I0 I0 := dkF_rf _ _
  have hl := lv_entry ([.ref (z + 340), .int p0, .int p1]) (n := 4) (Nat.le_of_ble_eq_true rfl)
  have hgo : entryFrame m args 4 = entryFrame m ([.ref (z + 340), .int p0, .int p1] : List Value).toArray 4 := by rw [ha]
  rw [hgo, lg_entry_eq]
  generalize (lg_sl ([.ref (z + 340), .int p0, .int p1]) ++ List.replicate (4 - (lg_sl ([.ref (z + 340), .int p0, .int p1])).length) Slot.unset).toArray = ls at hl ⊢
  have hl : lv_has ls 4 [(0, .ref (z + 340)), (1, .int p0), (2, .int p1)] := hl
  refine lv_aload_n hx hb dX6_takes_0 rfl (lv_at hl 0 rfl) ?_
  refine dk_Vi (As := []) (rest := []) ⟨hx, hb, hml, hown, hts⟩ (c_X6_isWell_3 l g z I0 hO) (cwV 0 hts gX6_takes_X6_isWell rfl rfl rfl (by decide +kernel) ⟨Nat.le_of_ble_eq_true rfl, Nat.le_of_ble_eq_true rfl⟩) (dk_at340 hW) rfl hK hT hW hS rfl hl.1 rfl (Nat.le_of_ble_eq_true rfl) dX6_takes_1 ⟨Nat.zero_le _, Nat.zero_le _⟩ (fun v1 I1 H1 L1 hp1 hW hS => ?_)
  obtain ⟨hF1, hO, hc1⟩ := hp1
  have hF := dkF_call hF hF1 rfl
  rcases hc1 with ⟨dv1, f1_340_8, -⟩ | hc1
  ·
    refine lv_if_ne (tgt := 9) hx hb dX6_takes_4 (by decide) (fun c2 => ?_) (fun c2 => ?_)
    ·
      exact (dkN_nil (show dkN [] v1 from dkN_ne1 (0) dv1 (dkN_lit (x := 0) (0) rfl) (dk_ne c2) rfl)).elim
    ·
      refine lv_iconst (v := 0) hx hb dX6_takes_7 (by decide) ?_
      exact W.iret (v := 0) hx hb hr (fun t ht hW9 => ⟨⟨0, I1, rfl, ⟨hF, hO, ⟨dkN_sub (dkN_lit (x := 0) (0) rfl) rfl, (show dkN [(0, 2147483647)] (I1 340 8) from dkN_sub f1_340_8 rfl), trivial⟩⟩, dkW_eq ht hW⟩, hS.F ht⟩) hS.2.2 dX6_takes_8
  ·
    obtain ⟨dv1, f1_340_8, -⟩ := hc1
    refine lv_if_ne (tgt := 9) hx hb dX6_takes_4 (by decide) (fun c3 => ?_) (fun c3 => ?_)
    ·
      refine lv_iload_n hx hb dX6_takes_9 rfl (lv_at hl 1 rfl) ?_
      refine lv_if_ne (tgt := 28) hx hb dX6_takes_10 (by decide) (fun c4 => ?_) (fun c4 => ?_)
      ·
        exact (dkN_nil (show dkN [] p0 from dkN_ne1 (0) dp0 (dkN_lit (x := 0) (0) rfl) (dk_ne c4) rfl)).elim
      ·
        refine lv_aload_n hx hb dX6_takes_13 rfl (lv_at hl 0 rfl) ?_
        refine lv_aload_n hx hb dX6_takes_14 rfl (lv_at hl 0 rfl) ?_
        refine dk_get (k := 340) hx hb hts iX6_takes_6 hown hK (dk_at340 hW) rfl 10 (by decide) (hts (.fieldLink RX6 89 "DogKingsModel" "start" "I") (List.mem_of_getElem? (i := 1) rfl)) rfl dX6_takes_15 ?_
        refine lv_topi (fun v5 ev5 => ?_)
        have dv5 : dkN [(0, 90)] v5 := by rw [ev5]; exact (hO 340 10)
        refine dk_put (k := 340) hx hb hts iX6_takes_6 tyX6 tyX6_ok nmX6 hown hK hW (dk_at340 hW) hS rfl 8 (by decide) (hts (.fieldLink RX6 101 "DogKingsModel" "faultPlace" "I") (List.mem_of_getElem? (i := 2) rfl)) rfl rfl (Nat.le_of_ble_eq_true rfl) rfl dX6_takes_18 (fun I6 H6 L6 eI6 hW hS => ?_)
        have eI6 : I6 = dkU I1 340 8 v5 := eI6
        have hO := dkO_set hO eI6 (dkN_sub dv5 rfl)
        have hF := dkF_set hF eI6 rfl
        refine lv_aload_n hx hb dX6_takes_21 rfl (lv_at hl 0 rfl) ?_
        refine lv_iload_n hx hb dX6_takes_22 rfl (lv_at hl 2 rfl) ?_
        refine dk_put (k := 340) hx hb hts iX6_takes_6 tyX6 tyX6_ok nmX6 hown hK hW (dk_at340 hW) hS rfl 7 (by decide) (hts (.fieldLink RX6 108 "DogKingsModel" "faultKind" "I") (List.mem_of_getElem? (i := 3) rfl)) rfl rfl (Nat.le_of_ble_eq_true rfl) rfl dX6_takes_23 (fun I7 H7 L7 eI7 hW hS => ?_)
        have eI7 : I7 = dkU I6 340 7 p1 := eI7
        have hO := dkO_set hO eI7 (dkN_sub dp1 rfl)
        have hF := dkF_set hF eI7 rfl
        refine lv_iconst (v := 0) hx hb dX6_takes_26 (by decide) ?_
        exact W.iret (v := 0) hx hb hr (fun t ht hW9 => ⟨⟨0, I7, rfl, ⟨hF, hO, ⟨dkN_sub (dkN_lit (x := 0) (0) rfl) rfl, (show dkN [(0, 2147483647)] (I7 340 8) from dkN_sub (by rw [eI7, dkU_sn (by decide)]; exact (by rw [eI6, dkU_ss]; exact dv5)) rfl), trivial⟩⟩, dkW_eq ht hW⟩, hS.F ht⟩) hS.2.2 dX6_takes_27
    ·
      exact (dkN_nil (show dkN [] v1 from dkN_eq1 dv1 (dkN_lit (x := 0) (0) rfl) (congrArg Int32.toInt c3) rfl)).elim
set_option maxHeartbeats 4000000 in
set_option maxRecDepth 100000 in
theorem c_X6_takes_23 (l : Launch) (g : dkG) (z : Nat) (I0 : dkI) (p0 : Int32) (p1 : Int32) (dp0 : dkN [(1, 1)] p0) (dp1 : dkN [(2, 2)] p1) (np0 : dkN [(0, 8)] (I0 340 12))  (hO : dkOk I0) : Met l yX6_takes wsX6_takes (dkR 2) (dkPc g z [.ref (z + 340), .int p0, .int p1] I0) (dkQi g z (fun r I1 => dkF [(340, 340, 9, 12)] I0 I1 ∧ dkOk I1 ∧ ((dkN [(0, 8)] r ∧ True)))) 0 0 (dkA z) := by
  refine Met.ofW (cc := cX6_takes) (maxL := 4) (ret := (some .int)) (by decide) rfl ?_
  intro p e s m args below meth c s₁ B hml hv
  obtain ⟨ha, hW, hK, hT⟩ := hv
  have hx := B.exec
  have hb := B.bytes
  have hr := B.returns
  have hts := atoms_spec (ws := wsX6_takes) B.pre
  have hown : s.vm.findClass RX6 = some m.cls := findClass_of_methodNamed B.named
  have hlocks := B.notSynchronized
  have hS : va_S (dkA z) s.heap s.heap [] := va_S.rf
  have hF : dkF [(340, 340, 9, 12)] I0 I0 := dkF_rf _ _
  have hl := lv_entry ([.ref (z + 340), .int p0, .int p1]) (n := 4) (Nat.le_of_ble_eq_true rfl)
  have hgo : entryFrame m args 4 = entryFrame m ([.ref (z + 340), .int p0, .int p1] : List Value).toArray 4 := by rw [ha]
  rw [hgo, lg_entry_eq]
  generalize (lg_sl ([.ref (z + 340), .int p0, .int p1]) ++ List.replicate (4 - (lg_sl ([.ref (z + 340), .int p0, .int p1])).length) Slot.unset).toArray = ls at hl ⊢
  have hl : lv_has ls 4 [(0, .ref (z + 340)), (1, .int p0), (2, .int p1)] := hl
  refine lv_aload_n hx hb dX6_takes_0 rfl (lv_at hl 0 rfl) ?_
  refine dk_Vi (As := []) (rest := []) ⟨hx, hb, hml, hown, hts⟩ (c_X6_isWell_3 l g z I0 hO) (cwV 0 hts gX6_takes_X6_isWell rfl rfl rfl (by decide +kernel) ⟨Nat.le_of_ble_eq_true rfl, Nat.le_of_ble_eq_true rfl⟩) (dk_at340 hW) rfl hK hT hW hS rfl hl.1 rfl (Nat.le_of_ble_eq_true rfl) dX6_takes_1 ⟨Nat.zero_le _, Nat.zero_le _⟩ (fun v1 I1 H1 L1 hp1 hW hS => ?_)
  obtain ⟨hF1, hO, hc1⟩ := hp1
  have hF := dkF_call hF hF1 rfl
  rcases hc1 with ⟨dv1, f1_340_8, -⟩ | hc1
  ·
    refine lv_if_ne (tgt := 9) hx hb dX6_takes_4 (by decide) (fun c2 => ?_) (fun c2 => ?_)
    ·
      exact (dkN_nil (show dkN [] v1 from dkN_ne1 (0) dv1 (dkN_lit (x := 0) (0) rfl) (dk_ne c2) rfl)).elim
    ·
      refine lv_iconst (v := 0) hx hb dX6_takes_7 (by decide) ?_
      exact W.iret (v := 0) hx hb hr (fun t ht hW9 => ⟨⟨0, I1, rfl, ⟨hF, hO, ⟨dkN_sub (dkN_lit (x := 0) (0) rfl) rfl, trivial⟩⟩, dkW_eq ht hW⟩, hS.F ht⟩) hS.2.2 dX6_takes_8
  ·
    obtain ⟨dv1, f1_340_8, -⟩ := hc1
    refine lv_if_ne (tgt := 9) hx hb dX6_takes_4 (by decide) (fun c3 => ?_) (fun c3 => ?_)
    ·
      refine lv_iload_n hx hb dX6_takes_9 rfl (lv_at hl 1 rfl) ?_
      refine lv_if_ne (tgt := 28) hx hb dX6_takes_10 (by decide) (fun c4 => ?_) (fun c4 => ?_)
      ·
        refine lv_aload_n hx hb dX6_takes_28 rfl (lv_at hl 0 rfl) ?_
        refine dk_get (k := 340) hx hb hts iX6_takes_6 hown hK (dk_at340 hW) rfl 12 (by decide) (hts (.fieldLink RX6 95 "DogKingsModel" "value" "I") (List.mem_of_getElem? (i := 4) rfl)) rfl dX6_takes_29 ?_
        refine lv_topi (fun v5 ev5 => ?_)
        have dv5 : dkN [(0, 8)] v5 := by rw [ev5]; exact (by rw [hF1 340 12 rfl]; exact np0)
        refine lv_istore_n (lv' := [(3, .int v5), (0, .ref (z + 340)), (1, .int p0), (2, .int p1)]) hx hb dX6_takes_32 rfl hl (by decide) rfl (fun ls hl => ?_)
        refine lv_aload_n hx hb dX6_takes_33 rfl (lv_at hl 1 rfl) ?_
        refine dk_Vv (As := []) (rest := []) ⟨hx, hb, hml, hown, hts⟩ (c_X6_advances_0 l g z I1 hO) (cwV 0 hts gX6_takes_X6_advances rfl rfl rfl (by decide +kernel) ⟨Nat.le_of_ble_eq_true rfl, Nat.le_of_ble_eq_true rfl⟩) (dk_at340 hW) rfl hK hT hW hS rfl hl.1 rfl (Nat.le_of_ble_eq_true rfl) dX6_takes_34 ⟨Nat.zero_le _, Nat.zero_le _⟩ (fun I6 H6 L6 hp6 hW hS => ?_)
        obtain ⟨hF6, hO, hc6⟩ := hp6
        have hF := dkF_call hF hF6 rfl
        obtain ⟨f6_340_11, -⟩ := hc6
        refine lv_iload_n hx hb dX6_takes_37 rfl (lv_at hl 0 rfl) ?_
        exact W.iret (v := v5) hx hb hr (fun t ht hW9 => ⟨⟨v5, I6, rfl, ⟨hF, hO, ⟨dkN_sub dv5 rfl, trivial⟩⟩, dkW_eq ht hW⟩, hS.F ht⟩) hS.2.2 dX6_takes_38
      ·
        exact (dkN_nil (show dkN [] p0 from dkN_eq1 dp0 (dkN_lit (x := 0) (0) rfl) (congrArg Int32.toInt c4) rfl)).elim
    ·
      exact (dkN_nil (show dkN [] v1 from dkN_eq1 dv1 (dkN_lit (x := 0) (0) rfl) (congrArg Int32.toInt c3) rfl)).elim
set_option maxHeartbeats 4000000 in
set_option maxRecDepth 100000 in
theorem c_X6_figure_6 (l : Launch) (g : dkG) (z : Nat) (I0 : dkI) (p0 : Int32) (p1 : Int32) (dp0 : dkN [(0, 0)] p0) (dp1 : dkN [(-1, 8)] p1)  (hO : dkOk I0) : Met l yX6_figure wsX6_figure (dkR 3) (dkPc g z [.ref (z + 340), .int p0, .int p1] I0) (dkQi g z (fun r I1 => dkF [(340, 340, 7, 12)] I0 I1 ∧ dkOk I1 ∧ ((dkN [(0, 8)] r ∧ True)))) 0 0 (dkA z) := by
  refine Met.ofW (cc := cX6_figure) (maxL := 3) (ret := (some .int)) (by decide) rfl ?_
  intro p e s m args below meth c s₁ B hml hv
  obtain ⟨ha, hW, hK, hT⟩ := hv
  have hx := B.exec
  have hb := B.bytes
  have hr := B.returns
  have hts := atoms_spec (ws := wsX6_figure) B.pre
  have hown : s.vm.findClass RX6 = some m.cls := findClass_of_methodNamed B.named
  have hlocks := B.notSynchronized
  have hS : va_S (dkA z) s.heap s.heap [] := va_S.rf
  have hF : dkF [(340, 340, 7, 12)] I0 I0 := dkF_rf _ _
  have hl := lv_entry ([.ref (z + 340), .int p0, .int p1]) (n := 3) (Nat.le_of_ble_eq_true rfl)
  have hgo : entryFrame m args 3 = entryFrame m ([.ref (z + 340), .int p0, .int p1] : List Value).toArray 3 := by rw [ha]
  rw [hgo, lg_entry_eq]
  generalize (lg_sl ([.ref (z + 340), .int p0, .int p1]) ++ List.replicate (3 - (lg_sl ([.ref (z + 340), .int p0, .int p1])).length) Slot.unset).toArray = ls at hl ⊢
  have hl : lv_has ls 3 [(0, .ref (z + 340)), (1, .int p0), (2, .int p1)] := hl
  have C22 : ∀ (I : dkI) (H : Heap) (locs : List Loc) (ls : Array Slot), dkW g z I H → va_S (dkA z) s.heap H locs → dkF [(340, 340, 7, 12)] I0 I → dkOk I → lv_has ls 3 [(0, .ref (z + 340)), (1, .int p0), (2, .int p1)] → W p l e (headSpec wsX6_figure (dkR 3)).room s m args below meth c H locs 0 0 (MQ below (dkQi g z (fun r I1 => dkF [(340, 340, 7, 12)] I0 I1 ∧ dkOk I1 ∧ ((dkN [(0, 8)] r ∧ True)))) args s 0 0 (dkA z)) (F0 m 22 ls []) := by
    intro I22_ H locs ls hW hS hF_22 hO hl
    have hF := hF_22
    refine lv_aload_n hx hb dX6_figure_22 rfl (lv_at hl 0 rfl) ?_
    refine lv_aload_n hx hb dX6_figure_23 rfl (lv_at hl 0 rfl) ?_
    refine dk_get (k := 340) hx hb hts iX6_figure_6 hown hK (dk_at340 hW) rfl 12 (by decide) (hts (.fieldLink RX6 95 "DogKingsModel" "value" "I") (List.mem_of_getElem? (i := 2) rfl)) rfl dX6_figure_24 ?_
    refine lv_topi (fun v1 ev1 => ?_)
    refine lv_iload_n hx hb dX6_figure_27 rfl (lv_at hl 1 rfl) ?_
    refine lv_iload_n hx hb dX6_figure_28 rfl (lv_at hl 2 rfl) ?_
    refine dk_Si (As := [.int v1, .int p0, .int p1]) (rest := [.ref (z + 340)]) ⟨hx, hb, hml, hown, hts⟩ (c_X6_in_9 l g z I22_ v1 p0 p1 dp0 dp1 hO) (va_cwS 3 hts gX6_figure_X6_in rfl rfl rfl (by decide +kernel) ⟨Nat.le_of_ble_eq_true rfl, Nat.le_of_ble_eq_true rfl⟩) hK hT hW hS rfl hl.1 rfl (Nat.le_of_ble_eq_true rfl) dX6_figure_29 ⟨Nat.zero_le _, Nat.zero_le _⟩ (fun v2 I2 H2 L2 hp2 hW hS => ?_)
    obtain ⟨hF2, hO, hc2⟩ := hp2
    have hF := dkF_call hF hF2 rfl
    rcases hc2 with ⟨dv2, -⟩ | hc2
    ·
      refine lv_iconst (v := 2) hx hb dX6_figure_32 (by decide) ?_
      refine dk_Vi (As := [.int v2, .int 2]) (rest := []) ⟨hx, hb, hml, hown, hts⟩ (c_X6_takes_22 l g z I2 v2 2 dv2 (dkN_lit (x := 2) (2) rfl) hO) (cwV 2 hts gX6_figure_X6_takes rfl rfl rfl (by decide +kernel) ⟨Nat.le_of_ble_eq_true rfl, Nat.le_of_ble_eq_true rfl⟩) (dk_at340 hW) rfl hK hT hW hS rfl hl.1 rfl (Nat.le_of_ble_eq_true rfl) dX6_figure_33 ⟨Nat.zero_le _, Nat.zero_le _⟩ (fun v3 I3 H3 L3 hp3 hW hS => ?_)
      obtain ⟨hF3, hO, hc3⟩ := hp3
      have hF := dkF_call hF hF3 rfl
      obtain ⟨dv3, f3_340_8, -⟩ := hc3
      exact W.iret (v := v3) hx hb hr (fun t ht hW9 => ⟨⟨v3, I3, rfl, ⟨hF, hO, ⟨dkN_sub dv3 rfl, trivial⟩⟩, dkW_eq ht hW⟩, hS.F ht⟩) hS.2.2 dX6_figure_36
    ·
      obtain ⟨dv2, a2_0, a2_2, -⟩ := hc2
      have e4 : v1 = I2 340 12 := by rw [hF2 340 12 rfl]; exact ev1
      have d5 : dkN [(0, 8)] v1 := dkN_eq1 (dkN_top v1) a2_0 rfl rfl
      have f6 : dkN [(0, 8)] (I2 340 12) := by rw [← e4]; exact d5
      have d7 : dkN [(0, 8)] p1 := dkN_eq1 dp1 a2_2 rfl rfl
      refine lv_iconst (v := 2) hx hb dX6_figure_32 (by decide) ?_
      refine dk_Vi (As := [.int v2, .int 2]) (rest := []) ⟨hx, hb, hml, hown, hts⟩ (c_X6_takes_23 l g z I2 v2 2 dv2 (dkN_lit (x := 2) (2) rfl) (show dkN [(0, 8)] (I2 340 12) from dkN_sub f6 rfl) hO) (cwV 2 hts gX6_figure_X6_takes rfl rfl rfl (by decide +kernel) ⟨Nat.le_of_ble_eq_true rfl, Nat.le_of_ble_eq_true rfl⟩) (dk_at340 hW) rfl hK hT hW hS rfl hl.1 rfl (Nat.le_of_ble_eq_true rfl) dX6_figure_33 ⟨Nat.zero_le _, Nat.zero_le _⟩ (fun v8 I8 H8 L8 hp8 hW hS => ?_)
      obtain ⟨hF8, hO, hc8⟩ := hp8
      have hF := dkF_call hF hF8 rfl
      obtain ⟨dv8, -⟩ := hc8
      exact W.iret (v := v8) hx hb hr (fun t ht hW9 => ⟨⟨v8, I8, rfl, ⟨hF, hO, ⟨dkN_sub dv8 rfl, trivial⟩⟩, dkW_eq ht hW⟩, hS.F ht⟩) hS.2.2 dX6_figure_36
  refine lv_aload_n hx hb dX6_figure_0 rfl (lv_at hl 0 rfl) ?_
  refine dk_Vi (As := []) (rest := []) ⟨hx, hb, hml, hown, hts⟩ (c_X6_isWell_3 l g z I0 hO) (cwV 0 hts gX6_figure_X6_isWell rfl rfl rfl (by decide +kernel) ⟨Nat.le_of_ble_eq_true rfl, Nat.le_of_ble_eq_true rfl⟩) (dk_at340 hW) rfl hK hT hW hS rfl hl.1 rfl (Nat.le_of_ble_eq_true rfl) dX6_figure_1 ⟨Nat.zero_le _, Nat.zero_le _⟩ (fun v9 I9 H9 L9 hp9 hW hS => ?_)
  obtain ⟨hF9, hO, hc9⟩ := hp9
  have hF := dkF_call hF hF9 rfl
  rcases hc9 with ⟨dv9, f9_340_8, -⟩ | hc9
  ·
    refine lv_if_eq (tgt := 22) hx hb dX6_figure_4 (by decide) (fun c10 => ?_) (fun c10 => ?_)
    ·
      exact C22 I9 _ _ ls  hW hS hF hO  (lv_sub hl [0, 1, 2] rfl)
    ·
      exact (dkN_nil (show dkN [] v9 from dkN_ne1 (0) dv9 (dkN_lit (x := 0) (0) rfl) (dk_ne c10) rfl)).elim
  ·
    obtain ⟨dv9, f9_340_8, -⟩ := hc9
    refine lv_if_eq (tgt := 22) hx hb dX6_figure_4 (by decide) (fun c11 => ?_) (fun c11 => ?_)
    ·
      exact (dkN_nil (show dkN [] v9 from dkN_eq1 dv9 (dkN_lit (x := 0) (0) rfl) (congrArg Int32.toInt c11) rfl)).elim
    ·
      refine lv_aload_n hx hb dX6_figure_7 rfl (lv_at hl 0 rfl) ?_
      refine dk_get (k := 340) hx hb hts iX6_figure_6 hown hK (dk_at340 hW) rfl 11 (by decide) (hts (.fieldLink RX6 98 "DogKingsModel" "token" "I") (List.mem_of_getElem? (i := 1) rfl)) rfl dX6_figure_8 ?_
      refine lv_topi (fun v12 ev12 => ?_)
      refine lv_iconst (v := 2) hx hb dX6_figure_11 (by decide) ?_
      refine lv_icmp_eq (tgt := 22) hx hb dX6_figure_12 (by decide) (fun c13 => ?_) (fun c13 => ?_)
      ·
        have d14 : dkN [(2, 2)] v12 := dkN_eq1 (dkN_top v12) (dkN_lit (x := 2) (2) rfl) (congrArg Int32.toInt c13) rfl
        have f15 : dkN [(2, 2)] (I9 340 11) := by rw [← ev12]; exact d14
        exact C22 I9 _ _ ls  hW hS hF hO  (lv_sub hl [0, 1, 2] rfl)
      ·
        have d16 : dkN [(-2147483648, 1), (3, 2147483647)] v12 := dkN_ne1 (2) (dkN_top v12) (dkN_lit (x := 2) (2) rfl) (dk_ne c13) rfl
        have f17 : dkN [(-2147483648, 1), (3, 2147483647)] (I9 340 11) := by rw [← ev12]; exact d16
        refine lv_aload_n hx hb dX6_figure_15 rfl (lv_at hl 0 rfl) ?_
        refine lv_iconst (v := 0) hx hb dX6_figure_16 (by decide) ?_
        refine lv_iconst (v := 1) hx hb dX6_figure_17 (by decide) ?_
        refine dk_Vi (As := [.int 0, .int 1]) (rest := []) ⟨hx, hb, hml, hown, hts⟩ (c_X6_takes_21 l g z I9 0 1 (dkN_lit (x := 0) (0) rfl) (dkN_lit (x := 1) (1) rfl) (show dkN [(-2147483648, -1)] (I9 340 8) from dkN_sub f9_340_8 rfl) hO) (cwV 2 hts gX6_figure_X6_takes rfl rfl rfl (by decide +kernel) ⟨Nat.le_of_ble_eq_true rfl, Nat.le_of_ble_eq_true rfl⟩) (dk_at340 hW) rfl hK hT hW hS rfl hl.1 rfl (Nat.le_of_ble_eq_true rfl) dX6_figure_18 ⟨Nat.zero_le _, Nat.zero_le _⟩ (fun v18 I18 H18 L18 hp18 hW hS => ?_)
        obtain ⟨hF18, hO, hc18⟩ := hp18
        have hF := dkF_call hF hF18 rfl
        obtain ⟨dv18, f18_340_7, f18_340_8, -⟩ := hc18
        exact W.iret (v := v18) hx hb hr (fun t ht hW9 => ⟨⟨v18, I18, rfl, ⟨hF, hO, ⟨dkN_sub dv18 rfl, trivial⟩⟩, dkW_eq ht hW⟩, hS.F ht⟩) hS.2.2 dX6_figure_21
set_option maxHeartbeats 4000000 in
set_option maxRecDepth 100000 in
theorem c_X6_takes_24 (l : Launch) (g : dkG) (z : Nat) (I0 : dkI) (p0 : Int32) (p1 : Int32) (dp0 : dkN [(0, 1)] p0) (dp1 : dkN [(1, 1)] p1)  (hO : dkOk I0) : Met l yX6_takes wsX6_takes (dkR 2) (dkPc g z [.ref (z + 340), .int p0, .int p1] I0) (dkQi g z (fun r I1 => dkF [(340, 340, 7, 12)] I0 I1 ∧ dkOk I1 ∧ ((True ∧ True)))) 0 0 (dkA z) := by
  refine Met.ofW (cc := cX6_takes) (maxL := 4) (ret := (some .int)) (by decide) rfl ?_
  intro p e s m args below meth c s₁ B hml hv
  obtain ⟨ha, hW, hK, hT⟩ := hv
  have hx := B.exec
  have hb := B.bytes
  have hr := B.returns
  have hts := atoms_spec (ws := wsX6_takes) B.pre
  have hown : s.vm.findClass RX6 = some m.cls := findClass_of_methodNamed B.named
  have hlocks := B.notSynchronized
  have hS : va_S (dkA z) s.heap s.heap [] := va_S.rf
  have hF : dkF [(340, 340, 7, 12)] I0 I0 := dkF_rf _ _
  have hl := lv_entry ([.ref (z + 340), .int p0, .int p1]) (n := 4) (Nat.le_of_ble_eq_true rfl)
  have hgo : entryFrame m args 4 = entryFrame m ([.ref (z + 340), .int p0, .int p1] : List Value).toArray 4 := by rw [ha]
  rw [hgo, lg_entry_eq]
  generalize (lg_sl ([.ref (z + 340), .int p0, .int p1]) ++ List.replicate (4 - (lg_sl ([.ref (z + 340), .int p0, .int p1])).length) Slot.unset).toArray = ls at hl ⊢
  have hl : lv_has ls 4 [(0, .ref (z + 340)), (1, .int p0), (2, .int p1)] := hl
  refine lv_aload_n hx hb dX6_takes_0 rfl (lv_at hl 0 rfl) ?_
  refine dk_Vi (As := []) (rest := []) ⟨hx, hb, hml, hown, hts⟩ (c_X6_isWell_3 l g z I0 hO) (cwV 0 hts gX6_takes_X6_isWell rfl rfl rfl (by decide +kernel) ⟨Nat.le_of_ble_eq_true rfl, Nat.le_of_ble_eq_true rfl⟩) (dk_at340 hW) rfl hK hT hW hS rfl hl.1 rfl (Nat.le_of_ble_eq_true rfl) dX6_takes_1 ⟨Nat.zero_le _, Nat.zero_le _⟩ (fun v1 I1 H1 L1 hp1 hW hS => ?_)
  obtain ⟨hF1, hO, hc1⟩ := hp1
  have hF := dkF_call hF hF1 rfl
  rcases hc1 with ⟨dv1, f1_340_8, -⟩ | hc1
  ·
    refine lv_if_ne (tgt := 9) hx hb dX6_takes_4 (by decide) (fun c2 => ?_) (fun c2 => ?_)
    ·
      exact (dkN_nil (show dkN [] v1 from dkN_ne1 (0) dv1 (dkN_lit (x := 0) (0) rfl) (dk_ne c2) rfl)).elim
    ·
      refine lv_iconst (v := 0) hx hb dX6_takes_7 (by decide) ?_
      exact W.iret (v := 0) hx hb hr (fun t ht hW9 => ⟨⟨0, I1, rfl, ⟨hF, hO, ⟨trivial, trivial⟩⟩, dkW_eq ht hW⟩, hS.F ht⟩) hS.2.2 dX6_takes_8
  ·
    obtain ⟨dv1, f1_340_8, -⟩ := hc1
    refine lv_if_ne (tgt := 9) hx hb dX6_takes_4 (by decide) (fun c3 => ?_) (fun c3 => ?_)
    ·
      refine lv_iload_n hx hb dX6_takes_9 rfl (lv_at hl 1 rfl) ?_
      refine lv_if_ne (tgt := 28) hx hb dX6_takes_10 (by decide) (fun c4 => ?_) (fun c4 => ?_)
      ·
        have d5 : dkN [(1, 1)] p0 := dkN_ne1 (0) dp0 (dkN_lit (x := 0) (0) rfl) (dk_ne c4) rfl
        refine lv_aload_n hx hb dX6_takes_28 rfl (lv_at hl 0 rfl) ?_
        refine dk_get (k := 340) hx hb hts iX6_takes_6 hown hK (dk_at340 hW) rfl 12 (by decide) (hts (.fieldLink RX6 95 "DogKingsModel" "value" "I") (List.mem_of_getElem? (i := 4) rfl)) rfl dX6_takes_29 ?_
        refine lv_topi (fun v6 ev6 => ?_)
        refine lv_istore_n (lv' := [(3, .int v6), (0, .ref (z + 340)), (1, .int p0), (2, .int p1)]) hx hb dX6_takes_32 rfl hl (by decide) rfl (fun ls hl => ?_)
        refine lv_aload_n hx hb dX6_takes_33 rfl (lv_at hl 1 rfl) ?_
        refine dk_Vv (As := []) (rest := []) ⟨hx, hb, hml, hown, hts⟩ (c_X6_advances_0 l g z I1 hO) (cwV 0 hts gX6_takes_X6_advances rfl rfl rfl (by decide +kernel) ⟨Nat.le_of_ble_eq_true rfl, Nat.le_of_ble_eq_true rfl⟩) (dk_at340 hW) rfl hK hT hW hS rfl hl.1 rfl (Nat.le_of_ble_eq_true rfl) dX6_takes_34 ⟨Nat.zero_le _, Nat.zero_le _⟩ (fun I7 H7 L7 hp7 hW hS => ?_)
        obtain ⟨hF7, hO, hc7⟩ := hp7
        have hF := dkF_call hF hF7 rfl
        obtain ⟨f7_340_11, -⟩ := hc7
        refine lv_iload_n hx hb dX6_takes_37 rfl (lv_at hl 0 rfl) ?_
        exact W.iret (v := v6) hx hb hr (fun t ht hW9 => ⟨⟨v6, I7, rfl, ⟨hF, hO, ⟨trivial, trivial⟩⟩, dkW_eq ht hW⟩, hS.F ht⟩) hS.2.2 dX6_takes_38
      ·
        have d8 : dkN [(0, 0)] p0 := dkN_eq1 dp0 (dkN_lit (x := 0) (0) rfl) (congrArg Int32.toInt c4) rfl
        refine lv_aload_n hx hb dX6_takes_13 rfl (lv_at hl 0 rfl) ?_
        refine lv_aload_n hx hb dX6_takes_14 rfl (lv_at hl 0 rfl) ?_
        refine dk_get (k := 340) hx hb hts iX6_takes_6 hown hK (dk_at340 hW) rfl 10 (by decide) (hts (.fieldLink RX6 89 "DogKingsModel" "start" "I") (List.mem_of_getElem? (i := 1) rfl)) rfl dX6_takes_15 ?_
        refine lv_topi (fun v9 ev9 => ?_)
        have dv9 : dkN [(0, 90)] v9 := by rw [ev9]; exact (hO 340 10)
        refine dk_put (k := 340) hx hb hts iX6_takes_6 tyX6 tyX6_ok nmX6 hown hK hW (dk_at340 hW) hS rfl 8 (by decide) (hts (.fieldLink RX6 101 "DogKingsModel" "faultPlace" "I") (List.mem_of_getElem? (i := 2) rfl)) rfl rfl (Nat.le_of_ble_eq_true rfl) rfl dX6_takes_18 (fun I10 H10 L10 eI10 hW hS => ?_)
        have eI10 : I10 = dkU I1 340 8 v9 := eI10
        have hO := dkO_set hO eI10 (dkN_sub dv9 rfl)
        have hF := dkF_set hF eI10 rfl
        refine lv_aload_n hx hb dX6_takes_21 rfl (lv_at hl 0 rfl) ?_
        refine lv_iload_n hx hb dX6_takes_22 rfl (lv_at hl 2 rfl) ?_
        refine dk_put (k := 340) hx hb hts iX6_takes_6 tyX6 tyX6_ok nmX6 hown hK hW (dk_at340 hW) hS rfl 7 (by decide) (hts (.fieldLink RX6 108 "DogKingsModel" "faultKind" "I") (List.mem_of_getElem? (i := 3) rfl)) rfl rfl (Nat.le_of_ble_eq_true rfl) rfl dX6_takes_23 (fun I11 H11 L11 eI11 hW hS => ?_)
        have eI11 : I11 = dkU I10 340 7 p1 := eI11
        have hO := dkO_set hO eI11 (dkN_sub dp1 rfl)
        have hF := dkF_set hF eI11 rfl
        refine lv_iconst (v := 0) hx hb dX6_takes_26 (by decide) ?_
        exact W.iret (v := 0) hx hb hr (fun t ht hW9 => ⟨⟨0, I11, rfl, ⟨hF, hO, ⟨trivial, trivial⟩⟩, dkW_eq ht hW⟩, hS.F ht⟩) hS.2.2 dX6_takes_27
    ·
      exact (dkN_nil (show dkN [] v1 from dkN_eq1 dv1 (dkN_lit (x := 0) (0) rfl) (congrArg Int32.toInt c3) rfl)).elim
set_option maxHeartbeats 4000000 in
set_option maxRecDepth 100000 in
theorem c_X6_takes_25 (l : Launch) (g : dkG) (z : Nat) (I0 : dkI) (p0 : Int32) (p1 : Int32) (dp0 : dkN [(0, 0)] p0) (dp1 : dkN [(2, 2)] p1) (np0 : dkN [(-2147483648, -1), (10, 2147483647)] (I0 340 12))  (hO : dkOk I0) : Met l yX6_takes wsX6_takes (dkR 1) (dkPc g z [.ref (z + 340), .int p0, .int p1] I0) (dkQi g z (fun r I1 => dkF [(340, 340, 7, 8)] I0 I1 ∧ dkOk I1 ∧ ((dkN [(0, 0)] r ∧ dkN [(-2147483648, -1), (10, 2147483647)] (I1 340 12) ∧ dkN [(0, 2147483647)] (I1 340 8) ∧ True)))) 0 0 (dkA z) := by
  refine Met.ofW (cc := cX6_takes) (maxL := 4) (ret := (some .int)) (by decide) rfl ?_
  intro p e s m args below meth c s₁ B hml hv
  obtain ⟨ha, hW, hK, hT⟩ := hv
  have hx := B.exec
  have hb := B.bytes
  have hr := B.returns
  have hts := atoms_spec (ws := wsX6_takes) B.pre
  have hown : s.vm.findClass RX6 = some m.cls := findClass_of_methodNamed B.named
  have hlocks := B.notSynchronized
  have hS : va_S (dkA z) s.heap s.heap [] := va_S.rf
  have hF : dkF [(340, 340, 7, 8)] I0 I0 := dkF_rf _ _
  have hl := lv_entry ([.ref (z + 340), .int p0, .int p1]) (n := 4) (Nat.le_of_ble_eq_true rfl)
  have hgo : entryFrame m args 4 = entryFrame m ([.ref (z + 340), .int p0, .int p1] : List Value).toArray 4 := by rw [ha]
  rw [hgo, lg_entry_eq]
  generalize (lg_sl ([.ref (z + 340), .int p0, .int p1]) ++ List.replicate (4 - (lg_sl ([.ref (z + 340), .int p0, .int p1])).length) Slot.unset).toArray = ls at hl ⊢
  have hl : lv_has ls 4 [(0, .ref (z + 340)), (1, .int p0), (2, .int p1)] := hl
  refine lv_aload_n hx hb dX6_takes_0 rfl (lv_at hl 0 rfl) ?_
  refine dk_Vi (As := []) (rest := []) ⟨hx, hb, hml, hown, hts⟩ (c_X6_isWell_3 l g z I0 hO) (cwV 0 hts gX6_takes_X6_isWell rfl rfl rfl (by decide +kernel) ⟨Nat.le_of_ble_eq_true rfl, Nat.le_of_ble_eq_true rfl⟩) (dk_at340 hW) rfl hK hT hW hS rfl hl.1 rfl (Nat.le_of_ble_eq_true rfl) dX6_takes_1 ⟨Nat.zero_le _, Nat.zero_le _⟩ (fun v1 I1 H1 L1 hp1 hW hS => ?_)
  obtain ⟨hF1, hO, hc1⟩ := hp1
  have hF := dkF_call hF hF1 rfl
  rcases hc1 with ⟨dv1, f1_340_8, -⟩ | hc1
  ·
    refine lv_if_ne (tgt := 9) hx hb dX6_takes_4 (by decide) (fun c2 => ?_) (fun c2 => ?_)
    ·
      exact (dkN_nil (show dkN [] v1 from dkN_ne1 (0) dv1 (dkN_lit (x := 0) (0) rfl) (dk_ne c2) rfl)).elim
    ·
      refine lv_iconst (v := 0) hx hb dX6_takes_7 (by decide) ?_
      exact W.iret (v := 0) hx hb hr (fun t ht hW9 => ⟨⟨0, I1, rfl, ⟨hF, hO, ⟨dkN_sub (dkN_lit (x := 0) (0) rfl) rfl, (show dkN [(-2147483648, -1), (10, 2147483647)] (I1 340 12) from dkN_sub (by rw [hF1 340 12 rfl]; exact np0) rfl), (show dkN [(0, 2147483647)] (I1 340 8) from dkN_sub f1_340_8 rfl), trivial⟩⟩, dkW_eq ht hW⟩, hS.F ht⟩) hS.2.2 dX6_takes_8
  ·
    obtain ⟨dv1, f1_340_8, -⟩ := hc1
    refine lv_if_ne (tgt := 9) hx hb dX6_takes_4 (by decide) (fun c3 => ?_) (fun c3 => ?_)
    ·
      refine lv_iload_n hx hb dX6_takes_9 rfl (lv_at hl 1 rfl) ?_
      refine lv_if_ne (tgt := 28) hx hb dX6_takes_10 (by decide) (fun c4 => ?_) (fun c4 => ?_)
      ·
        exact (dkN_nil (show dkN [] p0 from dkN_ne1 (0) dp0 (dkN_lit (x := 0) (0) rfl) (dk_ne c4) rfl)).elim
      ·
        refine lv_aload_n hx hb dX6_takes_13 rfl (lv_at hl 0 rfl) ?_
        refine lv_aload_n hx hb dX6_takes_14 rfl (lv_at hl 0 rfl) ?_
        refine dk_get (k := 340) hx hb hts iX6_takes_6 hown hK (dk_at340 hW) rfl 10 (by decide) (hts (.fieldLink RX6 89 "DogKingsModel" "start" "I") (List.mem_of_getElem? (i := 1) rfl)) rfl dX6_takes_15 ?_
        refine lv_topi (fun v5 ev5 => ?_)
        have dv5 : dkN [(0, 90)] v5 := by rw [ev5]; exact (hO 340 10)
        refine dk_put (k := 340) hx hb hts iX6_takes_6 tyX6 tyX6_ok nmX6 hown hK hW (dk_at340 hW) hS rfl 8 (by decide) (hts (.fieldLink RX6 101 "DogKingsModel" "faultPlace" "I") (List.mem_of_getElem? (i := 2) rfl)) rfl rfl (Nat.le_of_ble_eq_true rfl) rfl dX6_takes_18 (fun I6 H6 L6 eI6 hW hS => ?_)
        have eI6 : I6 = dkU I1 340 8 v5 := eI6
        have hO := dkO_set hO eI6 (dkN_sub dv5 rfl)
        have hF := dkF_set hF eI6 rfl
        refine lv_aload_n hx hb dX6_takes_21 rfl (lv_at hl 0 rfl) ?_
        refine lv_iload_n hx hb dX6_takes_22 rfl (lv_at hl 2 rfl) ?_
        refine dk_put (k := 340) hx hb hts iX6_takes_6 tyX6 tyX6_ok nmX6 hown hK hW (dk_at340 hW) hS rfl 7 (by decide) (hts (.fieldLink RX6 108 "DogKingsModel" "faultKind" "I") (List.mem_of_getElem? (i := 3) rfl)) rfl rfl (Nat.le_of_ble_eq_true rfl) rfl dX6_takes_23 (fun I7 H7 L7 eI7 hW hS => ?_)
        have eI7 : I7 = dkU I6 340 7 p1 := eI7
        have hO := dkO_set hO eI7 (dkN_sub dp1 rfl)
        have hF := dkF_set hF eI7 rfl
        refine lv_iconst (v := 0) hx hb dX6_takes_26 (by decide) ?_
        exact W.iret (v := 0) hx hb hr (fun t ht hW9 => ⟨⟨0, I7, rfl, ⟨hF, hO, ⟨dkN_sub (dkN_lit (x := 0) (0) rfl) rfl, (show dkN [(-2147483648, -1), (10, 2147483647)] (I7 340 12) from dkN_sub (by rw [eI7, dkU_sn (by decide)]; exact (by rw [eI6, dkU_sn (by decide)]; exact (by rw [hF1 340 12 rfl]; exact np0))) rfl), (show dkN [(0, 2147483647)] (I7 340 8) from dkN_sub (by rw [eI7, dkU_sn (by decide)]; exact (by rw [eI6, dkU_ss]; exact dv5)) rfl), trivial⟩⟩, dkW_eq ht hW⟩, hS.F ht⟩) hS.2.2 dX6_takes_27
    ·
      exact (dkN_nil (show dkN [] v1 from dkN_eq1 dv1 (dkN_lit (x := 0) (0) rfl) (congrArg Int32.toInt c3) rfl)).elim
set_option maxHeartbeats 4000000 in
set_option maxRecDepth 100000 in
theorem c_X6_takes_26 (l : Launch) (g : dkG) (z : Nat) (I0 : dkI) (p0 : Int32) (p1 : Int32) (dp0 : dkN [(1, 1)] p0) (dp1 : dkN [(2, 2)] p1) (np0 : dkN [(0, 9)] (I0 340 12))  (hO : dkOk I0) : Met l yX6_takes wsX6_takes (dkR 2) (dkPc g z [.ref (z + 340), .int p0, .int p1] I0) (dkQi g z (fun r I1 => dkF [(340, 340, 9, 12)] I0 I1 ∧ dkOk I1 ∧ ((dkN [(0, 9)] r ∧ True)))) 0 0 (dkA z) := by
  refine Met.ofW (cc := cX6_takes) (maxL := 4) (ret := (some .int)) (by decide) rfl ?_
  intro p e s m args below meth c s₁ B hml hv
  obtain ⟨ha, hW, hK, hT⟩ := hv
  have hx := B.exec
  have hb := B.bytes
  have hr := B.returns
  have hts := atoms_spec (ws := wsX6_takes) B.pre
  have hown : s.vm.findClass RX6 = some m.cls := findClass_of_methodNamed B.named
  have hlocks := B.notSynchronized
  have hS : va_S (dkA z) s.heap s.heap [] := va_S.rf
  have hF : dkF [(340, 340, 9, 12)] I0 I0 := dkF_rf _ _
  have hl := lv_entry ([.ref (z + 340), .int p0, .int p1]) (n := 4) (Nat.le_of_ble_eq_true rfl)
  have hgo : entryFrame m args 4 = entryFrame m ([.ref (z + 340), .int p0, .int p1] : List Value).toArray 4 := by rw [ha]
  rw [hgo, lg_entry_eq]
  generalize (lg_sl ([.ref (z + 340), .int p0, .int p1]) ++ List.replicate (4 - (lg_sl ([.ref (z + 340), .int p0, .int p1])).length) Slot.unset).toArray = ls at hl ⊢
  have hl : lv_has ls 4 [(0, .ref (z + 340)), (1, .int p0), (2, .int p1)] := hl
  refine lv_aload_n hx hb dX6_takes_0 rfl (lv_at hl 0 rfl) ?_
  refine dk_Vi (As := []) (rest := []) ⟨hx, hb, hml, hown, hts⟩ (c_X6_isWell_3 l g z I0 hO) (cwV 0 hts gX6_takes_X6_isWell rfl rfl rfl (by decide +kernel) ⟨Nat.le_of_ble_eq_true rfl, Nat.le_of_ble_eq_true rfl⟩) (dk_at340 hW) rfl hK hT hW hS rfl hl.1 rfl (Nat.le_of_ble_eq_true rfl) dX6_takes_1 ⟨Nat.zero_le _, Nat.zero_le _⟩ (fun v1 I1 H1 L1 hp1 hW hS => ?_)
  obtain ⟨hF1, hO, hc1⟩ := hp1
  have hF := dkF_call hF hF1 rfl
  rcases hc1 with ⟨dv1, f1_340_8, -⟩ | hc1
  ·
    refine lv_if_ne (tgt := 9) hx hb dX6_takes_4 (by decide) (fun c2 => ?_) (fun c2 => ?_)
    ·
      exact (dkN_nil (show dkN [] v1 from dkN_ne1 (0) dv1 (dkN_lit (x := 0) (0) rfl) (dk_ne c2) rfl)).elim
    ·
      refine lv_iconst (v := 0) hx hb dX6_takes_7 (by decide) ?_
      exact W.iret (v := 0) hx hb hr (fun t ht hW9 => ⟨⟨0, I1, rfl, ⟨hF, hO, ⟨dkN_sub (dkN_lit (x := 0) (0) rfl) rfl, trivial⟩⟩, dkW_eq ht hW⟩, hS.F ht⟩) hS.2.2 dX6_takes_8
  ·
    obtain ⟨dv1, f1_340_8, -⟩ := hc1
    refine lv_if_ne (tgt := 9) hx hb dX6_takes_4 (by decide) (fun c3 => ?_) (fun c3 => ?_)
    ·
      refine lv_iload_n hx hb dX6_takes_9 rfl (lv_at hl 1 rfl) ?_
      refine lv_if_ne (tgt := 28) hx hb dX6_takes_10 (by decide) (fun c4 => ?_) (fun c4 => ?_)
      ·
        refine lv_aload_n hx hb dX6_takes_28 rfl (lv_at hl 0 rfl) ?_
        refine dk_get (k := 340) hx hb hts iX6_takes_6 hown hK (dk_at340 hW) rfl 12 (by decide) (hts (.fieldLink RX6 95 "DogKingsModel" "value" "I") (List.mem_of_getElem? (i := 4) rfl)) rfl dX6_takes_29 ?_
        refine lv_topi (fun v5 ev5 => ?_)
        have dv5 : dkN [(0, 9)] v5 := by rw [ev5]; exact (by rw [hF1 340 12 rfl]; exact np0)
        refine lv_istore_n (lv' := [(3, .int v5), (0, .ref (z + 340)), (1, .int p0), (2, .int p1)]) hx hb dX6_takes_32 rfl hl (by decide) rfl (fun ls hl => ?_)
        refine lv_aload_n hx hb dX6_takes_33 rfl (lv_at hl 1 rfl) ?_
        refine dk_Vv (As := []) (rest := []) ⟨hx, hb, hml, hown, hts⟩ (c_X6_advances_0 l g z I1 hO) (cwV 0 hts gX6_takes_X6_advances rfl rfl rfl (by decide +kernel) ⟨Nat.le_of_ble_eq_true rfl, Nat.le_of_ble_eq_true rfl⟩) (dk_at340 hW) rfl hK hT hW hS rfl hl.1 rfl (Nat.le_of_ble_eq_true rfl) dX6_takes_34 ⟨Nat.zero_le _, Nat.zero_le _⟩ (fun I6 H6 L6 hp6 hW hS => ?_)
        obtain ⟨hF6, hO, hc6⟩ := hp6
        have hF := dkF_call hF hF6 rfl
        obtain ⟨f6_340_11, -⟩ := hc6
        refine lv_iload_n hx hb dX6_takes_37 rfl (lv_at hl 0 rfl) ?_
        exact W.iret (v := v5) hx hb hr (fun t ht hW9 => ⟨⟨v5, I6, rfl, ⟨hF, hO, ⟨dkN_sub dv5 rfl, trivial⟩⟩, dkW_eq ht hW⟩, hS.F ht⟩) hS.2.2 dX6_takes_38
      ·
        exact (dkN_nil (show dkN [] p0 from dkN_eq1 dp0 (dkN_lit (x := 0) (0) rfl) (congrArg Int32.toInt c4) rfl)).elim
    ·
      exact (dkN_nil (show dkN [] v1 from dkN_eq1 dv1 (dkN_lit (x := 0) (0) rfl) (congrArg Int32.toInt c3) rfl)).elim
set_option maxHeartbeats 4000000 in
set_option maxRecDepth 100000 in
theorem c_X6_figure_7 (l : Launch) (g : dkG) (z : Nat) (I0 : dkI) (p0 : Int32) (p1 : Int32) (dp0 : dkN [(0, 0)] p0) (dp1 : dkN [(9, 9)] p1)  (hO : dkOk I0) : Met l yX6_figure wsX6_figure (dkR 3) (dkPc g z [.ref (z + 340), .int p0, .int p1] I0) (dkQi g z (fun r I1 => dkF [(340, 340, 7, 12)] I0 I1 ∧ dkOk I1 ∧ ((dkN [(0, 9)] r ∧ True)))) 0 0 (dkA z) := by
  refine Met.ofW (cc := cX6_figure) (maxL := 3) (ret := (some .int)) (by decide) rfl ?_
  intro p e s m args below meth c s₁ B hml hv
  obtain ⟨ha, hW, hK, hT⟩ := hv
  have hx := B.exec
  have hb := B.bytes
  have hr := B.returns
  have hts := atoms_spec (ws := wsX6_figure) B.pre
  have hown : s.vm.findClass RX6 = some m.cls := findClass_of_methodNamed B.named
  have hlocks := B.notSynchronized
  have hS : va_S (dkA z) s.heap s.heap [] := va_S.rf
  have hF : dkF [(340, 340, 7, 12)] I0 I0 := dkF_rf _ _
  have hl := lv_entry ([.ref (z + 340), .int p0, .int p1]) (n := 3) (Nat.le_of_ble_eq_true rfl)
  have hgo : entryFrame m args 3 = entryFrame m ([.ref (z + 340), .int p0, .int p1] : List Value).toArray 3 := by rw [ha]
  rw [hgo, lg_entry_eq]
  generalize (lg_sl ([.ref (z + 340), .int p0, .int p1]) ++ List.replicate (3 - (lg_sl ([.ref (z + 340), .int p0, .int p1])).length) Slot.unset).toArray = ls at hl ⊢
  have hl : lv_has ls 3 [(0, .ref (z + 340)), (1, .int p0), (2, .int p1)] := hl
  have C22 : ∀ (I : dkI) (H : Heap) (locs : List Loc) (ls : Array Slot), dkW g z I H → va_S (dkA z) s.heap H locs → dkF [(340, 340, 7, 12)] I0 I → dkOk I → lv_has ls 3 [(0, .ref (z + 340)), (1, .int p0), (2, .int p1)] → W p l e (headSpec wsX6_figure (dkR 3)).room s m args below meth c H locs 0 0 (MQ below (dkQi g z (fun r I1 => dkF [(340, 340, 7, 12)] I0 I1 ∧ dkOk I1 ∧ ((dkN [(0, 9)] r ∧ True)))) args s 0 0 (dkA z)) (F0 m 22 ls []) := by
    intro I22_ H locs ls hW hS hF_22 hO hl
    have hF := hF_22
    refine lv_aload_n hx hb dX6_figure_22 rfl (lv_at hl 0 rfl) ?_
    refine lv_aload_n hx hb dX6_figure_23 rfl (lv_at hl 0 rfl) ?_
    refine dk_get (k := 340) hx hb hts iX6_figure_6 hown hK (dk_at340 hW) rfl 12 (by decide) (hts (.fieldLink RX6 95 "DogKingsModel" "value" "I") (List.mem_of_getElem? (i := 2) rfl)) rfl dX6_figure_24 ?_
    refine lv_topi (fun v1 ev1 => ?_)
    refine lv_iload_n hx hb dX6_figure_27 rfl (lv_at hl 1 rfl) ?_
    refine lv_iload_n hx hb dX6_figure_28 rfl (lv_at hl 2 rfl) ?_
    refine dk_Si (As := [.int v1, .int p0, .int p1]) (rest := [.ref (z + 340)]) ⟨hx, hb, hml, hown, hts⟩ (c_X6_in_10 l g z I22_ v1 p0 p1 dp0 dp1 hO) (va_cwS 3 hts gX6_figure_X6_in rfl rfl rfl (by decide +kernel) ⟨Nat.le_of_ble_eq_true rfl, Nat.le_of_ble_eq_true rfl⟩) hK hT hW hS rfl hl.1 rfl (Nat.le_of_ble_eq_true rfl) dX6_figure_29 ⟨Nat.zero_le _, Nat.zero_le _⟩ (fun v2 I2 H2 L2 hp2 hW hS => ?_)
    obtain ⟨hF2, hO, hc2⟩ := hp2
    have hF := dkF_call hF hF2 rfl
    rcases hc2 with ⟨dv2, a2_0, -⟩ | hc2
    ·
      have e3 : v1 = I2 340 12 := by rw [hF2 340 12 rfl]; exact ev1
      have d4 : dkN [(-2147483648, -1), (10, 2147483647)] v1 := dkN_eq1 (dkN_top v1) a2_0 rfl rfl
      have f5 : dkN [(-2147483648, -1), (10, 2147483647)] (I2 340 12) := by rw [← e3]; exact d4
      refine lv_iconst (v := 2) hx hb dX6_figure_32 (by decide) ?_
      refine dk_Vi (As := [.int v2, .int 2]) (rest := []) ⟨hx, hb, hml, hown, hts⟩ (c_X6_takes_25 l g z I2 v2 2 dv2 (dkN_lit (x := 2) (2) rfl) (show dkN [(-2147483648, -1), (10, 2147483647)] (I2 340 12) from dkN_sub f5 rfl) hO) (cwV 2 hts gX6_figure_X6_takes rfl rfl rfl (by decide +kernel) ⟨Nat.le_of_ble_eq_true rfl, Nat.le_of_ble_eq_true rfl⟩) (dk_at340 hW) rfl hK hT hW hS rfl hl.1 rfl (Nat.le_of_ble_eq_true rfl) dX6_figure_33 ⟨Nat.zero_le _, Nat.zero_le _⟩ (fun v6 I6 H6 L6 hp6 hW hS => ?_)
      obtain ⟨hF6, hO, hc6⟩ := hp6
      have hF := dkF_call hF hF6 rfl
      obtain ⟨dv6, f6_340_12, f6_340_8, -⟩ := hc6
      exact W.iret (v := v6) hx hb hr (fun t ht hW9 => ⟨⟨v6, I6, rfl, ⟨hF, hO, ⟨dkN_sub dv6 rfl, trivial⟩⟩, dkW_eq ht hW⟩, hS.F ht⟩) hS.2.2 dX6_figure_36
    ·
      obtain ⟨dv2, a2_0, -⟩ := hc2
      have e7 : v1 = I2 340 12 := by rw [hF2 340 12 rfl]; exact ev1
      have d8 : dkN [(0, 9)] v1 := dkN_eq1 (dkN_top v1) a2_0 rfl rfl
      have f9 : dkN [(0, 9)] (I2 340 12) := by rw [← e7]; exact d8
      refine lv_iconst (v := 2) hx hb dX6_figure_32 (by decide) ?_
      refine dk_Vi (As := [.int v2, .int 2]) (rest := []) ⟨hx, hb, hml, hown, hts⟩ (c_X6_takes_26 l g z I2 v2 2 dv2 (dkN_lit (x := 2) (2) rfl) (show dkN [(0, 9)] (I2 340 12) from dkN_sub f9 rfl) hO) (cwV 2 hts gX6_figure_X6_takes rfl rfl rfl (by decide +kernel) ⟨Nat.le_of_ble_eq_true rfl, Nat.le_of_ble_eq_true rfl⟩) (dk_at340 hW) rfl hK hT hW hS rfl hl.1 rfl (Nat.le_of_ble_eq_true rfl) dX6_figure_33 ⟨Nat.zero_le _, Nat.zero_le _⟩ (fun v10 I10 H10 L10 hp10 hW hS => ?_)
      obtain ⟨hF10, hO, hc10⟩ := hp10
      have hF := dkF_call hF hF10 rfl
      obtain ⟨dv10, -⟩ := hc10
      exact W.iret (v := v10) hx hb hr (fun t ht hW9 => ⟨⟨v10, I10, rfl, ⟨hF, hO, ⟨dkN_sub dv10 rfl, trivial⟩⟩, dkW_eq ht hW⟩, hS.F ht⟩) hS.2.2 dX6_figure_36
  refine lv_aload_n hx hb dX6_figure_0 rfl (lv_at hl 0 rfl) ?_
  refine dk_Vi (As := []) (rest := []) ⟨hx, hb, hml, hown, hts⟩ (c_X6_isWell_3 l g z I0 hO) (cwV 0 hts gX6_figure_X6_isWell rfl rfl rfl (by decide +kernel) ⟨Nat.le_of_ble_eq_true rfl, Nat.le_of_ble_eq_true rfl⟩) (dk_at340 hW) rfl hK hT hW hS rfl hl.1 rfl (Nat.le_of_ble_eq_true rfl) dX6_figure_1 ⟨Nat.zero_le _, Nat.zero_le _⟩ (fun v11 I11 H11 L11 hp11 hW hS => ?_)
  obtain ⟨hF11, hO, hc11⟩ := hp11
  have hF := dkF_call hF hF11 rfl
  rcases hc11 with ⟨dv11, f11_340_8, -⟩ | hc11
  ·
    refine lv_if_eq (tgt := 22) hx hb dX6_figure_4 (by decide) (fun c12 => ?_) (fun c12 => ?_)
    ·
      exact C22 I11 _ _ ls  hW hS hF hO  (lv_sub hl [0, 1, 2] rfl)
    ·
      exact (dkN_nil (show dkN [] v11 from dkN_ne1 (0) dv11 (dkN_lit (x := 0) (0) rfl) (dk_ne c12) rfl)).elim
  ·
    obtain ⟨dv11, f11_340_8, -⟩ := hc11
    refine lv_if_eq (tgt := 22) hx hb dX6_figure_4 (by decide) (fun c13 => ?_) (fun c13 => ?_)
    ·
      exact (dkN_nil (show dkN [] v11 from dkN_eq1 dv11 (dkN_lit (x := 0) (0) rfl) (congrArg Int32.toInt c13) rfl)).elim
    ·
      refine lv_aload_n hx hb dX6_figure_7 rfl (lv_at hl 0 rfl) ?_
      refine dk_get (k := 340) hx hb hts iX6_figure_6 hown hK (dk_at340 hW) rfl 11 (by decide) (hts (.fieldLink RX6 98 "DogKingsModel" "token" "I") (List.mem_of_getElem? (i := 1) rfl)) rfl dX6_figure_8 ?_
      refine lv_topi (fun v14 ev14 => ?_)
      refine lv_iconst (v := 2) hx hb dX6_figure_11 (by decide) ?_
      refine lv_icmp_eq (tgt := 22) hx hb dX6_figure_12 (by decide) (fun c15 => ?_) (fun c15 => ?_)
      ·
        have d16 : dkN [(2, 2)] v14 := dkN_eq1 (dkN_top v14) (dkN_lit (x := 2) (2) rfl) (congrArg Int32.toInt c15) rfl
        have f17 : dkN [(2, 2)] (I11 340 11) := by rw [← ev14]; exact d16
        exact C22 I11 _ _ ls  hW hS hF hO  (lv_sub hl [0, 1, 2] rfl)
      ·
        have d18 : dkN [(-2147483648, 1), (3, 2147483647)] v14 := dkN_ne1 (2) (dkN_top v14) (dkN_lit (x := 2) (2) rfl) (dk_ne c15) rfl
        have f19 : dkN [(-2147483648, 1), (3, 2147483647)] (I11 340 11) := by rw [← ev14]; exact d18
        refine lv_aload_n hx hb dX6_figure_15 rfl (lv_at hl 0 rfl) ?_
        refine lv_iconst (v := 0) hx hb dX6_figure_16 (by decide) ?_
        refine lv_iconst (v := 1) hx hb dX6_figure_17 (by decide) ?_
        refine dk_Vi (As := [.int 0, .int 1]) (rest := []) ⟨hx, hb, hml, hown, hts⟩ (c_X6_takes_21 l g z I11 0 1 (dkN_lit (x := 0) (0) rfl) (dkN_lit (x := 1) (1) rfl) (show dkN [(-2147483648, -1)] (I11 340 8) from dkN_sub f11_340_8 rfl) hO) (cwV 2 hts gX6_figure_X6_takes rfl rfl rfl (by decide +kernel) ⟨Nat.le_of_ble_eq_true rfl, Nat.le_of_ble_eq_true rfl⟩) (dk_at340 hW) rfl hK hT hW hS rfl hl.1 rfl (Nat.le_of_ble_eq_true rfl) dX6_figure_18 ⟨Nat.zero_le _, Nat.zero_le _⟩ (fun v20 I20 H20 L20 hp20 hW hS => ?_)
        obtain ⟨hF20, hO, hc20⟩ := hp20
        have hF := dkF_call hF hF20 rfl
        obtain ⟨dv20, f20_340_7, f20_340_8, -⟩ := hc20
        exact W.iret (v := v20) hx hb hr (fun t ht hW9 => ⟨⟨v20, I20, rfl, ⟨hF, hO, ⟨dkN_sub dv20 rfl, trivial⟩⟩, dkW_eq ht hW⟩, hS.F ht⟩) hS.2.2 dX6_figure_21
set_option maxHeartbeats 4000000 in
set_option maxRecDepth 100000 in
theorem c_X6_follows_4 (l : Launch) (g : dkG) (z : Nat) (I0 : dkI) (p0 : Int32) (p1 : Int32) (dp0 : dkN [(0, 0)] p0) (dp1 : dkN [(9, 9)] p1)  (hO : dkOk I0) : Met l yX6_follows wsX6_follows (dkR 4) (dkPc g z [.ref (z + 340), .int p0, .int p1] I0) (dkQi g z (fun r I1 => dkF [(340, 340, 7, 12)] I0 I1 ∧ dkOk I1 ∧ ((dkN [(0, 9)] r ∧ True)))) 0 0 (dkA z) := by
  refine Met.ofW (cc := cX6_follows) (maxL := 3) (ret := (some .int)) (by decide) rfl ?_
  intro p e s m args below meth c s₁ B hml hv
  obtain ⟨ha, hW, hK, hT⟩ := hv
  have hx := B.exec
  have hb := B.bytes
  have hr := B.returns
  have hts := atoms_spec (ws := wsX6_follows) B.pre
  have hown : s.vm.findClass RX6 = some m.cls := findClass_of_methodNamed B.named
  have hlocks := B.notSynchronized
  have hS : va_S (dkA z) s.heap s.heap [] := va_S.rf
  have hF : dkF [(340, 340, 7, 12)] I0 I0 := dkF_rf _ _
  have hl := lv_entry ([.ref (z + 340), .int p0, .int p1]) (n := 3) (Nat.le_of_ble_eq_true rfl)
  have hgo : entryFrame m args 3 = entryFrame m ([.ref (z + 340), .int p0, .int p1] : List Value).toArray 3 := by rw [ha]
  rw [hgo, lg_entry_eq]
  generalize (lg_sl ([.ref (z + 340), .int p0, .int p1]) ++ List.replicate (3 - (lg_sl ([.ref (z + 340), .int p0, .int p1])).length) Slot.unset).toArray = ls at hl ⊢
  have hl : lv_has ls 3 [(0, .ref (z + 340)), (1, .int p0), (2, .int p1)] := hl
  have C14 : ∀ (I : dkI) (H : Heap) (locs : List Loc) (ls : Array Slot) (x14_s0 : Int32), dkW g z I H → va_S (dkA z) s.heap H locs → dkF [(340, 340, 7, 12)] I0 I → dkOk I → dkN [(0, 1)] x14_s0 → lv_has ls 3 [(0, .ref (z + 340)), (1, .int p0), (2, .int p1)] → W p l e (headSpec wsX6_follows (dkR 4)).room s m args below meth c H locs 0 0 (MQ below (dkQi g z (fun r I1 => dkF [(340, 340, 7, 12)] I0 I1 ∧ dkOk I1 ∧ ((dkN [(0, 9)] r ∧ True)))) args s 0 0 (dkA z)) (F0 m 14 ls [.int x14_s0, .ref (z + 340)]) := by
    intro I14_ H locs ls x14_s0 hW hS hF_14 hO k14_0 hl
    have hF := hF_14
    refine lv_iconst (v := 1) hx hb dX6_follows_14 (by decide) ?_
    refine dk_Vi (As := [.int x14_s0, .int 1]) (rest := []) ⟨hx, hb, hml, hown, hts⟩ (c_X6_takes_24 l g z I14_ x14_s0 1 k14_0 (dkN_lit (x := 1) (1) rfl) hO) (cwV 2 hts gX6_follows_X6_takes rfl rfl rfl (by decide +kernel) ⟨Nat.le_of_ble_eq_true rfl, Nat.le_of_ble_eq_true rfl⟩) (dk_at340 hW) rfl hK hT hW hS rfl hl.1 rfl (Nat.le_of_ble_eq_true rfl) dX6_follows_15 ⟨Nat.zero_le _, Nat.zero_le _⟩ (fun v1 I1 H1 L1 hp1 hW hS => ?_)
    obtain ⟨hF1, hO, hc1⟩ := hp1
    have hF := dkF_call hF hF1 rfl
    obtain ⟨_, -⟩ := hc1
    refine lv_pop hx hb dX6_follows_18 rfl ?_
    refine lv_aload_n hx hb dX6_follows_19 rfl (lv_at hl 0 rfl) ?_
    refine lv_iload_n hx hb dX6_follows_20 rfl (lv_at hl 1 rfl) ?_
    refine lv_iload_n hx hb dX6_follows_21 rfl (lv_at hl 2 rfl) ?_
    refine dk_Vi (As := [.int p0, .int p1]) (rest := []) ⟨hx, hb, hml, hown, hts⟩ (c_X6_figure_7 l g z I1 p0 p1 dp0 dp1 hO) (cwV 2 hts gX6_follows_X6_figure rfl rfl rfl (by decide +kernel) ⟨Nat.le_of_ble_eq_true rfl, Nat.le_of_ble_eq_true rfl⟩) (dk_at340 hW) rfl hK hT hW hS rfl hl.1 rfl (Nat.le_of_ble_eq_true rfl) dX6_follows_22 ⟨Nat.zero_le _, Nat.zero_le _⟩ (fun v2 I2 H2 L2 hp2 hW hS => ?_)
    obtain ⟨hF2, hO, hc2⟩ := hp2
    have hF := dkF_call hF hF2 rfl
    obtain ⟨dv2, -⟩ := hc2
    exact W.iret (v := v2) hx hb hr (fun t ht hW9 => ⟨⟨v2, I2, rfl, ⟨hF, hO, ⟨dkN_sub dv2 rfl, trivial⟩⟩, dkW_eq ht hW⟩, hS.F ht⟩) hS.2.2 dX6_follows_25
  refine lv_aload_n hx hb dX6_follows_0 rfl (lv_at hl 0 rfl) ?_
  refine lv_aload_n hx hb dX6_follows_1 rfl (lv_at hl 0 rfl) ?_
  refine dk_get (k := 340) hx hb hts iX6_follows_6 hown hK (dk_at340 hW) rfl 11 (by decide) (hts (.fieldLink RX6 98 "DogKingsModel" "token" "I") (List.mem_of_getElem? (i := 1) rfl)) rfl dX6_follows_2 ?_
  refine lv_topi (fun v3 ev3 => ?_)
  refine lv_iconst (v := 3) hx hb dX6_follows_5 (by decide) ?_
  refine lv_icmp_ne (tgt := 13) hx hb dX6_follows_6 (by decide) (fun c4 => ?_) (fun c4 => ?_)
  ·
    have d5 : dkN [(-2147483648, 2), (4, 2147483647)] v3 := dkN_ne1 (3) (dkN_top v3) (dkN_lit (x := 3) (3) rfl) (dk_ne c4) rfl
    have f6 : dkN [(-2147483648, 2), (4, 2147483647)] (I0 340 11) := by rw [← ev3]; exact d5
    refine lv_iconst (v := 0) hx hb dX6_follows_13 (by decide) ?_
    exact C14 I0 _ _ ls 0 hW hS hF hO (dkN_sub (dkN_lit (x := 0) (0) rfl) rfl) (lv_sub hl [0, 1, 2] rfl)
  ·
    have d7 : dkN [(3, 3)] v3 := dkN_eq1 (dkN_top v3) (dkN_lit (x := 3) (3) rfl) (congrArg Int32.toInt c4) rfl
    have f8 : dkN [(3, 3)] (I0 340 11) := by rw [← ev3]; exact d7
    refine lv_iconst (v := 1) hx hb dX6_follows_9 (by decide) ?_
    refine lv_goto (tgt := 14) hx hb dX6_follows_10 (by decide) ?_
    exact C14 I0 _ _ ls 1 hW hS hF hO (dkN_sub (dkN_lit (x := 1) (1) rfl) rfl) (lv_sub hl [0, 1, 2] rfl)
set_option maxHeartbeats 4000000 in
set_option maxRecDepth 100000 in
theorem c_X6_takes_27 (l : Launch) (g : dkG) (z : Nat) (I0 : dkI) (p0 : Int32) (p1 : Int32) (dp0 : dkN [(0, 0)] p0) (dp1 : dkN [(2, 2)] p1) (np0 : dkN [(-2147483648, -1), (3, 2147483647)] (I0 340 12))  (hO : dkOk I0) : Met l yX6_takes wsX6_takes (dkR 1) (dkPc g z [.ref (z + 340), .int p0, .int p1] I0) (dkQi g z (fun r I1 => dkF [(340, 340, 7, 8)] I0 I1 ∧ dkOk I1 ∧ ((dkN [(0, 0)] r ∧ dkN [(-2147483648, -1), (3, 2147483647)] (I1 340 12) ∧ dkN [(0, 2147483647)] (I1 340 8) ∧ True)))) 0 0 (dkA z) := by
  refine Met.ofW (cc := cX6_takes) (maxL := 4) (ret := (some .int)) (by decide) rfl ?_
  intro p e s m args below meth c s₁ B hml hv
  obtain ⟨ha, hW, hK, hT⟩ := hv
  have hx := B.exec
  have hb := B.bytes
  have hr := B.returns
  have hts := atoms_spec (ws := wsX6_takes) B.pre
  have hown : s.vm.findClass RX6 = some m.cls := findClass_of_methodNamed B.named
  have hlocks := B.notSynchronized
  have hS : va_S (dkA z) s.heap s.heap [] := va_S.rf
  have hF : dkF [(340, 340, 7, 8)] I0 I0 := dkF_rf _ _
  have hl := lv_entry ([.ref (z + 340), .int p0, .int p1]) (n := 4) (Nat.le_of_ble_eq_true rfl)
  have hgo : entryFrame m args 4 = entryFrame m ([.ref (z + 340), .int p0, .int p1] : List Value).toArray 4 := by rw [ha]
  rw [hgo, lg_entry_eq]
  generalize (lg_sl ([.ref (z + 340), .int p0, .int p1]) ++ List.replicate (4 - (lg_sl ([.ref (z + 340), .int p0, .int p1])).length) Slot.unset).toArray = ls at hl ⊢
  have hl : lv_has ls 4 [(0, .ref (z + 340)), (1, .int p0), (2, .int p1)] := hl
  refine lv_aload_n hx hb dX6_takes_0 rfl (lv_at hl 0 rfl) ?_
  refine dk_Vi (As := []) (rest := []) ⟨hx, hb, hml, hown, hts⟩ (c_X6_isWell_3 l g z I0 hO) (cwV 0 hts gX6_takes_X6_isWell rfl rfl rfl (by decide +kernel) ⟨Nat.le_of_ble_eq_true rfl, Nat.le_of_ble_eq_true rfl⟩) (dk_at340 hW) rfl hK hT hW hS rfl hl.1 rfl (Nat.le_of_ble_eq_true rfl) dX6_takes_1 ⟨Nat.zero_le _, Nat.zero_le _⟩ (fun v1 I1 H1 L1 hp1 hW hS => ?_)
  obtain ⟨hF1, hO, hc1⟩ := hp1
  have hF := dkF_call hF hF1 rfl
  rcases hc1 with ⟨dv1, f1_340_8, -⟩ | hc1
  ·
    refine lv_if_ne (tgt := 9) hx hb dX6_takes_4 (by decide) (fun c2 => ?_) (fun c2 => ?_)
    ·
      exact (dkN_nil (show dkN [] v1 from dkN_ne1 (0) dv1 (dkN_lit (x := 0) (0) rfl) (dk_ne c2) rfl)).elim
    ·
      refine lv_iconst (v := 0) hx hb dX6_takes_7 (by decide) ?_
      exact W.iret (v := 0) hx hb hr (fun t ht hW9 => ⟨⟨0, I1, rfl, ⟨hF, hO, ⟨dkN_sub (dkN_lit (x := 0) (0) rfl) rfl, (show dkN [(-2147483648, -1), (3, 2147483647)] (I1 340 12) from dkN_sub (by rw [hF1 340 12 rfl]; exact np0) rfl), (show dkN [(0, 2147483647)] (I1 340 8) from dkN_sub f1_340_8 rfl), trivial⟩⟩, dkW_eq ht hW⟩, hS.F ht⟩) hS.2.2 dX6_takes_8
  ·
    obtain ⟨dv1, f1_340_8, -⟩ := hc1
    refine lv_if_ne (tgt := 9) hx hb dX6_takes_4 (by decide) (fun c3 => ?_) (fun c3 => ?_)
    ·
      refine lv_iload_n hx hb dX6_takes_9 rfl (lv_at hl 1 rfl) ?_
      refine lv_if_ne (tgt := 28) hx hb dX6_takes_10 (by decide) (fun c4 => ?_) (fun c4 => ?_)
      ·
        exact (dkN_nil (show dkN [] p0 from dkN_ne1 (0) dp0 (dkN_lit (x := 0) (0) rfl) (dk_ne c4) rfl)).elim
      ·
        refine lv_aload_n hx hb dX6_takes_13 rfl (lv_at hl 0 rfl) ?_
        refine lv_aload_n hx hb dX6_takes_14 rfl (lv_at hl 0 rfl) ?_
        refine dk_get (k := 340) hx hb hts iX6_takes_6 hown hK (dk_at340 hW) rfl 10 (by decide) (hts (.fieldLink RX6 89 "DogKingsModel" "start" "I") (List.mem_of_getElem? (i := 1) rfl)) rfl dX6_takes_15 ?_
        refine lv_topi (fun v5 ev5 => ?_)
        have dv5 : dkN [(0, 90)] v5 := by rw [ev5]; exact (hO 340 10)
        refine dk_put (k := 340) hx hb hts iX6_takes_6 tyX6 tyX6_ok nmX6 hown hK hW (dk_at340 hW) hS rfl 8 (by decide) (hts (.fieldLink RX6 101 "DogKingsModel" "faultPlace" "I") (List.mem_of_getElem? (i := 2) rfl)) rfl rfl (Nat.le_of_ble_eq_true rfl) rfl dX6_takes_18 (fun I6 H6 L6 eI6 hW hS => ?_)
        have eI6 : I6 = dkU I1 340 8 v5 := eI6
        have hO := dkO_set hO eI6 (dkN_sub dv5 rfl)
        have hF := dkF_set hF eI6 rfl
        refine lv_aload_n hx hb dX6_takes_21 rfl (lv_at hl 0 rfl) ?_
        refine lv_iload_n hx hb dX6_takes_22 rfl (lv_at hl 2 rfl) ?_
        refine dk_put (k := 340) hx hb hts iX6_takes_6 tyX6 tyX6_ok nmX6 hown hK hW (dk_at340 hW) hS rfl 7 (by decide) (hts (.fieldLink RX6 108 "DogKingsModel" "faultKind" "I") (List.mem_of_getElem? (i := 3) rfl)) rfl rfl (Nat.le_of_ble_eq_true rfl) rfl dX6_takes_23 (fun I7 H7 L7 eI7 hW hS => ?_)
        have eI7 : I7 = dkU I6 340 7 p1 := eI7
        have hO := dkO_set hO eI7 (dkN_sub dp1 rfl)
        have hF := dkF_set hF eI7 rfl
        refine lv_iconst (v := 0) hx hb dX6_takes_26 (by decide) ?_
        exact W.iret (v := 0) hx hb hr (fun t ht hW9 => ⟨⟨0, I7, rfl, ⟨hF, hO, ⟨dkN_sub (dkN_lit (x := 0) (0) rfl) rfl, (show dkN [(-2147483648, -1), (3, 2147483647)] (I7 340 12) from dkN_sub (by rw [eI7, dkU_sn (by decide)]; exact (by rw [eI6, dkU_sn (by decide)]; exact (by rw [hF1 340 12 rfl]; exact np0))) rfl), (show dkN [(0, 2147483647)] (I7 340 8) from dkN_sub (by rw [eI7, dkU_sn (by decide)]; exact (by rw [eI6, dkU_ss]; exact dv5)) rfl), trivial⟩⟩, dkW_eq ht hW⟩, hS.F ht⟩) hS.2.2 dX6_takes_27
    ·
      exact (dkN_nil (show dkN [] v1 from dkN_eq1 dv1 (dkN_lit (x := 0) (0) rfl) (congrArg Int32.toInt c3) rfl)).elim
set_option maxHeartbeats 4000000 in
set_option maxRecDepth 100000 in
theorem c_X6_takes_28 (l : Launch) (g : dkG) (z : Nat) (I0 : dkI) (p0 : Int32) (p1 : Int32) (dp0 : dkN [(1, 1)] p0) (dp1 : dkN [(2, 2)] p1) (np0 : dkN [(0, 2)] (I0 340 12))  (hO : dkOk I0) : Met l yX6_takes wsX6_takes (dkR 2) (dkPc g z [.ref (z + 340), .int p0, .int p1] I0) (dkQi g z (fun r I1 => dkF [(340, 340, 9, 12)] I0 I1 ∧ dkOk I1 ∧ ((dkN [(0, 2)] r ∧ True)))) 0 0 (dkA z) := by
  refine Met.ofW (cc := cX6_takes) (maxL := 4) (ret := (some .int)) (by decide) rfl ?_
  intro p e s m args below meth c s₁ B hml hv
  obtain ⟨ha, hW, hK, hT⟩ := hv
  have hx := B.exec
  have hb := B.bytes
  have hr := B.returns
  have hts := atoms_spec (ws := wsX6_takes) B.pre
  have hown : s.vm.findClass RX6 = some m.cls := findClass_of_methodNamed B.named
  have hlocks := B.notSynchronized
  have hS : va_S (dkA z) s.heap s.heap [] := va_S.rf
  have hF : dkF [(340, 340, 9, 12)] I0 I0 := dkF_rf _ _
  have hl := lv_entry ([.ref (z + 340), .int p0, .int p1]) (n := 4) (Nat.le_of_ble_eq_true rfl)
  have hgo : entryFrame m args 4 = entryFrame m ([.ref (z + 340), .int p0, .int p1] : List Value).toArray 4 := by rw [ha]
  rw [hgo, lg_entry_eq]
  generalize (lg_sl ([.ref (z + 340), .int p0, .int p1]) ++ List.replicate (4 - (lg_sl ([.ref (z + 340), .int p0, .int p1])).length) Slot.unset).toArray = ls at hl ⊢
  have hl : lv_has ls 4 [(0, .ref (z + 340)), (1, .int p0), (2, .int p1)] := hl
  refine lv_aload_n hx hb dX6_takes_0 rfl (lv_at hl 0 rfl) ?_
  refine dk_Vi (As := []) (rest := []) ⟨hx, hb, hml, hown, hts⟩ (c_X6_isWell_3 l g z I0 hO) (cwV 0 hts gX6_takes_X6_isWell rfl rfl rfl (by decide +kernel) ⟨Nat.le_of_ble_eq_true rfl, Nat.le_of_ble_eq_true rfl⟩) (dk_at340 hW) rfl hK hT hW hS rfl hl.1 rfl (Nat.le_of_ble_eq_true rfl) dX6_takes_1 ⟨Nat.zero_le _, Nat.zero_le _⟩ (fun v1 I1 H1 L1 hp1 hW hS => ?_)
  obtain ⟨hF1, hO, hc1⟩ := hp1
  have hF := dkF_call hF hF1 rfl
  rcases hc1 with ⟨dv1, f1_340_8, -⟩ | hc1
  ·
    refine lv_if_ne (tgt := 9) hx hb dX6_takes_4 (by decide) (fun c2 => ?_) (fun c2 => ?_)
    ·
      exact (dkN_nil (show dkN [] v1 from dkN_ne1 (0) dv1 (dkN_lit (x := 0) (0) rfl) (dk_ne c2) rfl)).elim
    ·
      refine lv_iconst (v := 0) hx hb dX6_takes_7 (by decide) ?_
      exact W.iret (v := 0) hx hb hr (fun t ht hW9 => ⟨⟨0, I1, rfl, ⟨hF, hO, ⟨dkN_sub (dkN_lit (x := 0) (0) rfl) rfl, trivial⟩⟩, dkW_eq ht hW⟩, hS.F ht⟩) hS.2.2 dX6_takes_8
  ·
    obtain ⟨dv1, f1_340_8, -⟩ := hc1
    refine lv_if_ne (tgt := 9) hx hb dX6_takes_4 (by decide) (fun c3 => ?_) (fun c3 => ?_)
    ·
      refine lv_iload_n hx hb dX6_takes_9 rfl (lv_at hl 1 rfl) ?_
      refine lv_if_ne (tgt := 28) hx hb dX6_takes_10 (by decide) (fun c4 => ?_) (fun c4 => ?_)
      ·
        refine lv_aload_n hx hb dX6_takes_28 rfl (lv_at hl 0 rfl) ?_
        refine dk_get (k := 340) hx hb hts iX6_takes_6 hown hK (dk_at340 hW) rfl 12 (by decide) (hts (.fieldLink RX6 95 "DogKingsModel" "value" "I") (List.mem_of_getElem? (i := 4) rfl)) rfl dX6_takes_29 ?_
        refine lv_topi (fun v5 ev5 => ?_)
        have dv5 : dkN [(0, 2)] v5 := by rw [ev5]; exact (by rw [hF1 340 12 rfl]; exact np0)
        refine lv_istore_n (lv' := [(3, .int v5), (0, .ref (z + 340)), (1, .int p0), (2, .int p1)]) hx hb dX6_takes_32 rfl hl (by decide) rfl (fun ls hl => ?_)
        refine lv_aload_n hx hb dX6_takes_33 rfl (lv_at hl 1 rfl) ?_
        refine dk_Vv (As := []) (rest := []) ⟨hx, hb, hml, hown, hts⟩ (c_X6_advances_0 l g z I1 hO) (cwV 0 hts gX6_takes_X6_advances rfl rfl rfl (by decide +kernel) ⟨Nat.le_of_ble_eq_true rfl, Nat.le_of_ble_eq_true rfl⟩) (dk_at340 hW) rfl hK hT hW hS rfl hl.1 rfl (Nat.le_of_ble_eq_true rfl) dX6_takes_34 ⟨Nat.zero_le _, Nat.zero_le _⟩ (fun I6 H6 L6 hp6 hW hS => ?_)
        obtain ⟨hF6, hO, hc6⟩ := hp6
        have hF := dkF_call hF hF6 rfl
        obtain ⟨f6_340_11, -⟩ := hc6
        refine lv_iload_n hx hb dX6_takes_37 rfl (lv_at hl 0 rfl) ?_
        exact W.iret (v := v5) hx hb hr (fun t ht hW9 => ⟨⟨v5, I6, rfl, ⟨hF, hO, ⟨dkN_sub dv5 rfl, trivial⟩⟩, dkW_eq ht hW⟩, hS.F ht⟩) hS.2.2 dX6_takes_38
      ·
        exact (dkN_nil (show dkN [] p0 from dkN_eq1 dp0 (dkN_lit (x := 0) (0) rfl) (congrArg Int32.toInt c4) rfl)).elim
    ·
      exact (dkN_nil (show dkN [] v1 from dkN_eq1 dv1 (dkN_lit (x := 0) (0) rfl) (congrArg Int32.toInt c3) rfl)).elim
set_option maxHeartbeats 4000000 in
set_option maxRecDepth 100000 in
theorem c_X6_figure_8 (l : Launch) (g : dkG) (z : Nat) (I0 : dkI) (p0 : Int32) (p1 : Int32) (dp0 : dkN [(0, 0)] p0) (dp1 : dkN [(2, 2)] p1)  (hO : dkOk I0) : Met l yX6_figure wsX6_figure (dkR 3) (dkPc g z [.ref (z + 340), .int p0, .int p1] I0) (dkQi g z (fun r I1 => dkF [(340, 340, 7, 12)] I0 I1 ∧ dkOk I1 ∧ ((dkN [(0, 2)] r ∧ True)))) 0 0 (dkA z) := by
  refine Met.ofW (cc := cX6_figure) (maxL := 3) (ret := (some .int)) (by decide) rfl ?_
  intro p e s m args below meth c s₁ B hml hv
  obtain ⟨ha, hW, hK, hT⟩ := hv
  have hx := B.exec
  have hb := B.bytes
  have hr := B.returns
  have hts := atoms_spec (ws := wsX6_figure) B.pre
  have hown : s.vm.findClass RX6 = some m.cls := findClass_of_methodNamed B.named
  have hlocks := B.notSynchronized
  have hS : va_S (dkA z) s.heap s.heap [] := va_S.rf
  have hF : dkF [(340, 340, 7, 12)] I0 I0 := dkF_rf _ _
  have hl := lv_entry ([.ref (z + 340), .int p0, .int p1]) (n := 3) (Nat.le_of_ble_eq_true rfl)
  have hgo : entryFrame m args 3 = entryFrame m ([.ref (z + 340), .int p0, .int p1] : List Value).toArray 3 := by rw [ha]
  rw [hgo, lg_entry_eq]
  generalize (lg_sl ([.ref (z + 340), .int p0, .int p1]) ++ List.replicate (3 - (lg_sl ([.ref (z + 340), .int p0, .int p1])).length) Slot.unset).toArray = ls at hl ⊢
  have hl : lv_has ls 3 [(0, .ref (z + 340)), (1, .int p0), (2, .int p1)] := hl
  have C22 : ∀ (I : dkI) (H : Heap) (locs : List Loc) (ls : Array Slot), dkW g z I H → va_S (dkA z) s.heap H locs → dkF [(340, 340, 7, 12)] I0 I → dkOk I → lv_has ls 3 [(0, .ref (z + 340)), (1, .int p0), (2, .int p1)] → W p l e (headSpec wsX6_figure (dkR 3)).room s m args below meth c H locs 0 0 (MQ below (dkQi g z (fun r I1 => dkF [(340, 340, 7, 12)] I0 I1 ∧ dkOk I1 ∧ ((dkN [(0, 2)] r ∧ True)))) args s 0 0 (dkA z)) (F0 m 22 ls []) := by
    intro I22_ H locs ls hW hS hF_22 hO hl
    have hF := hF_22
    refine lv_aload_n hx hb dX6_figure_22 rfl (lv_at hl 0 rfl) ?_
    refine lv_aload_n hx hb dX6_figure_23 rfl (lv_at hl 0 rfl) ?_
    refine dk_get (k := 340) hx hb hts iX6_figure_6 hown hK (dk_at340 hW) rfl 12 (by decide) (hts (.fieldLink RX6 95 "DogKingsModel" "value" "I") (List.mem_of_getElem? (i := 2) rfl)) rfl dX6_figure_24 ?_
    refine lv_topi (fun v1 ev1 => ?_)
    refine lv_iload_n hx hb dX6_figure_27 rfl (lv_at hl 1 rfl) ?_
    refine lv_iload_n hx hb dX6_figure_28 rfl (lv_at hl 2 rfl) ?_
    refine dk_Si (As := [.int v1, .int p0, .int p1]) (rest := [.ref (z + 340)]) ⟨hx, hb, hml, hown, hts⟩ (c_X6_in_1 l g z I22_ v1 p0 p1 dp0 dp1 hO) (va_cwS 3 hts gX6_figure_X6_in rfl rfl rfl (by decide +kernel) ⟨Nat.le_of_ble_eq_true rfl, Nat.le_of_ble_eq_true rfl⟩) hK hT hW hS rfl hl.1 rfl (Nat.le_of_ble_eq_true rfl) dX6_figure_29 ⟨Nat.zero_le _, Nat.zero_le _⟩ (fun v2 I2 H2 L2 hp2 hW hS => ?_)
    obtain ⟨hF2, hO, hc2⟩ := hp2
    have hF := dkF_call hF hF2 rfl
    rcases hc2 with ⟨dv2, a2_0, -⟩ | hc2
    ·
      have e3 : v1 = I2 340 12 := by rw [hF2 340 12 rfl]; exact ev1
      have d4 : dkN [(-2147483648, -1), (3, 2147483647)] v1 := dkN_eq1 (dkN_top v1) a2_0 rfl rfl
      have f5 : dkN [(-2147483648, -1), (3, 2147483647)] (I2 340 12) := by rw [← e3]; exact d4
      refine lv_iconst (v := 2) hx hb dX6_figure_32 (by decide) ?_
      refine dk_Vi (As := [.int v2, .int 2]) (rest := []) ⟨hx, hb, hml, hown, hts⟩ (c_X6_takes_27 l g z I2 v2 2 dv2 (dkN_lit (x := 2) (2) rfl) (show dkN [(-2147483648, -1), (3, 2147483647)] (I2 340 12) from dkN_sub f5 rfl) hO) (cwV 2 hts gX6_figure_X6_takes rfl rfl rfl (by decide +kernel) ⟨Nat.le_of_ble_eq_true rfl, Nat.le_of_ble_eq_true rfl⟩) (dk_at340 hW) rfl hK hT hW hS rfl hl.1 rfl (Nat.le_of_ble_eq_true rfl) dX6_figure_33 ⟨Nat.zero_le _, Nat.zero_le _⟩ (fun v6 I6 H6 L6 hp6 hW hS => ?_)
      obtain ⟨hF6, hO, hc6⟩ := hp6
      have hF := dkF_call hF hF6 rfl
      obtain ⟨dv6, f6_340_12, f6_340_8, -⟩ := hc6
      exact W.iret (v := v6) hx hb hr (fun t ht hW9 => ⟨⟨v6, I6, rfl, ⟨hF, hO, ⟨dkN_sub dv6 rfl, trivial⟩⟩, dkW_eq ht hW⟩, hS.F ht⟩) hS.2.2 dX6_figure_36
    ·
      obtain ⟨dv2, a2_0, -⟩ := hc2
      have e7 : v1 = I2 340 12 := by rw [hF2 340 12 rfl]; exact ev1
      have d8 : dkN [(0, 2)] v1 := dkN_eq1 (dkN_top v1) a2_0 rfl rfl
      have f9 : dkN [(0, 2)] (I2 340 12) := by rw [← e7]; exact d8
      refine lv_iconst (v := 2) hx hb dX6_figure_32 (by decide) ?_
      refine dk_Vi (As := [.int v2, .int 2]) (rest := []) ⟨hx, hb, hml, hown, hts⟩ (c_X6_takes_28 l g z I2 v2 2 dv2 (dkN_lit (x := 2) (2) rfl) (show dkN [(0, 2)] (I2 340 12) from dkN_sub f9 rfl) hO) (cwV 2 hts gX6_figure_X6_takes rfl rfl rfl (by decide +kernel) ⟨Nat.le_of_ble_eq_true rfl, Nat.le_of_ble_eq_true rfl⟩) (dk_at340 hW) rfl hK hT hW hS rfl hl.1 rfl (Nat.le_of_ble_eq_true rfl) dX6_figure_33 ⟨Nat.zero_le _, Nat.zero_le _⟩ (fun v10 I10 H10 L10 hp10 hW hS => ?_)
      obtain ⟨hF10, hO, hc10⟩ := hp10
      have hF := dkF_call hF hF10 rfl
      obtain ⟨dv10, -⟩ := hc10
      exact W.iret (v := v10) hx hb hr (fun t ht hW9 => ⟨⟨v10, I10, rfl, ⟨hF, hO, ⟨dkN_sub dv10 rfl, trivial⟩⟩, dkW_eq ht hW⟩, hS.F ht⟩) hS.2.2 dX6_figure_36
  refine lv_aload_n hx hb dX6_figure_0 rfl (lv_at hl 0 rfl) ?_
  refine dk_Vi (As := []) (rest := []) ⟨hx, hb, hml, hown, hts⟩ (c_X6_isWell_3 l g z I0 hO) (cwV 0 hts gX6_figure_X6_isWell rfl rfl rfl (by decide +kernel) ⟨Nat.le_of_ble_eq_true rfl, Nat.le_of_ble_eq_true rfl⟩) (dk_at340 hW) rfl hK hT hW hS rfl hl.1 rfl (Nat.le_of_ble_eq_true rfl) dX6_figure_1 ⟨Nat.zero_le _, Nat.zero_le _⟩ (fun v11 I11 H11 L11 hp11 hW hS => ?_)
  obtain ⟨hF11, hO, hc11⟩ := hp11
  have hF := dkF_call hF hF11 rfl
  rcases hc11 with ⟨dv11, f11_340_8, -⟩ | hc11
  ·
    refine lv_if_eq (tgt := 22) hx hb dX6_figure_4 (by decide) (fun c12 => ?_) (fun c12 => ?_)
    ·
      exact C22 I11 _ _ ls  hW hS hF hO  (lv_sub hl [0, 1, 2] rfl)
    ·
      exact (dkN_nil (show dkN [] v11 from dkN_ne1 (0) dv11 (dkN_lit (x := 0) (0) rfl) (dk_ne c12) rfl)).elim
  ·
    obtain ⟨dv11, f11_340_8, -⟩ := hc11
    refine lv_if_eq (tgt := 22) hx hb dX6_figure_4 (by decide) (fun c13 => ?_) (fun c13 => ?_)
    ·
      exact (dkN_nil (show dkN [] v11 from dkN_eq1 dv11 (dkN_lit (x := 0) (0) rfl) (congrArg Int32.toInt c13) rfl)).elim
    ·
      refine lv_aload_n hx hb dX6_figure_7 rfl (lv_at hl 0 rfl) ?_
      refine dk_get (k := 340) hx hb hts iX6_figure_6 hown hK (dk_at340 hW) rfl 11 (by decide) (hts (.fieldLink RX6 98 "DogKingsModel" "token" "I") (List.mem_of_getElem? (i := 1) rfl)) rfl dX6_figure_8 ?_
      refine lv_topi (fun v14 ev14 => ?_)
      refine lv_iconst (v := 2) hx hb dX6_figure_11 (by decide) ?_
      refine lv_icmp_eq (tgt := 22) hx hb dX6_figure_12 (by decide) (fun c15 => ?_) (fun c15 => ?_)
      ·
        have d16 : dkN [(2, 2)] v14 := dkN_eq1 (dkN_top v14) (dkN_lit (x := 2) (2) rfl) (congrArg Int32.toInt c15) rfl
        have f17 : dkN [(2, 2)] (I11 340 11) := by rw [← ev14]; exact d16
        exact C22 I11 _ _ ls  hW hS hF hO  (lv_sub hl [0, 1, 2] rfl)
      ·
        have d18 : dkN [(-2147483648, 1), (3, 2147483647)] v14 := dkN_ne1 (2) (dkN_top v14) (dkN_lit (x := 2) (2) rfl) (dk_ne c15) rfl
        have f19 : dkN [(-2147483648, 1), (3, 2147483647)] (I11 340 11) := by rw [← ev14]; exact d18
        refine lv_aload_n hx hb dX6_figure_15 rfl (lv_at hl 0 rfl) ?_
        refine lv_iconst (v := 0) hx hb dX6_figure_16 (by decide) ?_
        refine lv_iconst (v := 1) hx hb dX6_figure_17 (by decide) ?_
        refine dk_Vi (As := [.int 0, .int 1]) (rest := []) ⟨hx, hb, hml, hown, hts⟩ (c_X6_takes_21 l g z I11 0 1 (dkN_lit (x := 0) (0) rfl) (dkN_lit (x := 1) (1) rfl) (show dkN [(-2147483648, -1)] (I11 340 8) from dkN_sub f11_340_8 rfl) hO) (cwV 2 hts gX6_figure_X6_takes rfl rfl rfl (by decide +kernel) ⟨Nat.le_of_ble_eq_true rfl, Nat.le_of_ble_eq_true rfl⟩) (dk_at340 hW) rfl hK hT hW hS rfl hl.1 rfl (Nat.le_of_ble_eq_true rfl) dX6_figure_18 ⟨Nat.zero_le _, Nat.zero_le _⟩ (fun v20 I20 H20 L20 hp20 hW hS => ?_)
        obtain ⟨hF20, hO, hc20⟩ := hp20
        have hF := dkF_call hF hF20 rfl
        obtain ⟨dv20, f20_340_7, f20_340_8, -⟩ := hc20
        exact W.iret (v := v20) hx hb hr (fun t ht hW9 => ⟨⟨v20, I20, rfl, ⟨hF, hO, ⟨dkN_sub dv20 rfl, trivial⟩⟩, dkW_eq ht hW⟩, hS.F ht⟩) hS.2.2 dX6_figure_21
set_option maxHeartbeats 4000000 in
set_option maxRecDepth 100000 in
theorem c_X6_follows_5 (l : Launch) (g : dkG) (z : Nat) (I0 : dkI) (p0 : Int32) (p1 : Int32) (dp0 : dkN [(0, 0)] p0) (dp1 : dkN [(2, 2)] p1)  (hO : dkOk I0) : Met l yX6_follows wsX6_follows (dkR 4) (dkPc g z [.ref (z + 340), .int p0, .int p1] I0) (dkQi g z (fun r I1 => dkF [(340, 340, 7, 12)] I0 I1 ∧ dkOk I1 ∧ ((dkN [(0, 2)] r ∧ True)))) 0 0 (dkA z) := by
  refine Met.ofW (cc := cX6_follows) (maxL := 3) (ret := (some .int)) (by decide) rfl ?_
  intro p e s m args below meth c s₁ B hml hv
  obtain ⟨ha, hW, hK, hT⟩ := hv
  have hx := B.exec
  have hb := B.bytes
  have hr := B.returns
  have hts := atoms_spec (ws := wsX6_follows) B.pre
  have hown : s.vm.findClass RX6 = some m.cls := findClass_of_methodNamed B.named
  have hlocks := B.notSynchronized
  have hS : va_S (dkA z) s.heap s.heap [] := va_S.rf
  have hF : dkF [(340, 340, 7, 12)] I0 I0 := dkF_rf _ _
  have hl := lv_entry ([.ref (z + 340), .int p0, .int p1]) (n := 3) (Nat.le_of_ble_eq_true rfl)
  have hgo : entryFrame m args 3 = entryFrame m ([.ref (z + 340), .int p0, .int p1] : List Value).toArray 3 := by rw [ha]
  rw [hgo, lg_entry_eq]
  generalize (lg_sl ([.ref (z + 340), .int p0, .int p1]) ++ List.replicate (3 - (lg_sl ([.ref (z + 340), .int p0, .int p1])).length) Slot.unset).toArray = ls at hl ⊢
  have hl : lv_has ls 3 [(0, .ref (z + 340)), (1, .int p0), (2, .int p1)] := hl
  have C14 : ∀ (I : dkI) (H : Heap) (locs : List Loc) (ls : Array Slot) (x14_s0 : Int32), dkW g z I H → va_S (dkA z) s.heap H locs → dkF [(340, 340, 7, 12)] I0 I → dkOk I → dkN [(0, 1)] x14_s0 → lv_has ls 3 [(0, .ref (z + 340)), (1, .int p0), (2, .int p1)] → W p l e (headSpec wsX6_follows (dkR 4)).room s m args below meth c H locs 0 0 (MQ below (dkQi g z (fun r I1 => dkF [(340, 340, 7, 12)] I0 I1 ∧ dkOk I1 ∧ ((dkN [(0, 2)] r ∧ True)))) args s 0 0 (dkA z)) (F0 m 14 ls [.int x14_s0, .ref (z + 340)]) := by
    intro I14_ H locs ls x14_s0 hW hS hF_14 hO k14_0 hl
    have hF := hF_14
    refine lv_iconst (v := 1) hx hb dX6_follows_14 (by decide) ?_
    refine dk_Vi (As := [.int x14_s0, .int 1]) (rest := []) ⟨hx, hb, hml, hown, hts⟩ (c_X6_takes_24 l g z I14_ x14_s0 1 k14_0 (dkN_lit (x := 1) (1) rfl) hO) (cwV 2 hts gX6_follows_X6_takes rfl rfl rfl (by decide +kernel) ⟨Nat.le_of_ble_eq_true rfl, Nat.le_of_ble_eq_true rfl⟩) (dk_at340 hW) rfl hK hT hW hS rfl hl.1 rfl (Nat.le_of_ble_eq_true rfl) dX6_follows_15 ⟨Nat.zero_le _, Nat.zero_le _⟩ (fun v1 I1 H1 L1 hp1 hW hS => ?_)
    obtain ⟨hF1, hO, hc1⟩ := hp1
    have hF := dkF_call hF hF1 rfl
    obtain ⟨_, -⟩ := hc1
    refine lv_pop hx hb dX6_follows_18 rfl ?_
    refine lv_aload_n hx hb dX6_follows_19 rfl (lv_at hl 0 rfl) ?_
    refine lv_iload_n hx hb dX6_follows_20 rfl (lv_at hl 1 rfl) ?_
    refine lv_iload_n hx hb dX6_follows_21 rfl (lv_at hl 2 rfl) ?_
    refine dk_Vi (As := [.int p0, .int p1]) (rest := []) ⟨hx, hb, hml, hown, hts⟩ (c_X6_figure_8 l g z I1 p0 p1 dp0 dp1 hO) (cwV 2 hts gX6_follows_X6_figure rfl rfl rfl (by decide +kernel) ⟨Nat.le_of_ble_eq_true rfl, Nat.le_of_ble_eq_true rfl⟩) (dk_at340 hW) rfl hK hT hW hS rfl hl.1 rfl (Nat.le_of_ble_eq_true rfl) dX6_follows_22 ⟨Nat.zero_le _, Nat.zero_le _⟩ (fun v2 I2 H2 L2 hp2 hW hS => ?_)
    obtain ⟨hF2, hO, hc2⟩ := hp2
    have hF := dkF_call hF hF2 rfl
    obtain ⟨dv2, -⟩ := hc2
    exact W.iret (v := v2) hx hb hr (fun t ht hW9 => ⟨⟨v2, I2, rfl, ⟨hF, hO, ⟨dkN_sub dv2 rfl, trivial⟩⟩, dkW_eq ht hW⟩, hS.F ht⟩) hS.2.2 dX6_follows_25
  refine lv_aload_n hx hb dX6_follows_0 rfl (lv_at hl 0 rfl) ?_
  refine lv_aload_n hx hb dX6_follows_1 rfl (lv_at hl 0 rfl) ?_
  refine dk_get (k := 340) hx hb hts iX6_follows_6 hown hK (dk_at340 hW) rfl 11 (by decide) (hts (.fieldLink RX6 98 "DogKingsModel" "token" "I") (List.mem_of_getElem? (i := 1) rfl)) rfl dX6_follows_2 ?_
  refine lv_topi (fun v3 ev3 => ?_)
  refine lv_iconst (v := 3) hx hb dX6_follows_5 (by decide) ?_
  refine lv_icmp_ne (tgt := 13) hx hb dX6_follows_6 (by decide) (fun c4 => ?_) (fun c4 => ?_)
  ·
    have d5 : dkN [(-2147483648, 2), (4, 2147483647)] v3 := dkN_ne1 (3) (dkN_top v3) (dkN_lit (x := 3) (3) rfl) (dk_ne c4) rfl
    have f6 : dkN [(-2147483648, 2), (4, 2147483647)] (I0 340 11) := by rw [← ev3]; exact d5
    refine lv_iconst (v := 0) hx hb dX6_follows_13 (by decide) ?_
    exact C14 I0 _ _ ls 0 hW hS hF hO (dkN_sub (dkN_lit (x := 0) (0) rfl) rfl) (lv_sub hl [0, 1, 2] rfl)
  ·
    have d7 : dkN [(3, 3)] v3 := dkN_eq1 (dkN_top v3) (dkN_lit (x := 3) (3) rfl) (congrArg Int32.toInt c4) rfl
    have f8 : dkN [(3, 3)] (I0 340 11) := by rw [← ev3]; exact d7
    refine lv_iconst (v := 1) hx hb dX6_follows_9 (by decide) ?_
    refine lv_goto (tgt := 14) hx hb dX6_follows_10 (by decide) ?_
    exact C14 I0 _ _ ls 1 hW hS hF hO (dkN_sub (dkN_lit (x := 1) (1) rfl) rfl) (lv_sub hl [0, 1, 2] rfl)
set_option maxHeartbeats 4000000 in
set_option maxRecDepth 100000 in
theorem c_X6_takes_29 (l : Launch) (g : dkG) (z : Nat) (I0 : dkI) (p0 : Int32) (p1 : Int32) (dp0 : dkN [(0, 0)] p0) (dp1 : dkN [(1, 1)] p1)  (hO : dkOk I0) : Met l yX6_takes wsX6_takes (dkR 1) (dkPc g z [.ref (z + 340), .int p0, .int p1] I0) (dkQi g z (fun r I1 => dkF [(340, 340, 7, 8)] I0 I1 ∧ dkOk I1 ∧ ((dkN [(0, 0)] r ∧ dkN [(0, 2147483647)] (I1 340 8) ∧ True)))) 0 0 (dkA z) := by
  refine Met.ofW (cc := cX6_takes) (maxL := 4) (ret := (some .int)) (by decide) rfl ?_
  intro p e s m args below meth c s₁ B hml hv
  obtain ⟨ha, hW, hK, hT⟩ := hv
  have hx := B.exec
  have hb := B.bytes
  have hr := B.returns
  have hts := atoms_spec (ws := wsX6_takes) B.pre
  have hown : s.vm.findClass RX6 = some m.cls := findClass_of_methodNamed B.named
  have hlocks := B.notSynchronized
  have hS : va_S (dkA z) s.heap s.heap [] := va_S.rf
  have hF : dkF [(340, 340, 7, 8)] I0 I0 := dkF_rf _ _
  have hl := lv_entry ([.ref (z + 340), .int p0, .int p1]) (n := 4) (Nat.le_of_ble_eq_true rfl)
  have hgo : entryFrame m args 4 = entryFrame m ([.ref (z + 340), .int p0, .int p1] : List Value).toArray 4 := by rw [ha]
  rw [hgo, lg_entry_eq]
  generalize (lg_sl ([.ref (z + 340), .int p0, .int p1]) ++ List.replicate (4 - (lg_sl ([.ref (z + 340), .int p0, .int p1])).length) Slot.unset).toArray = ls at hl ⊢
  have hl : lv_has ls 4 [(0, .ref (z + 340)), (1, .int p0), (2, .int p1)] := hl
  refine lv_aload_n hx hb dX6_takes_0 rfl (lv_at hl 0 rfl) ?_
  refine dk_Vi (As := []) (rest := []) ⟨hx, hb, hml, hown, hts⟩ (c_X6_isWell_3 l g z I0 hO) (cwV 0 hts gX6_takes_X6_isWell rfl rfl rfl (by decide +kernel) ⟨Nat.le_of_ble_eq_true rfl, Nat.le_of_ble_eq_true rfl⟩) (dk_at340 hW) rfl hK hT hW hS rfl hl.1 rfl (Nat.le_of_ble_eq_true rfl) dX6_takes_1 ⟨Nat.zero_le _, Nat.zero_le _⟩ (fun v1 I1 H1 L1 hp1 hW hS => ?_)
  obtain ⟨hF1, hO, hc1⟩ := hp1
  have hF := dkF_call hF hF1 rfl
  rcases hc1 with ⟨dv1, f1_340_8, -⟩ | hc1
  ·
    refine lv_if_ne (tgt := 9) hx hb dX6_takes_4 (by decide) (fun c2 => ?_) (fun c2 => ?_)
    ·
      exact (dkN_nil (show dkN [] v1 from dkN_ne1 (0) dv1 (dkN_lit (x := 0) (0) rfl) (dk_ne c2) rfl)).elim
    ·
      refine lv_iconst (v := 0) hx hb dX6_takes_7 (by decide) ?_
      exact W.iret (v := 0) hx hb hr (fun t ht hW9 => ⟨⟨0, I1, rfl, ⟨hF, hO, ⟨dkN_sub (dkN_lit (x := 0) (0) rfl) rfl, (show dkN [(0, 2147483647)] (I1 340 8) from dkN_sub f1_340_8 rfl), trivial⟩⟩, dkW_eq ht hW⟩, hS.F ht⟩) hS.2.2 dX6_takes_8
  ·
    obtain ⟨dv1, f1_340_8, -⟩ := hc1
    refine lv_if_ne (tgt := 9) hx hb dX6_takes_4 (by decide) (fun c3 => ?_) (fun c3 => ?_)
    ·
      refine lv_iload_n hx hb dX6_takes_9 rfl (lv_at hl 1 rfl) ?_
      refine lv_if_ne (tgt := 28) hx hb dX6_takes_10 (by decide) (fun c4 => ?_) (fun c4 => ?_)
      ·
        exact (dkN_nil (show dkN [] p0 from dkN_ne1 (0) dp0 (dkN_lit (x := 0) (0) rfl) (dk_ne c4) rfl)).elim
      ·
        refine lv_aload_n hx hb dX6_takes_13 rfl (lv_at hl 0 rfl) ?_
        refine lv_aload_n hx hb dX6_takes_14 rfl (lv_at hl 0 rfl) ?_
        refine dk_get (k := 340) hx hb hts iX6_takes_6 hown hK (dk_at340 hW) rfl 10 (by decide) (hts (.fieldLink RX6 89 "DogKingsModel" "start" "I") (List.mem_of_getElem? (i := 1) rfl)) rfl dX6_takes_15 ?_
        refine lv_topi (fun v5 ev5 => ?_)
        have dv5 : dkN [(0, 90)] v5 := by rw [ev5]; exact (hO 340 10)
        refine dk_put (k := 340) hx hb hts iX6_takes_6 tyX6 tyX6_ok nmX6 hown hK hW (dk_at340 hW) hS rfl 8 (by decide) (hts (.fieldLink RX6 101 "DogKingsModel" "faultPlace" "I") (List.mem_of_getElem? (i := 2) rfl)) rfl rfl (Nat.le_of_ble_eq_true rfl) rfl dX6_takes_18 (fun I6 H6 L6 eI6 hW hS => ?_)
        have eI6 : I6 = dkU I1 340 8 v5 := eI6
        have hO := dkO_set hO eI6 (dkN_sub dv5 rfl)
        have hF := dkF_set hF eI6 rfl
        refine lv_aload_n hx hb dX6_takes_21 rfl (lv_at hl 0 rfl) ?_
        refine lv_iload_n hx hb dX6_takes_22 rfl (lv_at hl 2 rfl) ?_
        refine dk_put (k := 340) hx hb hts iX6_takes_6 tyX6 tyX6_ok nmX6 hown hK hW (dk_at340 hW) hS rfl 7 (by decide) (hts (.fieldLink RX6 108 "DogKingsModel" "faultKind" "I") (List.mem_of_getElem? (i := 3) rfl)) rfl rfl (Nat.le_of_ble_eq_true rfl) rfl dX6_takes_23 (fun I7 H7 L7 eI7 hW hS => ?_)
        have eI7 : I7 = dkU I6 340 7 p1 := eI7
        have hO := dkO_set hO eI7 (dkN_sub dp1 rfl)
        have hF := dkF_set hF eI7 rfl
        refine lv_iconst (v := 0) hx hb dX6_takes_26 (by decide) ?_
        exact W.iret (v := 0) hx hb hr (fun t ht hW9 => ⟨⟨0, I7, rfl, ⟨hF, hO, ⟨dkN_sub (dkN_lit (x := 0) (0) rfl) rfl, (show dkN [(0, 2147483647)] (I7 340 8) from dkN_sub (by rw [eI7, dkU_sn (by decide)]; exact (by rw [eI6, dkU_ss]; exact dv5)) rfl), trivial⟩⟩, dkW_eq ht hW⟩, hS.F ht⟩) hS.2.2 dX6_takes_27
    ·
      exact (dkN_nil (show dkN [] v1 from dkN_eq1 dv1 (dkN_lit (x := 0) (0) rfl) (congrArg Int32.toInt c3) rfl)).elim
set_option maxHeartbeats 4000000 in
set_option maxRecDepth 100000 in
theorem c_X6_takes_30 (l : Launch) (g : dkG) (z : Nat) (I0 : dkI) (p0 : Int32) (p1 : Int32) (dp0 : dkN [(1, 1)] p0) (dp1 : dkN [(1, 1)] p1)  (hO : dkOk I0) : Met l yX6_takes wsX6_takes (dkR 2) (dkPc g z [.ref (z + 340), .int p0, .int p1] I0) (dkQi g z (fun r I1 => dkF [(340, 340, 9, 12)] I0 I1 ∧ dkOk I1 ∧ ((True ∧ True)))) 0 0 (dkA z) := by
  refine Met.ofW (cc := cX6_takes) (maxL := 4) (ret := (some .int)) (by decide) rfl ?_
  intro p e s m args below meth c s₁ B hml hv
  obtain ⟨ha, hW, hK, hT⟩ := hv
  have hx := B.exec
  have hb := B.bytes
  have hr := B.returns
  have hts := atoms_spec (ws := wsX6_takes) B.pre
  have hown : s.vm.findClass RX6 = some m.cls := findClass_of_methodNamed B.named
  have hlocks := B.notSynchronized
  have hS : va_S (dkA z) s.heap s.heap [] := va_S.rf
  have hF : dkF [(340, 340, 9, 12)] I0 I0 := dkF_rf _ _
  have hl := lv_entry ([.ref (z + 340), .int p0, .int p1]) (n := 4) (Nat.le_of_ble_eq_true rfl)
  have hgo : entryFrame m args 4 = entryFrame m ([.ref (z + 340), .int p0, .int p1] : List Value).toArray 4 := by rw [ha]
  rw [hgo, lg_entry_eq]
  generalize (lg_sl ([.ref (z + 340), .int p0, .int p1]) ++ List.replicate (4 - (lg_sl ([.ref (z + 340), .int p0, .int p1])).length) Slot.unset).toArray = ls at hl ⊢
  have hl : lv_has ls 4 [(0, .ref (z + 340)), (1, .int p0), (2, .int p1)] := hl
  refine lv_aload_n hx hb dX6_takes_0 rfl (lv_at hl 0 rfl) ?_
  refine dk_Vi (As := []) (rest := []) ⟨hx, hb, hml, hown, hts⟩ (c_X6_isWell_3 l g z I0 hO) (cwV 0 hts gX6_takes_X6_isWell rfl rfl rfl (by decide +kernel) ⟨Nat.le_of_ble_eq_true rfl, Nat.le_of_ble_eq_true rfl⟩) (dk_at340 hW) rfl hK hT hW hS rfl hl.1 rfl (Nat.le_of_ble_eq_true rfl) dX6_takes_1 ⟨Nat.zero_le _, Nat.zero_le _⟩ (fun v1 I1 H1 L1 hp1 hW hS => ?_)
  obtain ⟨hF1, hO, hc1⟩ := hp1
  have hF := dkF_call hF hF1 rfl
  rcases hc1 with ⟨dv1, f1_340_8, -⟩ | hc1
  ·
    refine lv_if_ne (tgt := 9) hx hb dX6_takes_4 (by decide) (fun c2 => ?_) (fun c2 => ?_)
    ·
      exact (dkN_nil (show dkN [] v1 from dkN_ne1 (0) dv1 (dkN_lit (x := 0) (0) rfl) (dk_ne c2) rfl)).elim
    ·
      refine lv_iconst (v := 0) hx hb dX6_takes_7 (by decide) ?_
      exact W.iret (v := 0) hx hb hr (fun t ht hW9 => ⟨⟨0, I1, rfl, ⟨hF, hO, ⟨trivial, trivial⟩⟩, dkW_eq ht hW⟩, hS.F ht⟩) hS.2.2 dX6_takes_8
  ·
    obtain ⟨dv1, f1_340_8, -⟩ := hc1
    refine lv_if_ne (tgt := 9) hx hb dX6_takes_4 (by decide) (fun c3 => ?_) (fun c3 => ?_)
    ·
      refine lv_iload_n hx hb dX6_takes_9 rfl (lv_at hl 1 rfl) ?_
      refine lv_if_ne (tgt := 28) hx hb dX6_takes_10 (by decide) (fun c4 => ?_) (fun c4 => ?_)
      ·
        refine lv_aload_n hx hb dX6_takes_28 rfl (lv_at hl 0 rfl) ?_
        refine dk_get (k := 340) hx hb hts iX6_takes_6 hown hK (dk_at340 hW) rfl 12 (by decide) (hts (.fieldLink RX6 95 "DogKingsModel" "value" "I") (List.mem_of_getElem? (i := 4) rfl)) rfl dX6_takes_29 ?_
        refine lv_topi (fun v5 ev5 => ?_)
        refine lv_istore_n (lv' := [(3, .int v5), (0, .ref (z + 340)), (1, .int p0), (2, .int p1)]) hx hb dX6_takes_32 rfl hl (by decide) rfl (fun ls hl => ?_)
        refine lv_aload_n hx hb dX6_takes_33 rfl (lv_at hl 1 rfl) ?_
        refine dk_Vv (As := []) (rest := []) ⟨hx, hb, hml, hown, hts⟩ (c_X6_advances_0 l g z I1 hO) (cwV 0 hts gX6_takes_X6_advances rfl rfl rfl (by decide +kernel) ⟨Nat.le_of_ble_eq_true rfl, Nat.le_of_ble_eq_true rfl⟩) (dk_at340 hW) rfl hK hT hW hS rfl hl.1 rfl (Nat.le_of_ble_eq_true rfl) dX6_takes_34 ⟨Nat.zero_le _, Nat.zero_le _⟩ (fun I6 H6 L6 hp6 hW hS => ?_)
        obtain ⟨hF6, hO, hc6⟩ := hp6
        have hF := dkF_call hF hF6 rfl
        obtain ⟨f6_340_11, -⟩ := hc6
        refine lv_iload_n hx hb dX6_takes_37 rfl (lv_at hl 0 rfl) ?_
        exact W.iret (v := v5) hx hb hr (fun t ht hW9 => ⟨⟨v5, I6, rfl, ⟨hF, hO, ⟨trivial, trivial⟩⟩, dkW_eq ht hW⟩, hS.F ht⟩) hS.2.2 dX6_takes_38
      ·
        exact (dkN_nil (show dkN [] p0 from dkN_eq1 dp0 (dkN_lit (x := 0) (0) rfl) (congrArg Int32.toInt c4) rfl)).elim
    ·
      exact (dkN_nil (show dkN [] v1 from dkN_eq1 dv1 (dkN_lit (x := 0) (0) rfl) (congrArg Int32.toInt c3) rfl)).elim
set_option maxHeartbeats 4000000 in
set_option maxRecDepth 100000 in
theorem c_X6_readsPerson_0 (l : Launch) (g : dkG) (z : Nat) (I0 : dkI)  (hO : dkOk I0) : Met l yX6_readsPerson wsX6_readsPerson (dkR 5) (dkPc g z [.ref (z + 340)] I0) (dkQv g z (fun I1 => dkF [(340, 340, 7, 12), (347, 347, 4, 4), (347, 347, 6, 34)] I0 I1 ∧ dkOk I1 ∧ ((dkN [(-2147483648, -1)] (I1 340 8) ∧ dkN [(1, 5)] (I1 347 4) ∧ I1 347 4 = I0 347 4 + 1 ∧ True) ∨ (dkN [(0, 2147483647)] (I1 340 8) ∧ True)))) 0 0 (dkA z) := by
  refine Met.ofW (cc := cX6_readsPerson) (maxL := 5) (ret := none) (by decide) rfl ?_
  intro p e s m args below meth c s₁ B hml hv
  obtain ⟨ha, hW, hK, hT⟩ := hv
  have hx := B.exec
  have hb := B.bytes
  have hr := B.returns
  have hts := atoms_spec (ws := wsX6_readsPerson) B.pre
  have hown : s.vm.findClass RX6 = some m.cls := findClass_of_methodNamed B.named
  have hlocks := B.notSynchronized
  have hS : va_S (dkA z) s.heap s.heap [] := va_S.rf
  have hF : dkF [(340, 340, 7, 12), (347, 347, 4, 4), (347, 347, 6, 34)] I0 I0 := dkF_rf _ _
  have hl := lv_entry ([.ref (z + 340)]) (n := 5) (Nat.le_of_ble_eq_true rfl)
  have hgo : entryFrame m args 5 = entryFrame m ([.ref (z + 340)] : List Value).toArray 5 := by rw [ha]
  rw [hgo, lg_entry_eq]
  generalize (lg_sl ([.ref (z + 340)]) ++ List.replicate (5 - (lg_sl ([.ref (z + 340)])).length) Slot.unset).toArray = ls at hl ⊢
  have hl : lv_has ls 5 [(0, .ref (z + 340))] := hl
  refine lv_aload_n hx hb dX6_readsPerson_0 rfl (lv_at hl 0 rfl) ?_
  refine lv_aload_n hx hb dX6_readsPerson_1 rfl (lv_at hl 0 rfl) ?_
  refine dk_get (k := 340) hx hb hts iX6_readsPerson_6 hown hK (dk_at340 hW) rfl 14 (by decide) (hts (.fieldLink RX6 28 "DogKingsModel" "draft" "[I") (List.mem_of_getElem? (i := 1) rfl)) rfl dX6_readsPerson_2 ?_
  refine lv_iconst (v := 4) hx hb dX6_readsPerson_5 (by decide) ?_
  refine dk_ild (k := 347) hx hb hK (dk_at347 hW) (dkN_in (n := 54) (dkN_lit (x := 4) (4) rfl) rfl) dX6_readsPerson_6 ?_
  refine lv_topi (fun v1 ev1 => ?_)
  have ev1 : v1 = I0 347 4 := ev1
  have dv1 : dkN [(0, 5)] v1 := by rw [ev1]; exact (show dkN [(0, 5)] (I0 347 4) from (hO 347 4))
  refine lv_iconst (v := 5) hx hb dX6_readsPerson_7 (by decide) ?_
  refine lv_icmp_ge (tgt := 15) hx hb dX6_readsPerson_8 (by decide) (fun c2 => ?_) (fun c2 => ?_)
  ·
    have d3 : dkN [(5, 5)] v1 := dkN_le2 0 (dkN_lit (x := 5) (5) rfl) dv1 (dkc_le c2) rfl
    have f4 : dkN [(5, 5)] (I0 347 4) := by rw [← ev1]; exact d3
    refine lv_iconst (v := 0) hx hb dX6_readsPerson_15 (by decide) ?_
    refine lv_iconst (v := 3) hx hb dX6_readsPerson_16 (by decide) ?_
    refine dk_Vi (As := [.int 0, .int 3]) (rest := []) ⟨hx, hb, hml, hown, hts⟩ (c_X6_takes_10 l g z I0 0 3 (dkN_lit (x := 0) (0) rfl) (dkN_lit (x := 3) (3) rfl) hO) (cwV 2 hts gX6_readsPerson_X6_takes rfl rfl rfl (by decide +kernel) ⟨Nat.le_of_ble_eq_true rfl, Nat.le_of_ble_eq_true rfl⟩) (dk_at340 hW) rfl hK hT hW hS rfl hl.1 rfl (Nat.le_of_ble_eq_true rfl) dX6_readsPerson_17 ⟨Nat.zero_le _, Nat.zero_le _⟩ (fun v5 I5 H5 L5 hp5 hW hS => ?_)
    obtain ⟨hF5, hO, hc5⟩ := hp5
    have hF := dkF_call hF hF5 rfl
    obtain ⟨dv5, f5_340_8, -⟩ := hc5
    refine lv_pop hx hb dX6_readsPerson_20 rfl ?_
    refine lv_bipush (v := 6) hx hb dX6_readsPerson_21 (by decide) ?_
    refine lv_bipush (v := 6) hx hb dX6_readsPerson_23 (by decide) ?_
    refine lv_aload_n hx hb dX6_readsPerson_25 rfl (lv_at hl 0 rfl) ?_
    refine dk_get (k := 340) hx hb hts iX6_readsPerson_6 hown hK (dk_at340 hW) rfl 14 (by decide) (hts (.fieldLink RX6 28 "DogKingsModel" "draft" "[I") (List.mem_of_getElem? (i := 1) rfl)) rfl dX6_readsPerson_26 ?_
    refine lv_iconst (v := 4) hx hb dX6_readsPerson_29 (by decide) ?_
    refine dk_ild (k := 347) hx hb hK (dk_at347 hW) (dkN_in (n := 54) (dkN_lit (x := 4) (4) rfl) rfl) dX6_readsPerson_30 ?_
    refine lv_topi (fun v6 ev6 => ?_)
    have ev6 : v6 = I5 347 4 := ev6
    have dv6 : dkN [(5, 5)] v6 := by rw [ev6]; exact (show dkN [(5, 5)] (I5 347 4) from (by rw [hF5 347 4 rfl]; exact f4))
    refine lv_iconst (v := 5) hx hb dX6_readsPerson_31 (by decide) ?_
    refine lv_icmp_ge (tgt := 44) hx hb dX6_readsPerson_32 (by decide) (fun c7 => ?_) (fun c7 => ?_)
    ·
      refine lv_iconst (v := 0) hx hb dX6_readsPerson_44 (by decide) ?_
      refine lv_imul hx hb dX6_readsPerson_45 ?_
      refine lv_topi (fun v8 ev8 => ?_)
      have dv8 : dkN [(0, 0)] v8 := by rw [ev8]; exact dkN_mulR 0 (by decide) (dkN_lit (x := 6) (6) rfl) (dkN_lit (x := 0) (0) rfl) rfl
      refine lv_iadd hx hb dX6_readsPerson_46 ?_
      refine lv_topi (fun v9 ev9 => ?_)
      have dv9 : dkN [(6, 6)] v9 := by rw [ev9]; exact dkN_add (dkN_lit (x := 6) (6) rfl) dv8 rfl
      refine lv_istore_n (lv' := [(1, .int v9), (0, .ref (z + 340))]) hx hb dX6_readsPerson_47 rfl hl (by decide) rfl (fun ls hl => ?_)
      refine lv_aload_n hx hb dX6_readsPerson_48 rfl (lv_at hl 1 rfl) ?_
      refine lv_iconst (v := 0) hx hb dX6_readsPerson_49 (by decide) ?_
      refine lv_aload_n hx hb dX6_readsPerson_50 rfl (lv_at hl 1 rfl) ?_
      refine dk_get (k := 340) hx hb hts iX6_readsPerson_6 hown hK (dk_at340 hW) rfl 14 (by decide) (hts (.fieldLink RX6 28 "DogKingsModel" "draft" "[I") (List.mem_of_getElem? (i := 1) rfl)) rfl dX6_readsPerson_51 ?_
      refine lv_iconst (v := 0) hx hb dX6_readsPerson_54 (by decide) ?_
      refine dk_ild (k := 347) hx hb hK (dk_at347 hW) (dkN_in (n := 54) (dkN_lit (x := 0) (0) rfl) rfl) dX6_readsPerson_55 ?_
      refine lv_topi (fun v10 ev10 => ?_)
      have ev10 : v10 = I5 347 0 := ev10
      have dv10 : dkN [(0, 9)] v10 := by rw [ev10]; exact (show dkN [(0, 9)] (I5 347 0) from (hO 347 0))
      refine lv_iconst (v := 1) hx hb dX6_readsPerson_56 (by decide) ?_
      refine lv_isub hx hb dX6_readsPerson_57 ?_
      refine lv_topi (fun v11 ev11 => ?_)
      have dv11 : dkN [(-1, 8)] v11 := by rw [ev11]; exact dkN_subt dv10 (dkN_lit (x := 1) (1) rfl) rfl
      refine dk_Vi (As := [.int 0, .int v11]) (rest := []) ⟨hx, hb, hml, hown, hts⟩ (c_X6_figure_3 l g z I5 0 v11 (dkN_lit (x := 0) (0) rfl) dv11 (show dkN [(0, 2147483647)] (I5 340 8) from dkN_sub f5_340_8 rfl) hO) (cwV 2 hts gX6_readsPerson_X6_figure rfl rfl rfl (by decide +kernel) ⟨Nat.le_of_ble_eq_true rfl, Nat.le_of_ble_eq_true rfl⟩) (dk_at340 hW) rfl hK hT hW hS rfl hl.1 rfl (Nat.le_of_ble_eq_true rfl) dX6_readsPerson_58 ⟨Nat.zero_le _, Nat.zero_le _⟩ (fun v12 I12 H12 L12 hp12 hW hS => ?_)
      obtain ⟨hF12, hO, hc12⟩ := hp12
      have hF := dkF_call hF hF12 rfl
      obtain ⟨dv12, f12_340_8, -⟩ := hc12
      refine lv_istore_n (lv' := [(2, .int v12), (1, .int v9), (0, .ref (z + 340))]) hx hb dX6_readsPerson_61 rfl hl (by decide) rfl (fun ls hl => ?_)
      refine lv_aload_n hx hb dX6_readsPerson_62 rfl (lv_at hl 2 rfl) ?_
      refine lv_iconst (v := 0) hx hb dX6_readsPerson_63 (by decide) ?_
      refine lv_bipush (v := 9) hx hb dX6_readsPerson_64 (by decide) ?_
      refine dk_Vi (As := [.int 0, .int 9]) (rest := []) ⟨hx, hb, hml, hown, hts⟩ (c_X6_follows_2 l g z I12 0 9 (dkN_lit (x := 0) (0) rfl) (dkN_lit (x := 9) (9) rfl) (show dkN [(0, 2147483647)] (I12 340 8) from dkN_sub f12_340_8 rfl) hO) (cwV 2 hts gX6_readsPerson_X6_follows rfl rfl rfl (by decide +kernel) ⟨Nat.le_of_ble_eq_true rfl, Nat.le_of_ble_eq_true rfl⟩) (dk_at340 hW) rfl hK hT hW hS rfl hl.1 rfl (Nat.le_of_ble_eq_true rfl) dX6_readsPerson_66 ⟨Nat.zero_le _, Nat.zero_le _⟩ (fun v13 I13 H13 L13 hp13 hW hS => ?_)
      obtain ⟨hF13, hO, hc13⟩ := hp13
      have hF := dkF_call hF hF13 rfl
      obtain ⟨dv13, f13_340_8, -⟩ := hc13
      refine lv_istore_n (lv' := [(3, .int v13), (2, .int v12), (1, .int v9), (0, .ref (z + 340))]) hx hb dX6_readsPerson_69 rfl hl (by decide) rfl (fun ls hl => ?_)
      refine lv_aload_n hx hb dX6_readsPerson_70 rfl (lv_at hl 3 rfl) ?_
      refine lv_iconst (v := 0) hx hb dX6_readsPerson_71 (by decide) ?_
      refine lv_iconst (v := 2) hx hb dX6_readsPerson_72 (by decide) ?_
      refine dk_Vi (As := [.int 0, .int 2]) (rest := []) ⟨hx, hb, hml, hown, hts⟩ (c_X6_follows_3 l g z I13 0 2 (dkN_lit (x := 0) (0) rfl) (dkN_lit (x := 2) (2) rfl) (show dkN [(0, 2147483647)] (I13 340 8) from dkN_sub f13_340_8 rfl) hO) (cwV 2 hts gX6_readsPerson_X6_follows rfl rfl rfl (by decide +kernel) ⟨Nat.le_of_ble_eq_true rfl, Nat.le_of_ble_eq_true rfl⟩) (dk_at340 hW) rfl hK hT hW hS rfl hl.1 rfl (Nat.le_of_ble_eq_true rfl) dX6_readsPerson_73 ⟨Nat.zero_le _, Nat.zero_le _⟩ (fun v14 I14 H14 L14 hp14 hW hS => ?_)
      obtain ⟨hF14, hO, hc14⟩ := hp14
      have hF := dkF_call hF hF14 rfl
      obtain ⟨dv14, f14_340_8, -⟩ := hc14
      refine lv_istore (lv' := [(4, .int v14), (3, .int v13), (2, .int v12), (1, .int v9), (0, .ref (z + 340))]) hx hb dX6_readsPerson_76 hl (by decide) rfl (fun ls hl => ?_)
      refine lv_aload_n hx hb dX6_readsPerson_78 rfl (lv_at hl 4 rfl) ?_
      refine lv_aload_n hx hb dX6_readsPerson_79 rfl (lv_at hl 4 rfl) ?_
      refine dk_get (k := 340) hx hb hts iX6_readsPerson_6 hown hK (dk_at340 hW) rfl 11 (by decide) (hts (.fieldLink RX6 98 "DogKingsModel" "token" "I") (List.mem_of_getElem? (i := 2) rfl)) rfl dX6_readsPerson_80 ?_
      refine lv_topi (fun v15 ev15 => ?_)
      refine lv_iconst (v := 4) hx hb dX6_readsPerson_83 (by decide) ?_
      refine lv_icmp_ne (tgt := 91) hx hb dX6_readsPerson_84 (by decide) (fun c16 => ?_) (fun c16 => ?_)
      ·
        have d17 : dkN [(-2147483648, 3), (5, 2147483647)] v15 := dkN_ne1 (4) (dkN_top v15) (dkN_lit (x := 4) (4) rfl) (dk_ne c16) rfl
        have f18 : dkN [(-2147483648, 3), (5, 2147483647)] (I14 340 11) := by rw [← ev15]; exact d17
        refine lv_iconst (v := 0) hx hb dX6_readsPerson_91 (by decide) ?_
        refine lv_iconst (v := 1) hx hb dX6_readsPerson_92 (by decide) ?_
        refine dk_Vi (As := [.int 0, .int 1]) (rest := []) ⟨hx, hb, hml, hown, hts⟩ (c_X6_takes_18 l g z I14 0 1 (dkN_lit (x := 0) (0) rfl) (dkN_lit (x := 1) (1) rfl) (show dkN [(0, 2147483647)] (I14 340 8) from dkN_sub f14_340_8 rfl) hO) (cwV 2 hts gX6_readsPerson_X6_takes rfl rfl rfl (by decide +kernel) ⟨Nat.le_of_ble_eq_true rfl, Nat.le_of_ble_eq_true rfl⟩) (dk_at340 hW) rfl hK hT hW hS rfl hl.1 rfl (Nat.le_of_ble_eq_true rfl) dX6_readsPerson_93 ⟨Nat.zero_le _, Nat.zero_le _⟩ (fun v19 I19 H19 L19 hp19 hW hS => ?_)
        obtain ⟨hF19, hO, hc19⟩ := hp19
        have hF := dkF_call hF hF19 rfl
        obtain ⟨dv19, f19_340_8, -⟩ := hc19
        refine lv_pop hx hb dX6_readsPerson_96 rfl ?_
        refine lv_aload_n hx hb dX6_readsPerson_97 rfl (lv_at hl 4 rfl) ?_
        refine dk_Vi (As := []) (rest := []) ⟨hx, hb, hml, hown, hts⟩ (c_X6_isWell_4 l g z I19 (show dkN [(0, 2147483647)] (I19 340 8) from dkN_sub f19_340_8 rfl) hO) (cwV 0 hts gX6_readsPerson_X6_isWell rfl rfl rfl (by decide +kernel) ⟨Nat.le_of_ble_eq_true rfl, Nat.le_of_ble_eq_true rfl⟩) (dk_at340 hW) rfl hK hT hW hS rfl hl.1 rfl (Nat.le_of_ble_eq_true rfl) dX6_readsPerson_98 ⟨Nat.zero_le _, Nat.zero_le _⟩ (fun v20 I20 H20 L20 hp20 hW hS => ?_)
        obtain ⟨hF20, hO, hc20⟩ := hp20
        have hF := dkF_call hF hF20 rfl
        obtain ⟨dv20, f20_340_8, -⟩ := hc20
        refine lv_if_eq (tgt := 149) hx hb dX6_readsPerson_101 (by decide) (fun c21 => ?_) (fun c21 => ?_)
        ·
          exact W.vret hx hb hr (fun t ht hW9 => ⟨⟨I20, rfl, ⟨hF, hO, Or.inr (⟨(show dkN [(0, 2147483647)] (I20 340 8) from dkN_sub f20_340_8 rfl), trivial⟩)⟩, dkW_eq ht hW⟩, hS.F ht⟩) hS.2.2 dX6_readsPerson_149
        ·
          exact (dkN_nil (show dkN [] v20 from dkN_ne1 (0) dv20 (dkN_lit (x := 0) (0) rfl) (dk_ne c21) rfl)).elim
      ·
        have d22 : dkN [(4, 4)] v15 := dkN_eq1 (dkN_top v15) (dkN_lit (x := 4) (4) rfl) (congrArg Int32.toInt c16) rfl
        have f23 : dkN [(4, 4)] (I14 340 11) := by rw [← ev15]; exact d22
        refine lv_iconst (v := 1) hx hb dX6_readsPerson_87 (by decide) ?_
        refine lv_goto (tgt := 92) hx hb dX6_readsPerson_88 (by decide) ?_
        refine lv_iconst (v := 1) hx hb dX6_readsPerson_92 (by decide) ?_
        refine dk_Vi (As := [.int 1, .int 1]) (rest := []) ⟨hx, hb, hml, hown, hts⟩ (c_X6_takes_19 l g z I14 1 1 (dkN_lit (x := 1) (1) rfl) (dkN_lit (x := 1) (1) rfl) (show dkN [(0, 2147483647)] (I14 340 8) from dkN_sub f14_340_8 rfl) hO) (cwV 2 hts gX6_readsPerson_X6_takes rfl rfl rfl (by decide +kernel) ⟨Nat.le_of_ble_eq_true rfl, Nat.le_of_ble_eq_true rfl⟩) (dk_at340 hW) rfl hK hT hW hS rfl hl.1 rfl (Nat.le_of_ble_eq_true rfl) dX6_readsPerson_93 ⟨Nat.zero_le _, Nat.zero_le _⟩ (fun v24 I24 H24 L24 hp24 hW hS => ?_)
        obtain ⟨hF24, hO, hc24⟩ := hp24
        have hF := dkF_call hF hF24 rfl
        obtain ⟨dv24, f24_340_8, -⟩ := hc24
        refine lv_pop hx hb dX6_readsPerson_96 rfl ?_
        refine lv_aload_n hx hb dX6_readsPerson_97 rfl (lv_at hl 4 rfl) ?_
        refine dk_Vi (As := []) (rest := []) ⟨hx, hb, hml, hown, hts⟩ (c_X6_isWell_4 l g z I24 (show dkN [(0, 2147483647)] (I24 340 8) from dkN_sub f24_340_8 rfl) hO) (cwV 0 hts gX6_readsPerson_X6_isWell rfl rfl rfl (by decide +kernel) ⟨Nat.le_of_ble_eq_true rfl, Nat.le_of_ble_eq_true rfl⟩) (dk_at340 hW) rfl hK hT hW hS rfl hl.1 rfl (Nat.le_of_ble_eq_true rfl) dX6_readsPerson_98 ⟨Nat.zero_le _, Nat.zero_le _⟩ (fun v25 I25 H25 L25 hp25 hW hS => ?_)
        obtain ⟨hF25, hO, hc25⟩ := hp25
        have hF := dkF_call hF hF25 rfl
        obtain ⟨dv25, f25_340_8, -⟩ := hc25
        refine lv_if_eq (tgt := 149) hx hb dX6_readsPerson_101 (by decide) (fun c26 => ?_) (fun c26 => ?_)
        ·
          exact W.vret hx hb hr (fun t ht hW9 => ⟨⟨I25, rfl, ⟨hF, hO, Or.inr (⟨(show dkN [(0, 2147483647)] (I25 340 8) from dkN_sub f25_340_8 rfl), trivial⟩)⟩, dkW_eq ht hW⟩, hS.F ht⟩) hS.2.2 dX6_readsPerson_149
        ·
          exact (dkN_nil (show dkN [] v25 from dkN_ne1 (0) dv25 (dkN_lit (x := 0) (0) rfl) (dk_ne c26) rfl)).elim
    ·
      exact (dkN_nil (show dkN [] 5 from dkN_le2 1 dv6 (dkN_lit (x := 5) (5) rfl) (dkc_nle c7) rfl)).elim
  ·
    have d27 : dkN [(0, 4)] v1 := dkN_le1 1 dv1 (dkN_lit (x := 5) (5) rfl) (dkc_nle c2) rfl
    have f28 : dkN [(0, 4)] (I0 347 4) := by rw [← ev1]; exact d27
    refine lv_iconst (v := 1) hx hb dX6_readsPerson_11 (by decide) ?_
    refine lv_goto (tgt := 16) hx hb dX6_readsPerson_12 (by decide) ?_
    refine lv_iconst (v := 3) hx hb dX6_readsPerson_16 (by decide) ?_
    refine dk_Vi (As := [.int 1, .int 3]) (rest := []) ⟨hx, hb, hml, hown, hts⟩ (c_X6_takes_20 l g z I0 1 3 (dkN_lit (x := 1) (1) rfl) (dkN_lit (x := 3) (3) rfl) hO) (cwV 2 hts gX6_readsPerson_X6_takes rfl rfl rfl (by decide +kernel) ⟨Nat.le_of_ble_eq_true rfl, Nat.le_of_ble_eq_true rfl⟩) (dk_at340 hW) rfl hK hT hW hS rfl hl.1 rfl (Nat.le_of_ble_eq_true rfl) dX6_readsPerson_17 ⟨Nat.zero_le _, Nat.zero_le _⟩ (fun v29 I29 H29 L29 hp29 hW hS => ?_)
    obtain ⟨hF29, hO, hc29⟩ := hp29
    have hF := dkF_call hF hF29 rfl
    obtain ⟨_, -⟩ := hc29
    refine lv_pop hx hb dX6_readsPerson_20 rfl ?_
    refine lv_bipush (v := 6) hx hb dX6_readsPerson_21 (by decide) ?_
    refine lv_bipush (v := 6) hx hb dX6_readsPerson_23 (by decide) ?_
    refine lv_aload_n hx hb dX6_readsPerson_25 rfl (lv_at hl 0 rfl) ?_
    refine dk_get (k := 340) hx hb hts iX6_readsPerson_6 hown hK (dk_at340 hW) rfl 14 (by decide) (hts (.fieldLink RX6 28 "DogKingsModel" "draft" "[I") (List.mem_of_getElem? (i := 1) rfl)) rfl dX6_readsPerson_26 ?_
    refine lv_iconst (v := 4) hx hb dX6_readsPerson_29 (by decide) ?_
    refine dk_ild (k := 347) hx hb hK (dk_at347 hW) (dkN_in (n := 54) (dkN_lit (x := 4) (4) rfl) rfl) dX6_readsPerson_30 ?_
    refine lv_topi (fun v30 ev30 => ?_)
    have ev30 : v30 = I29 347 4 := ev30
    have dv30 : dkN [(0, 4)] v30 := by rw [ev30]; exact (show dkN [(0, 4)] (I29 347 4) from (by rw [hF29 347 4 rfl]; exact f28))
    refine lv_iconst (v := 5) hx hb dX6_readsPerson_31 (by decide) ?_
    refine lv_icmp_ge (tgt := 44) hx hb dX6_readsPerson_32 (by decide) (fun c31 => ?_) (fun c31 => ?_)
    ·
      exact (dkN_nil (show dkN [] 5 from dkN_le1 0 (dkN_lit (x := 5) (5) rfl) dv30 (dkc_le c31) rfl)).elim
    ·
      refine lv_aload_n hx hb dX6_readsPerson_35 rfl (lv_at hl 0 rfl) ?_
      refine dk_get (k := 340) hx hb hts iX6_readsPerson_6 hown hK (dk_at340 hW) rfl 14 (by decide) (hts (.fieldLink RX6 28 "DogKingsModel" "draft" "[I") (List.mem_of_getElem? (i := 1) rfl)) rfl dX6_readsPerson_36 ?_
      refine lv_iconst (v := 4) hx hb dX6_readsPerson_39 (by decide) ?_
      refine dk_ild (k := 347) hx hb hK (dk_at347 hW) (dkN_in (n := 54) (dkN_lit (x := 4) (4) rfl) rfl) dX6_readsPerson_40 ?_
      refine lv_topi (fun v32 ev32 => ?_)
      have ev32 : v32 = I29 347 4 := ev32
      have dv32 : dkN [(0, 4)] v32 := by rw [ev32]; exact (show dkN [(0, 4)] (I29 347 4) from (by rw [hF29 347 4 rfl]; exact f28))
      refine lv_goto (tgt := 45) hx hb dX6_readsPerson_41 (by decide) ?_
      refine lv_imul hx hb dX6_readsPerson_45 ?_
      refine lv_topi (fun v33 ev33 => ?_)
      have dv33 : dkN [(0, 24)] v33 := by rw [ev33]; exact dkN_mulL 6 (by decide) (dkN_lit (x := 6) (6) rfl) dv32 rfl
      refine lv_iadd hx hb dX6_readsPerson_46 ?_
      refine lv_topi (fun v34 ev34 => ?_)
      have dv34 : dkN [(6, 30)] v34 := by rw [ev34]; exact dkN_add (dkN_lit (x := 6) (6) rfl) dv33 rfl
      refine lv_istore_n (lv' := [(1, .int v34), (0, .ref (z + 340))]) hx hb dX6_readsPerson_47 rfl hl (by decide) rfl (fun ls hl => ?_)
      refine lv_aload_n hx hb dX6_readsPerson_48 rfl (lv_at hl 1 rfl) ?_
      refine lv_iconst (v := 0) hx hb dX6_readsPerson_49 (by decide) ?_
      refine lv_aload_n hx hb dX6_readsPerson_50 rfl (lv_at hl 1 rfl) ?_
      refine dk_get (k := 340) hx hb hts iX6_readsPerson_6 hown hK (dk_at340 hW) rfl 14 (by decide) (hts (.fieldLink RX6 28 "DogKingsModel" "draft" "[I") (List.mem_of_getElem? (i := 1) rfl)) rfl dX6_readsPerson_51 ?_
      refine lv_iconst (v := 0) hx hb dX6_readsPerson_54 (by decide) ?_
      refine dk_ild (k := 347) hx hb hK (dk_at347 hW) (dkN_in (n := 54) (dkN_lit (x := 0) (0) rfl) rfl) dX6_readsPerson_55 ?_
      refine lv_topi (fun v35 ev35 => ?_)
      have ev35 : v35 = I29 347 0 := ev35
      have dv35 : dkN [(0, 9)] v35 := by rw [ev35]; exact (show dkN [(0, 9)] (I29 347 0) from (hO 347 0))
      refine lv_iconst (v := 1) hx hb dX6_readsPerson_56 (by decide) ?_
      refine lv_isub hx hb dX6_readsPerson_57 ?_
      refine lv_topi (fun v36 ev36 => ?_)
      have dv36 : dkN [(-1, 8)] v36 := by rw [ev36]; exact dkN_subt dv35 (dkN_lit (x := 1) (1) rfl) rfl
      refine dk_Vi (As := [.int 0, .int v36]) (rest := []) ⟨hx, hb, hml, hown, hts⟩ (c_X6_figure_6 l g z I29 0 v36 (dkN_lit (x := 0) (0) rfl) dv36 hO) (cwV 2 hts gX6_readsPerson_X6_figure rfl rfl rfl (by decide +kernel) ⟨Nat.le_of_ble_eq_true rfl, Nat.le_of_ble_eq_true rfl⟩) (dk_at340 hW) rfl hK hT hW hS rfl hl.1 rfl (Nat.le_of_ble_eq_true rfl) dX6_readsPerson_58 ⟨Nat.zero_le _, Nat.zero_le _⟩ (fun v37 I37 H37 L37 hp37 hW hS => ?_)
      obtain ⟨hF37, hO, hc37⟩ := hp37
      have hF := dkF_call hF hF37 rfl
      obtain ⟨dv37, -⟩ := hc37
      refine lv_istore_n (lv' := [(2, .int v37), (1, .int v34), (0, .ref (z + 340))]) hx hb dX6_readsPerson_61 rfl hl (by decide) rfl (fun ls hl => ?_)
      refine lv_aload_n hx hb dX6_readsPerson_62 rfl (lv_at hl 2 rfl) ?_
      refine lv_iconst (v := 0) hx hb dX6_readsPerson_63 (by decide) ?_
      refine lv_bipush (v := 9) hx hb dX6_readsPerson_64 (by decide) ?_
      refine dk_Vi (As := [.int 0, .int 9]) (rest := []) ⟨hx, hb, hml, hown, hts⟩ (c_X6_follows_4 l g z I37 0 9 (dkN_lit (x := 0) (0) rfl) (dkN_lit (x := 9) (9) rfl) hO) (cwV 2 hts gX6_readsPerson_X6_follows rfl rfl rfl (by decide +kernel) ⟨Nat.le_of_ble_eq_true rfl, Nat.le_of_ble_eq_true rfl⟩) (dk_at340 hW) rfl hK hT hW hS rfl hl.1 rfl (Nat.le_of_ble_eq_true rfl) dX6_readsPerson_66 ⟨Nat.zero_le _, Nat.zero_le _⟩ (fun v38 I38 H38 L38 hp38 hW hS => ?_)
      obtain ⟨hF38, hO, hc38⟩ := hp38
      have hF := dkF_call hF hF38 rfl
      obtain ⟨dv38, -⟩ := hc38
      refine lv_istore_n (lv' := [(3, .int v38), (2, .int v37), (1, .int v34), (0, .ref (z + 340))]) hx hb dX6_readsPerson_69 rfl hl (by decide) rfl (fun ls hl => ?_)
      refine lv_aload_n hx hb dX6_readsPerson_70 rfl (lv_at hl 3 rfl) ?_
      refine lv_iconst (v := 0) hx hb dX6_readsPerson_71 (by decide) ?_
      refine lv_iconst (v := 2) hx hb dX6_readsPerson_72 (by decide) ?_
      refine dk_Vi (As := [.int 0, .int 2]) (rest := []) ⟨hx, hb, hml, hown, hts⟩ (c_X6_follows_5 l g z I38 0 2 (dkN_lit (x := 0) (0) rfl) (dkN_lit (x := 2) (2) rfl) hO) (cwV 2 hts gX6_readsPerson_X6_follows rfl rfl rfl (by decide +kernel) ⟨Nat.le_of_ble_eq_true rfl, Nat.le_of_ble_eq_true rfl⟩) (dk_at340 hW) rfl hK hT hW hS rfl hl.1 rfl (Nat.le_of_ble_eq_true rfl) dX6_readsPerson_73 ⟨Nat.zero_le _, Nat.zero_le _⟩ (fun v39 I39 H39 L39 hp39 hW hS => ?_)
      obtain ⟨hF39, hO, hc39⟩ := hp39
      have hF := dkF_call hF hF39 rfl
      obtain ⟨dv39, -⟩ := hc39
      refine lv_istore (lv' := [(4, .int v39), (3, .int v38), (2, .int v37), (1, .int v34), (0, .ref (z + 340))]) hx hb dX6_readsPerson_76 hl (by decide) rfl (fun ls hl => ?_)
      refine lv_aload_n hx hb dX6_readsPerson_78 rfl (lv_at hl 4 rfl) ?_
      refine lv_aload_n hx hb dX6_readsPerson_79 rfl (lv_at hl 4 rfl) ?_
      refine dk_get (k := 340) hx hb hts iX6_readsPerson_6 hown hK (dk_at340 hW) rfl 11 (by decide) (hts (.fieldLink RX6 98 "DogKingsModel" "token" "I") (List.mem_of_getElem? (i := 2) rfl)) rfl dX6_readsPerson_80 ?_
      refine lv_topi (fun v40 ev40 => ?_)
      refine lv_iconst (v := 4) hx hb dX6_readsPerson_83 (by decide) ?_
      refine lv_icmp_ne (tgt := 91) hx hb dX6_readsPerson_84 (by decide) (fun c41 => ?_) (fun c41 => ?_)
      ·
        have d42 : dkN [(-2147483648, 3), (5, 2147483647)] v40 := dkN_ne1 (4) (dkN_top v40) (dkN_lit (x := 4) (4) rfl) (dk_ne c41) rfl
        have f43 : dkN [(-2147483648, 3), (5, 2147483647)] (I39 340 11) := by rw [← ev40]; exact d42
        refine lv_iconst (v := 0) hx hb dX6_readsPerson_91 (by decide) ?_
        refine lv_iconst (v := 1) hx hb dX6_readsPerson_92 (by decide) ?_
        refine dk_Vi (As := [.int 0, .int 1]) (rest := []) ⟨hx, hb, hml, hown, hts⟩ (c_X6_takes_29 l g z I39 0 1 (dkN_lit (x := 0) (0) rfl) (dkN_lit (x := 1) (1) rfl) hO) (cwV 2 hts gX6_readsPerson_X6_takes rfl rfl rfl (by decide +kernel) ⟨Nat.le_of_ble_eq_true rfl, Nat.le_of_ble_eq_true rfl⟩) (dk_at340 hW) rfl hK hT hW hS rfl hl.1 rfl (Nat.le_of_ble_eq_true rfl) dX6_readsPerson_93 ⟨Nat.zero_le _, Nat.zero_le _⟩ (fun v44 I44 H44 L44 hp44 hW hS => ?_)
        obtain ⟨hF44, hO, hc44⟩ := hp44
        have hF := dkF_call hF hF44 rfl
        obtain ⟨dv44, f44_340_8, -⟩ := hc44
        refine lv_pop hx hb dX6_readsPerson_96 rfl ?_
        refine lv_aload_n hx hb dX6_readsPerson_97 rfl (lv_at hl 4 rfl) ?_
        refine dk_Vi (As := []) (rest := []) ⟨hx, hb, hml, hown, hts⟩ (c_X6_isWell_4 l g z I44 (show dkN [(0, 2147483647)] (I44 340 8) from dkN_sub f44_340_8 rfl) hO) (cwV 0 hts gX6_readsPerson_X6_isWell rfl rfl rfl (by decide +kernel) ⟨Nat.le_of_ble_eq_true rfl, Nat.le_of_ble_eq_true rfl⟩) (dk_at340 hW) rfl hK hT hW hS rfl hl.1 rfl (Nat.le_of_ble_eq_true rfl) dX6_readsPerson_98 ⟨Nat.zero_le _, Nat.zero_le _⟩ (fun v45 I45 H45 L45 hp45 hW hS => ?_)
        obtain ⟨hF45, hO, hc45⟩ := hp45
        have hF := dkF_call hF hF45 rfl
        obtain ⟨dv45, f45_340_8, -⟩ := hc45
        refine lv_if_eq (tgt := 149) hx hb dX6_readsPerson_101 (by decide) (fun c46 => ?_) (fun c46 => ?_)
        ·
          exact W.vret hx hb hr (fun t ht hW9 => ⟨⟨I45, rfl, ⟨hF, hO, Or.inr (⟨(show dkN [(0, 2147483647)] (I45 340 8) from dkN_sub f45_340_8 rfl), trivial⟩)⟩, dkW_eq ht hW⟩, hS.F ht⟩) hS.2.2 dX6_readsPerson_149
        ·
          exact (dkN_nil (show dkN [] v45 from dkN_ne1 (0) dv45 (dkN_lit (x := 0) (0) rfl) (dk_ne c46) rfl)).elim
      ·
        have d47 : dkN [(4, 4)] v40 := dkN_eq1 (dkN_top v40) (dkN_lit (x := 4) (4) rfl) (congrArg Int32.toInt c41) rfl
        have f48 : dkN [(4, 4)] (I39 340 11) := by rw [← ev40]; exact d47
        refine lv_iconst (v := 1) hx hb dX6_readsPerson_87 (by decide) ?_
        refine lv_goto (tgt := 92) hx hb dX6_readsPerson_88 (by decide) ?_
        refine lv_iconst (v := 1) hx hb dX6_readsPerson_92 (by decide) ?_
        refine dk_Vi (As := [.int 1, .int 1]) (rest := []) ⟨hx, hb, hml, hown, hts⟩ (c_X6_takes_30 l g z I39 1 1 (dkN_lit (x := 1) (1) rfl) (dkN_lit (x := 1) (1) rfl) hO) (cwV 2 hts gX6_readsPerson_X6_takes rfl rfl rfl (by decide +kernel) ⟨Nat.le_of_ble_eq_true rfl, Nat.le_of_ble_eq_true rfl⟩) (dk_at340 hW) rfl hK hT hW hS rfl hl.1 rfl (Nat.le_of_ble_eq_true rfl) dX6_readsPerson_93 ⟨Nat.zero_le _, Nat.zero_le _⟩ (fun v49 I49 H49 L49 hp49 hW hS => ?_)
        obtain ⟨hF49, hO, hc49⟩ := hp49
        have hF := dkF_call hF hF49 rfl
        obtain ⟨_, -⟩ := hc49
        refine lv_pop hx hb dX6_readsPerson_96 rfl ?_
        refine lv_aload_n hx hb dX6_readsPerson_97 rfl (lv_at hl 4 rfl) ?_
        refine dk_Vi (As := []) (rest := []) ⟨hx, hb, hml, hown, hts⟩ (c_X6_isWell_3 l g z I49 hO) (cwV 0 hts gX6_readsPerson_X6_isWell rfl rfl rfl (by decide +kernel) ⟨Nat.le_of_ble_eq_true rfl, Nat.le_of_ble_eq_true rfl⟩) (dk_at340 hW) rfl hK hT hW hS rfl hl.1 rfl (Nat.le_of_ble_eq_true rfl) dX6_readsPerson_98 ⟨Nat.zero_le _, Nat.zero_le _⟩ (fun v50 I50 H50 L50 hp50 hW hS => ?_)
        obtain ⟨hF50, hO, hc50⟩ := hp50
        have hF := dkF_call hF hF50 rfl
        rcases hc50 with ⟨dv50, f50_340_8, -⟩ | hc50
        ·
          refine lv_if_eq (tgt := 149) hx hb dX6_readsPerson_101 (by decide) (fun c51 => ?_) (fun c51 => ?_)
          ·
            exact W.vret hx hb hr (fun t ht hW9 => ⟨⟨I50, rfl, ⟨hF, hO, Or.inr (⟨(show dkN [(0, 2147483647)] (I50 340 8) from dkN_sub f50_340_8 rfl), trivial⟩)⟩, dkW_eq ht hW⟩, hS.F ht⟩) hS.2.2 dX6_readsPerson_149
          ·
            exact (dkN_nil (show dkN [] v50 from dkN_ne1 (0) dv50 (dkN_lit (x := 0) (0) rfl) (dk_ne c51) rfl)).elim
        ·
          obtain ⟨dv50, f50_340_8, -⟩ := hc50
          refine lv_if_eq (tgt := 149) hx hb dX6_readsPerson_101 (by decide) (fun c52 => ?_) (fun c52 => ?_)
          ·
            exact (dkN_nil (show dkN [] v50 from dkN_eq1 dv50 (dkN_lit (x := 0) (0) rfl) (congrArg Int32.toInt c52) rfl)).elim
          ·
            refine lv_aload_n hx hb dX6_readsPerson_104 rfl (lv_at hl 4 rfl) ?_
            refine dk_get (k := 340) hx hb hts iX6_readsPerson_6 hown hK (dk_at340 hW) rfl 14 (by decide) (hts (.fieldLink RX6 28 "DogKingsModel" "draft" "[I") (List.mem_of_getElem? (i := 1) rfl)) rfl dX6_readsPerson_105 ?_
            refine lv_iload_n hx hb dX6_readsPerson_108 rfl (lv_at hl 3 rfl) ?_
            refine lv_iload_n hx hb dX6_readsPerson_109 rfl (lv_at hl 2 rfl) ?_
            refine dk_ist (k := 347) hx hb hK hW (fun _ => rfl) (by decide) hS (dkN_in (n := 54) dv34 rfl) dX6_readsPerson_110 (fun I53 H53 L53 eI53 hW hS => ?_)
            have hO := dkO_set hO eI53 (by rw [dkB_w (k := 347) (B := [(-2147483648, 2147483647)]) (by decide) dv34 rfl]; exact dkN_top _)
            have hF := dkF_set hF eI53 (dkIn_v dv34 rfl)
            refine lv_aload_n hx hb dX6_readsPerson_111 rfl (lv_at hl 4 rfl) ?_
            refine dk_get (k := 340) hx hb hts iX6_readsPerson_6 hown hK (dk_at340 hW) rfl 14 (by decide) (hts (.fieldLink RX6 28 "DogKingsModel" "draft" "[I") (List.mem_of_getElem? (i := 1) rfl)) rfl dX6_readsPerson_112 ?_
            refine lv_iload_n hx hb dX6_readsPerson_115 rfl (lv_at hl 3 rfl) ?_
            refine lv_iconst (v := 1) hx hb dX6_readsPerson_116 (by decide) ?_
            refine lv_iadd hx hb dX6_readsPerson_117 ?_
            refine lv_topi (fun v54 ev54 => ?_)
            have dv54 : dkN [(7, 31)] v54 := by rw [ev54]; exact dkN_add dv34 (dkN_lit (x := 1) (1) rfl) rfl
            refine lv_iload_n hx hb dX6_readsPerson_118 rfl (lv_at hl 1 rfl) ?_
            refine dk_ist (k := 347) hx hb hK hW (fun _ => rfl) (by decide) hS (dkN_in (n := 54) dv54 rfl) dX6_readsPerson_119 (fun I55 H55 L55 eI55 hW hS => ?_)
            have hO := dkO_set hO eI55 (by rw [dkB_w (k := 347) (B := [(-2147483648, 2147483647)]) (by decide) dv54 rfl]; exact dkN_top _)
            have hF := dkF_set hF eI55 (dkIn_v dv54 rfl)
            refine lv_aload_n hx hb dX6_readsPerson_120 rfl (lv_at hl 4 rfl) ?_
            refine dk_get (k := 340) hx hb hts iX6_readsPerson_6 hown hK (dk_at340 hW) rfl 14 (by decide) (hts (.fieldLink RX6 28 "DogKingsModel" "draft" "[I") (List.mem_of_getElem? (i := 1) rfl)) rfl dX6_readsPerson_121 ?_
            refine lv_iload_n hx hb dX6_readsPerson_124 rfl (lv_at hl 3 rfl) ?_
            refine lv_iconst (v := 2) hx hb dX6_readsPerson_125 (by decide) ?_
            refine lv_iadd hx hb dX6_readsPerson_126 ?_
            refine lv_topi (fun v56 ev56 => ?_)
            have dv56 : dkN [(8, 32)] v56 := by rw [ev56]; exact dkN_add dv34 (dkN_lit (x := 2) (2) rfl) rfl
            refine lv_iload hx hb dX6_readsPerson_127 (lv_at hl 0 rfl) ?_
            refine dk_ist (k := 347) hx hb hK hW (fun _ => rfl) (by decide) hS (dkN_in (n := 54) dv56 rfl) dX6_readsPerson_129 (fun I57 H57 L57 eI57 hW hS => ?_)
            have hO := dkO_set hO eI57 (by rw [dkB_w (k := 347) (B := [(-2147483648, 2147483647)]) (by decide) dv56 rfl]; exact dkN_top _)
            have hF := dkF_set hF eI57 (dkIn_v dv56 rfl)
            refine lv_aload_n hx hb dX6_readsPerson_130 rfl (lv_at hl 4 rfl) ?_
            refine dk_get (k := 340) hx hb hts iX6_readsPerson_6 hown hK (dk_at340 hW) rfl 14 (by decide) (hts (.fieldLink RX6 28 "DogKingsModel" "draft" "[I") (List.mem_of_getElem? (i := 1) rfl)) rfl dX6_readsPerson_131 ?_
            refine lv_iload_n hx hb dX6_readsPerson_134 rfl (lv_at hl 3 rfl) ?_
            refine lv_iconst (v := 4) hx hb dX6_readsPerson_135 (by decide) ?_
            refine lv_iadd hx hb dX6_readsPerson_136 ?_
            refine lv_topi (fun v58 ev58 => ?_)
            have dv58 : dkN [(10, 34)] v58 := by rw [ev58]; exact dkN_add dv34 (dkN_lit (x := 4) (4) rfl) rfl
            refine lv_iload_n hx hb dX6_readsPerson_137 rfl (lv_at hl 2 rfl) ?_
            refine dk_ist (k := 347) hx hb hK hW (fun _ => rfl) (by decide) hS (dkN_in (n := 54) dv58 rfl) dX6_readsPerson_138 (fun I59 H59 L59 eI59 hW hS => ?_)
            have hO := dkO_set hO eI59 (by rw [dkB_w (k := 347) (B := [(-2147483648, 2147483647)]) (by decide) dv58 rfl]; exact dkN_top _)
            have hF := dkF_set hF eI59 (dkIn_v dv58 rfl)
            refine lv_aload_n hx hb dX6_readsPerson_139 rfl (lv_at hl 4 rfl) ?_
            refine dk_get (k := 340) hx hb hts iX6_readsPerson_6 hown hK (dk_at340 hW) rfl 14 (by decide) (hts (.fieldLink RX6 28 "DogKingsModel" "draft" "[I") (List.mem_of_getElem? (i := 1) rfl)) rfl dX6_readsPerson_140 ?_
            refine lv_iconst (v := 4) hx hb dX6_readsPerson_143 (by decide) ?_
            refine lv_dup2_11 hx hb dX6_readsPerson_144 rfl rfl ?_
            refine dk_ild (k := 347) hx hb hK (dk_at347 hW) (dkN_in (n := 54) (dkN_lit (x := 4) (4) rfl) rfl) dX6_readsPerson_145 ?_
            refine lv_topi (fun v60 ev60 => ?_)
            have ev60 : v60 = I59 347 4 := ev60
            have dv60 : dkN [(0, 4)] v60 := by rw [ev60]; exact (show dkN [(0, 4)] (I59 347 4) from (by rw [eI59, dkU_sn (dkN_njx dv58 rfl)]; exact (by rw [eI57, dkU_sn (dkN_njx dv56 rfl)]; exact (by rw [eI55, dkU_sn (dkN_njx dv54 rfl)]; exact (by rw [eI53, dkU_sn (dkN_njx dv34 rfl)]; exact (by rw [hF50 347 4 rfl]; exact (by rw [hF49 347 4 rfl]; exact (by rw [hF39 347 4 rfl]; exact (by rw [hF38 347 4 rfl]; exact (by rw [hF37 347 4 rfl]; exact (by rw [hF29 347 4 rfl]; exact f28)))))))))))
            refine lv_iconst (v := 1) hx hb dX6_readsPerson_146 (by decide) ?_
            refine lv_iadd hx hb dX6_readsPerson_147 ?_
            refine lv_topi (fun v61 ev61 => ?_)
            have dv61 : dkN [(1, 5)] v61 := by rw [ev61]; exact dkN_add dv60 (dkN_lit (x := 1) (1) rfl) rfl
            refine dk_ist (k := 347) hx hb hK hW (fun _ => rfl) (by decide) hS (dkN_in (n := 54) (dkN_lit (x := 4) (4) rfl) rfl) dX6_readsPerson_148 (fun I62 H62 L62 eI62 hW hS => ?_)
            have eI62 : I62 = dkU I59 347 4 v61 := eI62
            have hO := dkO_set hO eI62 (dkN_sub dv61 rfl)
            have hF := dkF_set hF eI62 rfl
            exact W.vret hx hb hr (fun t ht hW9 => ⟨⟨I62, rfl, ⟨hF, hO, Or.inl ⟨(show dkN [(-2147483648, -1)] (I62 340 8) from dkN_sub (by rw [eI62, dkU_n (by decide)]; exact (by rw [eI59, dkU_n (by decide)]; exact (by rw [eI57, dkU_n (by decide)]; exact (by rw [eI55, dkU_n (by decide)]; exact (by rw [eI53, dkU_n (by decide)]; exact f50_340_8))))) rfl), (show dkN [(1, 5)] (I62 347 4) from dkN_sub (by rw [eI62, dkU_ss]; exact dv61) rfl), dk_incEq (by rw [eI62, dkU_ss, ev61] : I62 347 4 = v60 + 1) (ev60.trans ((by rw [eI59, dkU_sn (dkN_njx dv58 rfl)] : I59 347 4 = _).trans ((by rw [eI57, dkU_sn (dkN_njx dv56 rfl)] : I57 347 4 = _).trans ((by rw [eI55, dkU_sn (dkN_njx dv54 rfl)] : I55 347 4 = _).trans ((by rw [eI53, dkU_sn (dkN_njx dv34 rfl)] : I53 347 4 = _).trans ((hF50 347 4 rfl).trans ((hF49 347 4 rfl).trans ((hF39 347 4 rfl).trans ((hF38 347 4 rfl).trans ((hF37 347 4 rfl).trans ((hF29 347 4 rfl).trans rfl))))))))))), trivial⟩⟩, dkW_eq ht hW⟩, hS.F ht⟩) hS.2.2 dX6_readsPerson_149
