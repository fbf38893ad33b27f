set_option maxHeartbeats 4000000 in
set_option maxRecDepth 100000 in
theorem c_X1_gives_26 (l : Launch) (g : dkG) (z : Nat) (I0 : dkI) (p0 : Int32) (p1 : Int32) (p2 : Int32) (dp0 : dkN [(21, 21)] p0) (dp1 : dkN [(0, 5)] p1) (dp2 : dkN [(4, 4)] p2)  (hO : dkOk I0) : Met l yX1_gives wsX1_gives (dkR 2) (dkPc g z [.ref (z + 338), .int p0, .int p1, .int p2] I0) (dkQi g z (fun r I1 => dkF [(338, 338, 2, 2), (339, 339, 0, 15)] I0 I1 ∧ dkOk I1 ∧ ((True ∧ dkN [(1, 16)] (I1 338 2) ∧ True)))) 0 0 (dkA z) := by
  refine Met.ofW (cc := cX1_gives) (maxL := 5) (ret := (some .int)) (by decide) rfl ?_
  intro p e s m args below meth c s₁ B hml hv
  obtain ⟨ha, hW, hK, hT⟩ := hv
  have hx := B.exec
  have hb := B.bytes
  have hr := B.returns
  have hts := atoms_spec (ws := wsX1_gives) B.pre
  have hown : s.vm.findClass RX1 = some m.cls := findClass_of_methodNamed B.named
  have hlocks := B.notSynchronized
  have hS : va_S (dkA z) s.heap s.heap [] := va_S.rf
  have hF : dkF [(338, 338, 2, 2), (339, 339, 0, 15)] I0 I0 := dkF_rf _ _
  have hl := lv_entry ([.ref (z + 338), .int p0, .int p1, .int p2]) (n := 5) (Nat.le_of_ble_eq_true rfl)
  have hgo : entryFrame m args 5 = entryFrame m ([.ref (z + 338), .int p0, .int p1, .int p2] : List Value).toArray 5 := by rw [ha]
  rw [hgo, lg_entry_eq]
  generalize (lg_sl ([.ref (z + 338), .int p0, .int p1, .int p2]) ++ List.replicate (5 - (lg_sl ([.ref (z + 338), .int p0, .int p1, .int p2])).length) Slot.unset).toArray = ls at hl ⊢
  have hl : lv_has ls 5 [(0, .ref (z + 338)), (1, .int p0), (2, .int p1), (3, .int p2)] := hl
  refine lv_iload_n hx hb dX1_gives_0 rfl (lv_at hl 3 rfl) ?_
  refine lv_iconst (v := 5) hx hb dX1_gives_1 (by decide) ?_
  refine lv_icmp_le (tgt := 8) hx hb dX1_gives_2 (by decide) (fun c1 => ?_) (fun c1 => ?_)
  ·
    refine lv_aload_n hx hb dX1_gives_8 rfl (lv_at hl 0 rfl) ?_
    refine lv_iload_n hx hb dX1_gives_9 rfl (lv_at hl 1 rfl) ?_
    refine dk_Vv (As := [.int p0]) (rest := []) ⟨hx, hb, hml, hown, hts⟩ (c_X1_begins_4 l g z I0 p0 dp0 hO) (cwV 1 hts gX1_gives_X1_begins rfl rfl rfl (by decide +kernel) ⟨Nat.le_of_ble_eq_true rfl, Nat.le_of_ble_eq_true rfl⟩) (dk_at338 hW) rfl hK hT hW hS rfl hl.1 rfl (Nat.le_of_ble_eq_true rfl) dX1_gives_10 ⟨Nat.zero_le _, Nat.zero_le _⟩ (fun I2 H2 L2 hp2 hW hS => ?_)
    obtain ⟨hF2, hO, hc2⟩ := hp2
    have hF := dkF_call hF hF2 rfl
    obtain ⟨f2_338_2, -⟩ := hc2
    refine lv_iload_n hx hb dX1_gives_13 rfl (lv_at hl 3 rfl) ?_
    refine lv_iconst (v := 1) hx hb dX1_gives_14 (by decide) ?_
    refine lv_iadd hx hb dX1_gives_15 ?_
    refine lv_topi (fun v3 ev3 => ?_)
    have dv3 : dkN [(5, 5)] v3 := by rw [ev3]; exact dkN_add dp2 (dkN_lit (x := 1) (1) rfl) rfl
    refine lv_istore (lv' := [(4, .int v3), (0, .ref (z + 338)), (1, .int p0), (2, .int p1), (3, .int p2)]) hx hb dX1_gives_16 hl (by decide) rfl (fun ls hl => ?_)
    refine lv_iload_n hx hb dX1_gives_18 rfl (lv_at hl 2 rfl) ?_
    by_cases c4 : p0 = 21
    ·
      have qc4 : p0.toInt = 21 := by rw [c4]; rfl
      have d5 : dkN [(21, 21)] p0 := dkN_lit (21) qc4
      refine lv_tableIn (tgt := 163) hx hb dX1_gives_19 (by rw [qc4]; decide) (by rw [qc4]; decide) (by rw [qc4]; rfl) (by decide) ?_
      refine lv_aload_n hx hb dX1_gives_163 rfl (lv_at hl 1 rfl) ?_
      refine lv_bipush (v := 20) hx hb dX1_gives_164 (by decide) ?_
      refine lv_iload_n hx hb dX1_gives_166 rfl (lv_at hl 3 rfl) ?_
      refine lv_iload hx hb dX1_gives_167 (lv_at hl 0 rfl) ?_
      refine dk_Vi (As := [.int 20, .int p1, .int v3]) (rest := []) ⟨hx, hb, hml, hown, hts⟩ (c_X1_gives_9 l g z I2 20 p1 v3 (dkN_lit (x := 20) (20) rfl) dp1 dv3 hO) (cwV 3 hts gX1_gives_X1_gives rfl rfl rfl (by decide +kernel) ⟨Nat.le_of_ble_eq_true rfl, Nat.le_of_ble_eq_true rfl⟩) (dk_at338 hW) rfl hK hT hW hS rfl hl.1 rfl (Nat.le_of_ble_eq_true rfl) dX1_gives_169 ⟨Nat.zero_le _, Nat.zero_le _⟩ (fun v6 I6 H6 L6 hp6 hW hS => ?_)
      obtain ⟨hF6, hO, ev6, hc6⟩ := hp6
      have hF := dkF_call hF hF6 rfl
      obtain ⟨dv6, f6_338_2, -⟩ := hc6
      rw [ev6]
      refine lv_aload_n hx hb dX1_gives_172 rfl (lv_at hl 1 rfl) ?_
      refine dk_get (k := 338) hx hb hts iX1_gives_1 hown hK (dk_at338 hW) rfl 0 (by decide) (hts (.fieldLink RX1 15 "DogKings$Asks" "now" "LDogKings$Town;") (List.mem_of_getElem? (i := 2) rfl)) rfl dX1_gives_173 ?_
      refine dk_get (k := 25) hx hb hts iX1_gives_4 hown hK (dk_at25 hW) rfl 14 (by decide) (hts (.fieldLink RX1 54 "DogKings$Town" "dogAt" "[I") (List.mem_of_getElem? (i := 4) rfl)) rfl dX1_gives_176 ?_
      refine lv_iload_n hx hb dX1_gives_179 rfl (lv_at hl 3 rfl) ?_
      refine dk_ild (k := 34) hx hb hK (dk_at34 hW) (dkN_in (n := 6) dp1 rfl) dX1_gives_180 ?_
      refine lv_topi (fun v7 ev7 => ?_)
      refine lv_iadd hx hb dX1_gives_181 ?_
      refine lv_topi (fun v8 ev8 => ?_)
      exact W.iret (v := v8) hx hb hr (fun t ht hW9 => ⟨⟨v8, I6, rfl, ⟨hF, hO, ⟨trivial, (show dkN [(1, 16)] (I6 338 2) from dkN_sub f6_338_2 rfl), trivial⟩⟩, dkW_eq ht hW⟩, hS.F ht⟩) hS.2.2 dX1_gives_182
    ·
      exact (dkN_nil (show dkN [] p0 from dkN_ne1 (21) dp0 (dkN_lit (x := 21) (21) rfl) (dk_ne c4) rfl)).elim
  ·
    exact (dkN_nil (show dkN [] p2 from dkN_le2 1 (dkN_lit (x := 5) (5) rfl) dp2 (dkc_nle c1) rfl)).elim
set_option maxHeartbeats 4000000 in
set_option maxRecDepth 100000 in
theorem c_X1_gives_28 (l : Launch) (g : dkG) (z : Nat) (I0 : dkI) (p0 : Int32) (p1 : Int32) (p2 : Int32) (dp0 : dkN [(11, 11)] p0) (dp1 : dkN [(0, 5)] p1) (dp2 : dkN [(5, 5)] p2)  (hO : dkOk I0) : Met l yX1_gives wsX1_gives (dkR 1) (dkPc g z [.ref (z + 338), .int p0, .int p1, .int p2] I0) (dkQi g z (fun r I1 => dkF [(338, 338, 2, 2), (339, 339, 0, 15)] I0 I1 ∧ dkOk I1 ∧ ((dkN [(-2000002, -2000002)] r ∧ dkN [(1, 16)] (I1 338 2) ∧ True)))) 0 0 (dkA z) := by
  refine Met.ofW (cc := cX1_gives) (maxL := 5) (ret := (some .int)) (by decide) rfl ?_
  intro p e s m args below meth c s₁ B hml hv
  obtain ⟨ha, hW, hK, hT⟩ := hv
  have hx := B.exec
  have hb := B.bytes
  have hr := B.returns
  have hts := atoms_spec (ws := wsX1_gives) B.pre
  have hown : s.vm.findClass RX1 = some m.cls := findClass_of_methodNamed B.named
  have hlocks := B.notSynchronized
  have hS : va_S (dkA z) s.heap s.heap [] := va_S.rf
  have hF : dkF [(338, 338, 2, 2), (339, 339, 0, 15)] I0 I0 := dkF_rf _ _
  have hl := lv_entry ([.ref (z + 338), .int p0, .int p1, .int p2]) (n := 5) (Nat.le_of_ble_eq_true rfl)
  have hgo : entryFrame m args 5 = entryFrame m ([.ref (z + 338), .int p0, .int p1, .int p2] : List Value).toArray 5 := by rw [ha]
  rw [hgo, lg_entry_eq]
  generalize (lg_sl ([.ref (z + 338), .int p0, .int p1, .int p2]) ++ List.replicate (5 - (lg_sl ([.ref (z + 338), .int p0, .int p1, .int p2])).length) Slot.unset).toArray = ls at hl ⊢
  have hl : lv_has ls 5 [(0, .ref (z + 338)), (1, .int p0), (2, .int p1), (3, .int p2)] := hl
  refine lv_iload_n hx hb dX1_gives_0 rfl (lv_at hl 3 rfl) ?_
  refine lv_iconst (v := 5) hx hb dX1_gives_1 (by decide) ?_
  refine lv_icmp_le (tgt := 8) hx hb dX1_gives_2 (by decide) (fun c1 => ?_) (fun c1 => ?_)
  ·
    refine lv_aload_n hx hb dX1_gives_8 rfl (lv_at hl 0 rfl) ?_
    refine lv_iload_n hx hb dX1_gives_9 rfl (lv_at hl 1 rfl) ?_
    refine dk_Vv (As := [.int p0]) (rest := []) ⟨hx, hb, hml, hown, hts⟩ (c_X1_begins_6 l g z I0 p0 dp0 hO) (cwV 1 hts gX1_gives_X1_begins rfl rfl rfl (by decide +kernel) ⟨Nat.le_of_ble_eq_true rfl, Nat.le_of_ble_eq_true rfl⟩) (dk_at338 hW) rfl hK hT hW hS rfl hl.1 rfl (Nat.le_of_ble_eq_true rfl) dX1_gives_10 ⟨Nat.zero_le _, Nat.zero_le _⟩ (fun I2 H2 L2 hp2 hW hS => ?_)
    obtain ⟨hF2, hO, hc2⟩ := hp2
    have hF := dkF_call hF hF2 rfl
    obtain ⟨f2_338_2, -⟩ := hc2
    refine lv_iload_n hx hb dX1_gives_13 rfl (lv_at hl 3 rfl) ?_
    refine lv_iconst (v := 1) hx hb dX1_gives_14 (by decide) ?_
    refine lv_iadd hx hb dX1_gives_15 ?_
    refine lv_topi (fun v3 ev3 => ?_)
    have dv3 : dkN [(6, 6)] v3 := by rw [ev3]; exact dkN_add dp2 (dkN_lit (x := 1) (1) rfl) rfl
    refine lv_istore (lv' := [(4, .int v3), (0, .ref (z + 338)), (1, .int p0), (2, .int p1), (3, .int p2)]) hx hb dX1_gives_16 hl (by decide) rfl (fun ls hl => ?_)
    refine lv_iload_n hx hb dX1_gives_18 rfl (lv_at hl 2 rfl) ?_
    by_cases c4 : p0 = 11
    ·
      have qc4 : p0.toInt = 11 := by rw [c4]; rfl
      have d5 : dkN [(11, 11)] p0 := dkN_lit (11) qc4
      refine lv_tableIn (tgt := 102) hx hb dX1_gives_19 (by rw [qc4]; decide) (by rw [qc4]; decide) (by rw [qc4]; rfl) (by decide) ?_
      refine lv_aload_n hx hb dX1_gives_102 rfl (lv_at hl 1 rfl) ?_
      refine lv_bipush (v := 10) hx hb dX1_gives_103 (by decide) ?_
      refine lv_iload_n hx hb dX1_gives_105 rfl (lv_at hl 3 rfl) ?_
      refine lv_iload hx hb dX1_gives_106 (lv_at hl 0 rfl) ?_
      refine dk_Vi (As := [.int 10, .int p1, .int v3]) (rest := []) ⟨hx, hb, hml, hown, hts⟩ (c_X1_gives_13 l g z I2 10 p1 v3 (dkN_lit (x := 10) (10) rfl) dp1 dv3 hO) (cwV 3 hts gX1_gives_X1_gives rfl rfl rfl (by decide +kernel) ⟨Nat.le_of_ble_eq_true rfl, Nat.le_of_ble_eq_true rfl⟩) (dk_at338 hW) rfl hK hT hW hS rfl hl.1 rfl (Nat.le_of_ble_eq_true rfl) dX1_gives_108 ⟨Nat.zero_le _, Nat.zero_le _⟩ (fun v6 I6 H6 L6 hp6 hW hS => ?_)
      obtain ⟨hF6, hO, hc6⟩ := hp6
      have hF := dkF_call hF hF6 rfl
      obtain ⟨dv6, -⟩ := hc6
      refine lv_aload_n hx hb dX1_gives_111 rfl (lv_at hl 1 rfl) ?_
      refine lv_aload_n hx hb dX1_gives_112 rfl (lv_at hl 1 rfl) ?_
      refine lv_iload_n hx hb dX1_gives_113 rfl (lv_at hl 3 rfl) ?_
      refine dk_Vi (As := [.int p1]) (rest := [.ref (z + 338), .int v6]) ⟨hx, hb, hml, hown, hts⟩ (c_X1_markBody_0 l g z I6 p1 dp1 hO) (cwV 1 hts gX1_gives_X1_markBody rfl rfl rfl (by decide +kernel) ⟨Nat.le_of_ble_eq_true rfl, Nat.le_of_ble_eq_true rfl⟩) (dk_at338 hW) rfl hK hT hW hS rfl hl.1 rfl (Nat.le_of_ble_eq_true rfl) dX1_gives_114 ⟨Nat.zero_le _, Nat.zero_le _⟩ (fun v7 I7 H7 L7 hp7 hW hS => ?_)
      obtain ⟨hF7, hO, hc7⟩ := hp7
      have hF := dkF_call hF hF7 rfl
      obtain ⟨dv7, -⟩ := hc7
      refine lv_iload_n hx hb dX1_gives_117 rfl (lv_at hl 3 rfl) ?_
      refine lv_iload hx hb dX1_gives_118 (lv_at hl 0 rfl) ?_
      refine dk_Vi (As := [.int v7, .int p1, .int v3]) (rest := [.int v6]) ⟨hx, hb, hml, hown, hts⟩ (c_X1_gives_14 l g z I7 v7 p1 v3 dv7 dp1 dv3 hO) (cwV 3 hts gX1_gives_X1_gives rfl rfl rfl (by decide +kernel) ⟨Nat.le_of_ble_eq_true rfl, Nat.le_of_ble_eq_true rfl⟩) (dk_at338 hW) rfl hK hT hW hS rfl hl.1 rfl (Nat.le_of_ble_eq_true rfl) dX1_gives_120 ⟨Nat.zero_le _, Nat.zero_le _⟩ (fun v8 I8 H8 L8 hp8 hW hS => ?_)
      obtain ⟨hF8, hO, hc8⟩ := hp8
      have hF := dkF_call hF hF8 rfl
      obtain ⟨dv8, -⟩ := hc8
      refine lv_iadd hx hb dX1_gives_123 ?_
      refine lv_topi (fun v9 ev9 => ?_)
      have dv9 : dkN [(-2000002, -2000002)] v9 := by rw [ev9]; exact dkN_add dv6 dv8 rfl
      exact W.iret (v := v9) hx hb hr (fun t ht hW9 => ⟨⟨v9, I8, rfl, ⟨hF, hO, ⟨dkN_sub dv9 rfl, (show dkN [(1, 16)] (I8 338 2) from dkN_sub (by rw [hF8 338 2 rfl]; exact (by rw [hF7 338 2 rfl]; exact (by rw [hF6 338 2 rfl]; exact f2_338_2))) rfl), trivial⟩⟩, dkW_eq ht hW⟩, hS.F ht⟩) hS.2.2 dX1_gives_124
    ·
      exact (dkN_nil (show dkN [] p0 from dkN_ne1 (11) dp0 (dkN_lit (x := 11) (11) rfl) (dk_ne c4) rfl)).elim
  ·
    exact (dkN_nil (show dkN [] p2 from dkN_le2 1 (dkN_lit (x := 5) (5) rfl) dp2 (dkc_nle c1) rfl)).elim
set_option maxHeartbeats 4000000 in
set_option maxRecDepth 100000 in
theorem c_X1_gives_29 (l : Launch) (g : dkG) (z : Nat) (I0 : dkI) (p0 : Int32) (p1 : Int32) (p2 : Int32) (dp0 : dkN [(13, 13)] p0) (dp1 : dkN [(0, 5)] p1) (dp2 : dkN [(5, 5)] p2)  (hO : dkOk I0) : Met l yX1_gives wsX1_gives (dkR 1) (dkPc g z [.ref (z + 338), .int p0, .int p1, .int p2] I0) (dkQi g z (fun r I1 => dkF [(338, 338, 2, 2), (339, 339, 0, 15)] I0 I1 ∧ dkOk I1 ∧ ((dkN [(-1000101, -1000101)] r ∧ dkN [(1, 16)] (I1 338 2) ∧ True)))) 0 0 (dkA z) := by
  refine Met.ofW (cc := cX1_gives) (maxL := 5) (ret := (some .int)) (by decide) rfl ?_
  intro p e s m args below meth c s₁ B hml hv
  obtain ⟨ha, hW, hK, hT⟩ := hv
  have hx := B.exec
  have hb := B.bytes
  have hr := B.returns
  have hts := atoms_spec (ws := wsX1_gives) B.pre
  have hown : s.vm.findClass RX1 = some m.cls := findClass_of_methodNamed B.named
  have hlocks := B.notSynchronized
  have hS : va_S (dkA z) s.heap s.heap [] := va_S.rf
  have hF : dkF [(338, 338, 2, 2), (339, 339, 0, 15)] I0 I0 := dkF_rf _ _
  have hl := lv_entry ([.ref (z + 338), .int p0, .int p1, .int p2]) (n := 5) (Nat.le_of_ble_eq_true rfl)
  have hgo : entryFrame m args 5 = entryFrame m ([.ref (z + 338), .int p0, .int p1, .int p2] : List Value).toArray 5 := by rw [ha]
  rw [hgo, lg_entry_eq]
  generalize (lg_sl ([.ref (z + 338), .int p0, .int p1, .int p2]) ++ List.replicate (5 - (lg_sl ([.ref (z + 338), .int p0, .int p1, .int p2])).length) Slot.unset).toArray = ls at hl ⊢
  have hl : lv_has ls 5 [(0, .ref (z + 338)), (1, .int p0), (2, .int p1), (3, .int p2)] := hl
  refine lv_iload_n hx hb dX1_gives_0 rfl (lv_at hl 3 rfl) ?_
  refine lv_iconst (v := 5) hx hb dX1_gives_1 (by decide) ?_
  refine lv_icmp_le (tgt := 8) hx hb dX1_gives_2 (by decide) (fun c1 => ?_) (fun c1 => ?_)
  ·
    refine lv_aload_n hx hb dX1_gives_8 rfl (lv_at hl 0 rfl) ?_
    refine lv_iload_n hx hb dX1_gives_9 rfl (lv_at hl 1 rfl) ?_
    refine dk_Vv (As := [.int p0]) (rest := []) ⟨hx, hb, hml, hown, hts⟩ (c_X1_begins_7 l g z I0 p0 dp0 hO) (cwV 1 hts gX1_gives_X1_begins rfl rfl rfl (by decide +kernel) ⟨Nat.le_of_ble_eq_true rfl, Nat.le_of_ble_eq_true rfl⟩) (dk_at338 hW) rfl hK hT hW hS rfl hl.1 rfl (Nat.le_of_ble_eq_true rfl) dX1_gives_10 ⟨Nat.zero_le _, Nat.zero_le _⟩ (fun I2 H2 L2 hp2 hW hS => ?_)
    obtain ⟨hF2, hO, hc2⟩ := hp2
    have hF := dkF_call hF hF2 rfl
    obtain ⟨f2_338_2, -⟩ := hc2
    refine lv_iload_n hx hb dX1_gives_13 rfl (lv_at hl 3 rfl) ?_
    refine lv_iconst (v := 1) hx hb dX1_gives_14 (by decide) ?_
    refine lv_iadd hx hb dX1_gives_15 ?_
    refine lv_topi (fun v3 ev3 => ?_)
    have dv3 : dkN [(6, 6)] v3 := by rw [ev3]; exact dkN_add dp2 (dkN_lit (x := 1) (1) rfl) rfl
    refine lv_istore (lv' := [(4, .int v3), (0, .ref (z + 338)), (1, .int p0), (2, .int p1), (3, .int p2)]) hx hb dX1_gives_16 hl (by decide) rfl (fun ls hl => ?_)
    refine lv_iload_n hx hb dX1_gives_18 rfl (lv_at hl 2 rfl) ?_
    by_cases c4 : p0 = 13
    ·
      have qc4 : p0.toInt = 13 := by rw [c4]; rfl
      have d5 : dkN [(13, 13)] p0 := dkN_lit (13) qc4
      refine lv_tableIn (tgt := 136) hx hb dX1_gives_19 (by rw [qc4]; decide) (by rw [qc4]; decide) (by rw [qc4]; rfl) (by decide) ?_
      refine lv_aload_n hx hb dX1_gives_136 rfl (lv_at hl 1 rfl) ?_
      refine lv_bipush (v := 10) hx hb dX1_gives_137 (by decide) ?_
      refine lv_iload_n hx hb dX1_gives_139 rfl (lv_at hl 3 rfl) ?_
      refine lv_iload hx hb dX1_gives_140 (lv_at hl 0 rfl) ?_
      refine dk_Vi (As := [.int 10, .int p1, .int v3]) (rest := []) ⟨hx, hb, hml, hown, hts⟩ (c_X1_gives_13 l g z I2 10 p1 v3 (dkN_lit (x := 10) (10) rfl) dp1 dv3 hO) (cwV 3 hts gX1_gives_X1_gives rfl rfl rfl (by decide +kernel) ⟨Nat.le_of_ble_eq_true rfl, Nat.le_of_ble_eq_true rfl⟩) (dk_at338 hW) rfl hK hT hW hS rfl hl.1 rfl (Nat.le_of_ble_eq_true rfl) dX1_gives_142 ⟨Nat.zero_le _, Nat.zero_le _⟩ (fun v6 I6 H6 L6 hp6 hW hS => ?_)
      obtain ⟨hF6, hO, hc6⟩ := hp6
      have hF := dkF_call hF hF6 rfl
      obtain ⟨dv6, -⟩ := hc6
      refine lv_bipush (v := 100) hx hb dX1_gives_145 (by decide) ?_
      refine lv_isub hx hb dX1_gives_147 ?_
      refine lv_topi (fun v7 ev7 => ?_)
      have dv7 : dkN [(-1000101, -1000101)] v7 := by rw [ev7]; exact dkN_subt dv6 (dkN_lit (x := 100) (100) rfl) rfl
      exact W.iret (v := v7) hx hb hr (fun t ht hW9 => ⟨⟨v7, I6, rfl, ⟨hF, hO, ⟨dkN_sub dv7 rfl, (show dkN [(1, 16)] (I6 338 2) from dkN_sub (by rw [hF6 338 2 rfl]; exact f2_338_2) rfl), trivial⟩⟩, dkW_eq ht hW⟩, hS.F ht⟩) hS.2.2 dX1_gives_148
    ·
      exact (dkN_nil (show dkN [] p0 from dkN_ne1 (13) dp0 (dkN_lit (x := 13) (13) rfl) (dk_ne c4) rfl)).elim
  ·
    exact (dkN_nil (show dkN [] p2 from dkN_le2 1 (dkN_lit (x := 5) (5) rfl) dp2 (dkc_nle c1) rfl)).elim
set_option maxHeartbeats 4000000 in
set_option maxRecDepth 100000 in
theorem c_X1_gives_27 (l : Launch) (g : dkG) (z : Nat) (I0 : dkI) (p0 : Int32) (p1 : Int32) (p2 : Int32) (dp0 : dkN [(10, 14)] p0) (dp1 : dkN [(0, 5)] p1) (dp2 : dkN [(4, 4)] p2)  (hO : dkOk I0) : Met l yX1_gives wsX1_gives (dkR 2) (dkPc g z [.ref (z + 338), .int p0, .int p1, .int p2] I0) (dkQi g z (fun r I1 => dkF [(338, 338, 2, 2), (339, 339, 0, 15)] I0 I1 ∧ dkOk I1 ∧ ((True ∧ dkN [(1, 16)] (I1 338 2) ∧ True)))) 0 0 (dkA z) := by
  refine Met.ofW (cc := cX1_gives) (maxL := 5) (ret := (some .int)) (by decide) rfl ?_
  intro p e s m args below meth c s₁ B hml hv
  obtain ⟨ha, hW, hK, hT⟩ := hv
  have hx := B.exec
  have hb := B.bytes
  have hr := B.returns
  have hts := atoms_spec (ws := wsX1_gives) B.pre
  have hown : s.vm.findClass RX1 = some m.cls := findClass_of_methodNamed B.named
  have hlocks := B.notSynchronized
  have hS : va_S (dkA z) s.heap s.heap [] := va_S.rf
  have hF : dkF [(338, 338, 2, 2), (339, 339, 0, 15)] I0 I0 := dkF_rf _ _
  have hl := lv_entry ([.ref (z + 338), .int p0, .int p1, .int p2]) (n := 5) (Nat.le_of_ble_eq_true rfl)
  have hgo : entryFrame m args 5 = entryFrame m ([.ref (z + 338), .int p0, .int p1, .int p2] : List Value).toArray 5 := by rw [ha]
  rw [hgo, lg_entry_eq]
  generalize (lg_sl ([.ref (z + 338), .int p0, .int p1, .int p2]) ++ List.replicate (5 - (lg_sl ([.ref (z + 338), .int p0, .int p1, .int p2])).length) Slot.unset).toArray = ls at hl ⊢
  have hl : lv_has ls 5 [(0, .ref (z + 338)), (1, .int p0), (2, .int p1), (3, .int p2)] := hl
  refine lv_iload_n hx hb dX1_gives_0 rfl (lv_at hl 3 rfl) ?_
  refine lv_iconst (v := 5) hx hb dX1_gives_1 (by decide) ?_
  refine lv_icmp_le (tgt := 8) hx hb dX1_gives_2 (by decide) (fun c1 => ?_) (fun c1 => ?_)
  ·
    refine lv_aload_n hx hb dX1_gives_8 rfl (lv_at hl 0 rfl) ?_
    refine lv_iload_n hx hb dX1_gives_9 rfl (lv_at hl 1 rfl) ?_
    refine dk_Vv (As := [.int p0]) (rest := []) ⟨hx, hb, hml, hown, hts⟩ (c_X1_begins_5 l g z I0 p0 dp0 hO) (cwV 1 hts gX1_gives_X1_begins rfl rfl rfl (by decide +kernel) ⟨Nat.le_of_ble_eq_true rfl, Nat.le_of_ble_eq_true rfl⟩) (dk_at338 hW) rfl hK hT hW hS rfl hl.1 rfl (Nat.le_of_ble_eq_true rfl) dX1_gives_10 ⟨Nat.zero_le _, Nat.zero_le _⟩ (fun I2 H2 L2 hp2 hW hS => ?_)
    obtain ⟨hF2, hO, hc2⟩ := hp2
    have hF := dkF_call hF hF2 rfl
    obtain ⟨f2_338_2, -⟩ := hc2
    refine lv_iload_n hx hb dX1_gives_13 rfl (lv_at hl 3 rfl) ?_
    refine lv_iconst (v := 1) hx hb dX1_gives_14 (by decide) ?_
    refine lv_iadd hx hb dX1_gives_15 ?_
    refine lv_topi (fun v3 ev3 => ?_)
    have dv3 : dkN [(5, 5)] v3 := by rw [ev3]; exact dkN_add dp2 (dkN_lit (x := 1) (1) rfl) rfl
    refine lv_istore (lv' := [(4, .int v3), (0, .ref (z + 338)), (1, .int p0), (2, .int p1), (3, .int p2)]) hx hb dX1_gives_16 hl (by decide) rfl (fun ls hl => ?_)
    refine lv_iload_n hx hb dX1_gives_18 rfl (lv_at hl 2 rfl) ?_
    by_cases c4 : p0 = 10
    ·
      have qc4 : p0.toInt = 10 := by rw [c4]; rfl
      have d5 : dkN [(10, 10)] p0 := dkN_lit (10) qc4
      refine lv_tableIn (tgt := 92) hx hb dX1_gives_19 (by rw [qc4]; decide) (by rw [qc4]; decide) (by rw [qc4]; rfl) (by decide) ?_
      refine lv_aload_n hx hb dX1_gives_92 rfl (lv_at hl 1 rfl) ?_
      refine dk_get (k := 338) hx hb hts iX1_gives_1 hown hK (dk_at338 hW) rfl 0 (by decide) (hts (.fieldLink RX1 15 "DogKings$Asks" "now" "LDogKings$Town;") (List.mem_of_getElem? (i := 2) rfl)) rfl dX1_gives_93 ?_
      refine dk_get (k := 25) hx hb hts iX1_gives_4 hown hK (dk_at25 hW) rfl 13 (by decide) (hts (.fieldLink RX1 51 "DogKings$Town" "dogHome" "[I") (List.mem_of_getElem? (i := 3) rfl)) rfl dX1_gives_96 ?_
      refine lv_iload_n hx hb dX1_gives_99 rfl (lv_at hl 3 rfl) ?_
      refine dk_ild (k := 33) hx hb hK (dk_at33 hW) (dkN_in (n := 6) dp1 rfl) dX1_gives_100 ?_
      refine lv_topi (fun v6 ev6 => ?_)
      exact W.iret (v := v6) hx hb hr (fun t ht hW9 => ⟨⟨v6, I2, rfl, ⟨hF, hO, ⟨trivial, (show dkN [(1, 16)] (I2 338 2) from dkN_sub f2_338_2 rfl), trivial⟩⟩, dkW_eq ht hW⟩, hS.F ht⟩) hS.2.2 dX1_gives_101
    ·
      have d7 : dkN [(11, 14)] p0 := dkN_ne1 (10) dp0 (dkN_lit (x := 10) (10) rfl) (dk_ne c4) rfl
      by_cases c8 : p0 = 11
      ·
        have qc8 : p0.toInt = 11 := by rw [c8]; rfl
        have d9 : dkN [(11, 11)] p0 := dkN_lit (11) qc8
        refine lv_tableIn (tgt := 102) hx hb dX1_gives_19 (by rw [qc8]; decide) (by rw [qc8]; decide) (by rw [qc8]; rfl) (by decide) ?_
        refine lv_aload_n hx hb dX1_gives_102 rfl (lv_at hl 1 rfl) ?_
        refine lv_bipush (v := 10) hx hb dX1_gives_103 (by decide) ?_
        refine lv_iload_n hx hb dX1_gives_105 rfl (lv_at hl 3 rfl) ?_
        refine lv_iload hx hb dX1_gives_106 (lv_at hl 0 rfl) ?_
        refine dk_Vi (As := [.int 10, .int p1, .int v3]) (rest := []) ⟨hx, hb, hml, hown, hts⟩ (c_X1_gives_18 l g z I2 10 p1 v3 (dkN_lit (x := 10) (10) rfl) dp1 dv3 hO) (cwV 3 hts gX1_gives_X1_gives rfl rfl rfl (by decide +kernel) ⟨Nat.le_of_ble_eq_true rfl, Nat.le_of_ble_eq_true rfl⟩) (dk_at338 hW) rfl hK hT hW hS rfl hl.1 rfl (Nat.le_of_ble_eq_true rfl) dX1_gives_108 ⟨Nat.zero_le _, Nat.zero_le _⟩ (fun v10 I10 H10 L10 hp10 hW hS => ?_)
        obtain ⟨hF10, hO, hc10⟩ := hp10
        have hF := dkF_call hF hF10 rfl
        obtain ⟨_, f10_338_2, -⟩ := hc10
        refine lv_aload_n hx hb dX1_gives_111 rfl (lv_at hl 1 rfl) ?_
        refine lv_aload_n hx hb dX1_gives_112 rfl (lv_at hl 1 rfl) ?_
        refine lv_iload_n hx hb dX1_gives_113 rfl (lv_at hl 3 rfl) ?_
        refine dk_Vi (As := [.int p1]) (rest := [.ref (z + 338), .int v10]) ⟨hx, hb, hml, hown, hts⟩ (c_X1_markBody_0 l g z I10 p1 dp1 hO) (cwV 1 hts gX1_gives_X1_markBody rfl rfl rfl (by decide +kernel) ⟨Nat.le_of_ble_eq_true rfl, Nat.le_of_ble_eq_true rfl⟩) (dk_at338 hW) rfl hK hT hW hS rfl hl.1 rfl (Nat.le_of_ble_eq_true rfl) dX1_gives_114 ⟨Nat.zero_le _, Nat.zero_le _⟩ (fun v11 I11 H11 L11 hp11 hW hS => ?_)
        obtain ⟨hF11, hO, hc11⟩ := hp11
        have hF := dkF_call hF hF11 rfl
        obtain ⟨dv11, -⟩ := hc11
        refine lv_iload_n hx hb dX1_gives_117 rfl (lv_at hl 3 rfl) ?_
        refine lv_iload hx hb dX1_gives_118 (lv_at hl 0 rfl) ?_
        refine dk_Vi (As := [.int v11, .int p1, .int v3]) (rest := [.int v10]) ⟨hx, hb, hml, hown, hts⟩ (c_X1_gives_19 l g z I11 v11 p1 v3 dv11 dp1 dv3 hO) (cwV 3 hts gX1_gives_X1_gives rfl rfl rfl (by decide +kernel) ⟨Nat.le_of_ble_eq_true rfl, Nat.le_of_ble_eq_true rfl⟩) (dk_at338 hW) rfl hK hT hW hS rfl hl.1 rfl (Nat.le_of_ble_eq_true rfl) dX1_gives_120 ⟨Nat.zero_le _, Nat.zero_le _⟩ (fun v12 I12 H12 L12 hp12 hW hS => ?_)
        obtain ⟨hF12, hO, hc12⟩ := hp12
        have hF := dkF_call hF hF12 rfl
        obtain ⟨_, f12_338_2, -⟩ := hc12
        refine lv_iadd hx hb dX1_gives_123 ?_
        refine lv_topi (fun v13 ev13 => ?_)
        exact W.iret (v := v13) hx hb hr (fun t ht hW9 => ⟨⟨v13, I12, rfl, ⟨hF, hO, ⟨trivial, (show dkN [(1, 16)] (I12 338 2) from dkN_sub f12_338_2 rfl), trivial⟩⟩, dkW_eq ht hW⟩, hS.F ht⟩) hS.2.2 dX1_gives_124
      ·
        have d14 : dkN [(12, 14)] p0 := dkN_ne1 (11) d7 (dkN_lit (x := 11) (11) rfl) (dk_ne c8) rfl
        by_cases c15 : p0 = 12
        ·
          have qc15 : p0.toInt = 12 := by rw [c15]; rfl
          have d16 : dkN [(12, 12)] p0 := dkN_lit (12) qc15
          refine lv_tableIn (tgt := 125) hx hb dX1_gives_19 (by rw [qc15]; decide) (by rw [qc15]; decide) (by rw [qc15]; rfl) (by decide) ?_
          refine lv_aload_n hx hb dX1_gives_125 rfl (lv_at hl 1 rfl) ?_
          refine lv_bipush (v := 11) hx hb dX1_gives_126 (by decide) ?_
          refine lv_iload_n hx hb dX1_gives_128 rfl (lv_at hl 3 rfl) ?_
          refine lv_iload hx hb dX1_gives_129 (lv_at hl 0 rfl) ?_
          refine dk_Vi (As := [.int 11, .int p1, .int v3]) (rest := []) ⟨hx, hb, hml, hown, hts⟩ (c_X1_gives_28 l g z I2 11 p1 v3 (dkN_lit (x := 11) (11) rfl) dp1 dv3 hO) (cwV 3 hts gX1_gives_X1_gives rfl rfl rfl (by decide +kernel) ⟨Nat.le_of_ble_eq_true rfl, Nat.le_of_ble_eq_true rfl⟩) (dk_at338 hW) rfl hK hT hW hS rfl hl.1 rfl (Nat.le_of_ble_eq_true rfl) dX1_gives_131 ⟨Nat.zero_le _, Nat.zero_le _⟩ (fun v17 I17 H17 L17 hp17 hW hS => ?_)
          obtain ⟨hF17, hO, hc17⟩ := hp17
          have hF := dkF_call hF hF17 rfl
          obtain ⟨dv17, f17_338_2, -⟩ := hc17
          refine lv_ineg hx hb dX1_gives_134 ?_
          refine lv_topi (fun v18 ev18 => ?_)
          have dv18 : dkN [(2000002, 2000002)] v18 := by rw [ev18]; exact dkN_neg dv17 rfl
          exact W.iret (v := v18) hx hb hr (fun t ht hW9 => ⟨⟨v18, I17, rfl, ⟨hF, hO, ⟨trivial, (show dkN [(1, 16)] (I17 338 2) from dkN_sub f17_338_2 rfl), trivial⟩⟩, dkW_eq ht hW⟩, hS.F ht⟩) hS.2.2 dX1_gives_135
        ·
          have d19 : dkN [(13, 14)] p0 := dkN_ne1 (12) d14 (dkN_lit (x := 12) (12) rfl) (dk_ne c15) rfl
          by_cases c20 : p0 = 13
          ·
            have qc20 : p0.toInt = 13 := by rw [c20]; rfl
            have d21 : dkN [(13, 13)] p0 := dkN_lit (13) qc20
            refine lv_tableIn (tgt := 136) hx hb dX1_gives_19 (by rw [qc20]; decide) (by rw [qc20]; decide) (by rw [qc20]; rfl) (by decide) ?_
            refine lv_aload_n hx hb dX1_gives_136 rfl (lv_at hl 1 rfl) ?_
            refine lv_bipush (v := 10) hx hb dX1_gives_137 (by decide) ?_
            refine lv_iload_n hx hb dX1_gives_139 rfl (lv_at hl 3 rfl) ?_
            refine lv_iload hx hb dX1_gives_140 (lv_at hl 0 rfl) ?_
            refine dk_Vi (As := [.int 10, .int p1, .int v3]) (rest := []) ⟨hx, hb, hml, hown, hts⟩ (c_X1_gives_18 l g z I2 10 p1 v3 (dkN_lit (x := 10) (10) rfl) dp1 dv3 hO) (cwV 3 hts gX1_gives_X1_gives rfl rfl rfl (by decide +kernel) ⟨Nat.le_of_ble_eq_true rfl, Nat.le_of_ble_eq_true rfl⟩) (dk_at338 hW) rfl hK hT hW hS rfl hl.1 rfl (Nat.le_of_ble_eq_true rfl) dX1_gives_142 ⟨Nat.zero_le _, Nat.zero_le _⟩ (fun v22 I22 H22 L22 hp22 hW hS => ?_)
            obtain ⟨hF22, hO, hc22⟩ := hp22
            have hF := dkF_call hF hF22 rfl
            obtain ⟨_, f22_338_2, -⟩ := hc22
            refine lv_bipush (v := 100) hx hb dX1_gives_145 (by decide) ?_
            refine lv_isub hx hb dX1_gives_147 ?_
            refine lv_topi (fun v23 ev23 => ?_)
            exact W.iret (v := v23) hx hb hr (fun t ht hW9 => ⟨⟨v23, I22, rfl, ⟨hF, hO, ⟨trivial, (show dkN [(1, 16)] (I22 338 2) from dkN_sub f22_338_2 rfl), trivial⟩⟩, dkW_eq ht hW⟩, hS.F ht⟩) hS.2.2 dX1_gives_148
          ·
            have d24 : dkN [(14, 14)] p0 := dkN_ne1 (13) d19 (dkN_lit (x := 13) (13) rfl) (dk_ne c20) rfl
            by_cases c25 : p0 = 14
            ·
              have qc25 : p0.toInt = 14 := by rw [c25]; rfl
              have d26 : dkN [(14, 14)] p0 := dkN_lit (14) qc25
              refine lv_tableIn (tgt := 149) hx hb dX1_gives_19 (by rw [qc25]; decide) (by rw [qc25]; decide) (by rw [qc25]; rfl) (by decide) ?_
              refine lv_iconst (v := 2) hx hb dX1_gives_149 (by decide) ?_
              refine lv_aload_n hx hb dX1_gives_150 rfl (lv_at hl 1 rfl) ?_
              refine lv_bipush (v := 13) hx hb dX1_gives_151 (by decide) ?_
              refine lv_iload_n hx hb dX1_gives_153 rfl (lv_at hl 3 rfl) ?_
              refine lv_iload hx hb dX1_gives_154 (lv_at hl 0 rfl) ?_
              refine dk_Vi (As := [.int 13, .int p1, .int v3]) (rest := [.int 2]) ⟨hx, hb, hml, hown, hts⟩ (c_X1_gives_29 l g z I2 13 p1 v3 (dkN_lit (x := 13) (13) rfl) dp1 dv3 hO) (cwV 3 hts gX1_gives_X1_gives rfl rfl rfl (by decide +kernel) ⟨Nat.le_of_ble_eq_true rfl, Nat.le_of_ble_eq_true rfl⟩) (dk_at338 hW) rfl hK hT hW hS rfl hl.1 rfl (Nat.le_of_ble_eq_true rfl) dX1_gives_156 ⟨Nat.zero_le _, Nat.zero_le _⟩ (fun v27 I27 H27 L27 hp27 hW hS => ?_)
              obtain ⟨hF27, hO, hc27⟩ := hp27
              have hF := dkF_call hF hF27 rfl
              obtain ⟨dv27, f27_338_2, -⟩ := hc27
              refine lv_imul hx hb dX1_gives_159 ?_
              refine lv_topi (fun v28 ev28 => ?_)
              have dv28 : dkN [(-2000202, -2000202)] v28 := by rw [ev28]; exact dkN_mulL 2 (by decide) (dkN_lit (x := 2) (2) rfl) dv27 rfl
              exact W.iret (v := v28) hx hb hr (fun t ht hW9 => ⟨⟨v28, I27, rfl, ⟨hF, hO, ⟨trivial, (show dkN [(1, 16)] (I27 338 2) from dkN_sub f27_338_2 rfl), trivial⟩⟩, dkW_eq ht hW⟩, hS.F ht⟩) hS.2.2 dX1_gives_160
            ·
              exact (dkN_nil (show dkN [] p0 from dkN_ne1 (14) d24 (dkN_lit (x := 14) (14) rfl) (dk_ne c25) rfl)).elim
  ·
    exact (dkN_nil (show dkN [] p2 from dkN_le2 1 (dkN_lit (x := 5) (5) rfl) dp2 (dkc_nle c1) rfl)).elim
set_option maxHeartbeats 4000000 in
set_option maxRecDepth 100000 in
theorem c_X1_gives_25 (l : Launch) (g : dkG) (z : Nat) (I0 : dkI) (p0 : Int32) (p1 : Int32) (p2 : Int32) (dp0 : dkN [(20, 24)] p0) (dp1 : dkN [(0, 5)] p1) (dp2 : dkN [(3, 3)] p2)  (hO : dkOk I0) : Met l yX1_gives wsX1_gives (dkR 3) (dkPc g z [.ref (z + 338), .int p0, .int p1, .int p2] I0) (dkQi g z (fun r I1 => dkF [(338, 338, 2, 2), (339, 339, 0, 15)] I0 I1 ∧ dkOk I1 ∧ ((True ∧ dkN [(1, 16)] (I1 338 2) ∧ True)))) 0 0 (dkA z) := by
  refine Met.ofW (cc := cX1_gives) (maxL := 5) (ret := (some .int)) (by decide) rfl ?_
  intro p e s m args below meth c s₁ B hml hv
  obtain ⟨ha, hW, hK, hT⟩ := hv
  have hx := B.exec
  have hb := B.bytes
  have hr := B.returns
  have hts := atoms_spec (ws := wsX1_gives) B.pre
  have hown : s.vm.findClass RX1 = some m.cls := findClass_of_methodNamed B.named
  have hlocks := B.notSynchronized
  have hS : va_S (dkA z) s.heap s.heap [] := va_S.rf
  have hF : dkF [(338, 338, 2, 2), (339, 339, 0, 15)] I0 I0 := dkF_rf _ _
  have hl := lv_entry ([.ref (z + 338), .int p0, .int p1, .int p2]) (n := 5) (Nat.le_of_ble_eq_true rfl)
  have hgo : entryFrame m args 5 = entryFrame m ([.ref (z + 338), .int p0, .int p1, .int p2] : List Value).toArray 5 := by rw [ha]
  rw [hgo, lg_entry_eq]
  generalize (lg_sl ([.ref (z + 338), .int p0, .int p1, .int p2]) ++ List.replicate (5 - (lg_sl ([.ref (z + 338), .int p0, .int p1, .int p2])).length) Slot.unset).toArray = ls at hl ⊢
  have hl : lv_has ls 5 [(0, .ref (z + 338)), (1, .int p0), (2, .int p1), (3, .int p2)] := hl
  refine lv_iload_n hx hb dX1_gives_0 rfl (lv_at hl 3 rfl) ?_
  refine lv_iconst (v := 5) hx hb dX1_gives_1 (by decide) ?_
  refine lv_icmp_le (tgt := 8) hx hb dX1_gives_2 (by decide) (fun c1 => ?_) (fun c1 => ?_)
  ·
    refine lv_aload_n hx hb dX1_gives_8 rfl (lv_at hl 0 rfl) ?_
    refine lv_iload_n hx hb dX1_gives_9 rfl (lv_at hl 1 rfl) ?_
    refine dk_Vv (As := [.int p0]) (rest := []) ⟨hx, hb, hml, hown, hts⟩ (c_X1_begins_2 l g z I0 p0 dp0 hO) (cwV 1 hts gX1_gives_X1_begins rfl rfl rfl (by decide +kernel) ⟨Nat.le_of_ble_eq_true rfl, Nat.le_of_ble_eq_true rfl⟩) (dk_at338 hW) rfl hK hT hW hS rfl hl.1 rfl (Nat.le_of_ble_eq_true rfl) dX1_gives_10 ⟨Nat.zero_le _, Nat.zero_le _⟩ (fun I2 H2 L2 hp2 hW hS => ?_)
    obtain ⟨hF2, hO, hc2⟩ := hp2
    have hF := dkF_call hF hF2 rfl
    obtain ⟨f2_338_2, -⟩ := hc2
    refine lv_iload_n hx hb dX1_gives_13 rfl (lv_at hl 3 rfl) ?_
    refine lv_iconst (v := 1) hx hb dX1_gives_14 (by decide) ?_
    refine lv_iadd hx hb dX1_gives_15 ?_
    refine lv_topi (fun v3 ev3 => ?_)
    have dv3 : dkN [(4, 4)] v3 := by rw [ev3]; exact dkN_add dp2 (dkN_lit (x := 1) (1) rfl) rfl
    refine lv_istore (lv' := [(4, .int v3), (0, .ref (z + 338)), (1, .int p0), (2, .int p1), (3, .int p2)]) hx hb dX1_gives_16 hl (by decide) rfl (fun ls hl => ?_)
    refine lv_iload_n hx hb dX1_gives_18 rfl (lv_at hl 2 rfl) ?_
    by_cases c4 : p0 = 20
    ·
      have qc4 : p0.toInt = 20 := by rw [c4]; rfl
      have d5 : dkN [(20, 20)] p0 := dkN_lit (20) qc4
      refine lv_tableIn (tgt := 161) hx hb dX1_gives_19 (by rw [qc4]; decide) (by rw [qc4]; decide) (by rw [qc4]; rfl) (by decide) ?_
      refine lv_iload_n hx hb dX1_gives_161 rfl (lv_at hl 3 rfl) ?_
      exact W.iret (v := p1) hx hb hr (fun t ht hW9 => ⟨⟨p1, I2, rfl, ⟨hF, hO, ⟨trivial, (show dkN [(1, 16)] (I2 338 2) from dkN_sub f2_338_2 rfl), trivial⟩⟩, dkW_eq ht hW⟩, hS.F ht⟩) hS.2.2 dX1_gives_162
    ·
      have d6 : dkN [(21, 24)] p0 := dkN_ne1 (20) dp0 (dkN_lit (x := 20) (20) rfl) (dk_ne c4) rfl
      by_cases c7 : p0 = 21
      ·
        have qc7 : p0.toInt = 21 := by rw [c7]; rfl
        have d8 : dkN [(21, 21)] p0 := dkN_lit (21) qc7
        refine lv_tableIn (tgt := 163) hx hb dX1_gives_19 (by rw [qc7]; decide) (by rw [qc7]; decide) (by rw [qc7]; rfl) (by decide) ?_
        refine lv_aload_n hx hb dX1_gives_163 rfl (lv_at hl 1 rfl) ?_
        refine lv_bipush (v := 20) hx hb dX1_gives_164 (by decide) ?_
        refine lv_iload_n hx hb dX1_gives_166 rfl (lv_at hl 3 rfl) ?_
        refine lv_iload hx hb dX1_gives_167 (lv_at hl 0 rfl) ?_
        refine dk_Vi (As := [.int 20, .int p1, .int v3]) (rest := []) ⟨hx, hb, hml, hown, hts⟩ (c_X1_gives_5 l g z I2 20 p1 v3 (dkN_lit (x := 20) (20) rfl) dp1 dv3 hO) (cwV 3 hts gX1_gives_X1_gives rfl rfl rfl (by decide +kernel) ⟨Nat.le_of_ble_eq_true rfl, Nat.le_of_ble_eq_true rfl⟩) (dk_at338 hW) rfl hK hT hW hS rfl hl.1 rfl (Nat.le_of_ble_eq_true rfl) dX1_gives_169 ⟨Nat.zero_le _, Nat.zero_le _⟩ (fun v9 I9 H9 L9 hp9 hW hS => ?_)
        obtain ⟨hF9, hO, ev9, hc9⟩ := hp9
        have hF := dkF_call hF hF9 rfl
        obtain ⟨dv9, f9_338_2, -⟩ := hc9
        rw [ev9]
        refine lv_aload_n hx hb dX1_gives_172 rfl (lv_at hl 1 rfl) ?_
        refine dk_get (k := 338) hx hb hts iX1_gives_1 hown hK (dk_at338 hW) rfl 0 (by decide) (hts (.fieldLink RX1 15 "DogKings$Asks" "now" "LDogKings$Town;") (List.mem_of_getElem? (i := 2) rfl)) rfl dX1_gives_173 ?_
        refine dk_get (k := 25) hx hb hts iX1_gives_4 hown hK (dk_at25 hW) rfl 14 (by decide) (hts (.fieldLink RX1 54 "DogKings$Town" "dogAt" "[I") (List.mem_of_getElem? (i := 4) rfl)) rfl dX1_gives_176 ?_
        refine lv_iload_n hx hb dX1_gives_179 rfl (lv_at hl 3 rfl) ?_
        refine dk_ild (k := 34) hx hb hK (dk_at34 hW) (dkN_in (n := 6) dp1 rfl) dX1_gives_180 ?_
        refine lv_topi (fun v10 ev10 => ?_)
        refine lv_iadd hx hb dX1_gives_181 ?_
        refine lv_topi (fun v11 ev11 => ?_)
        exact W.iret (v := v11) hx hb hr (fun t ht hW9 => ⟨⟨v11, I9, rfl, ⟨hF, hO, ⟨trivial, (show dkN [(1, 16)] (I9 338 2) from dkN_sub f9_338_2 rfl), trivial⟩⟩, dkW_eq ht hW⟩, hS.F ht⟩) hS.2.2 dX1_gives_182
      ·
        have d12 : dkN [(22, 24)] p0 := dkN_ne1 (21) d6 (dkN_lit (x := 21) (21) rfl) (dk_ne c7) rfl
        by_cases c13 : p0 = 22
        ·
          have qc13 : p0.toInt = 22 := by rw [c13]; rfl
          have d14 : dkN [(22, 22)] p0 := dkN_lit (22) qc13
          refine lv_tableIn (tgt := 183) hx hb dX1_gives_19 (by rw [qc13]; decide) (by rw [qc13]; decide) (by rw [qc13]; rfl) (by decide) ?_
          refine lv_aload_n hx hb dX1_gives_183 rfl (lv_at hl 1 rfl) ?_
          refine lv_bipush (v := 21) hx hb dX1_gives_184 (by decide) ?_
          refine lv_iload_n hx hb dX1_gives_186 rfl (lv_at hl 3 rfl) ?_
          refine lv_iload hx hb dX1_gives_187 (lv_at hl 0 rfl) ?_
          refine dk_Vi (As := [.int 21, .int p1, .int v3]) (rest := []) ⟨hx, hb, hml, hown, hts⟩ (c_X1_gives_26 l g z I2 21 p1 v3 (dkN_lit (x := 21) (21) rfl) dp1 dv3 hO) (cwV 3 hts gX1_gives_X1_gives rfl rfl rfl (by decide +kernel) ⟨Nat.le_of_ble_eq_true rfl, Nat.le_of_ble_eq_true rfl⟩) (dk_at338 hW) rfl hK hT hW hS rfl hl.1 rfl (Nat.le_of_ble_eq_true rfl) dX1_gives_189 ⟨Nat.zero_le _, Nat.zero_le _⟩ (fun v15 I15 H15 L15 hp15 hW hS => ?_)
          obtain ⟨hF15, hO, hc15⟩ := hp15
          have hF := dkF_call hF hF15 rfl
          obtain ⟨_, f15_338_2, -⟩ := hc15
          refine lv_sipush (v := 1000) hx hb dX1_gives_192 (by decide) ?_
          refine lv_isub hx hb dX1_gives_195 ?_
          refine lv_topi (fun v16 ev16 => ?_)
          exact W.iret (v := v16) hx hb hr (fun t ht hW9 => ⟨⟨v16, I15, rfl, ⟨hF, hO, ⟨trivial, (show dkN [(1, 16)] (I15 338 2) from dkN_sub f15_338_2 rfl), trivial⟩⟩, dkW_eq ht hW⟩, hS.F ht⟩) hS.2.2 dX1_gives_196
        ·
          have d17 : dkN [(23, 24)] p0 := dkN_ne1 (22) d12 (dkN_lit (x := 22) (22) rfl) (dk_ne c13) rfl
          by_cases c18 : p0 = 23
          ·
            have qc18 : p0.toInt = 23 := by rw [c18]; rfl
            have d19 : dkN [(23, 23)] p0 := dkN_lit (23) qc18
            refine lv_tableIn (tgt := 197) hx hb dX1_gives_19 (by rw [qc18]; decide) (by rw [qc18]; decide) (by rw [qc18]; rfl) (by decide) ?_
            refine lv_aload_n hx hb dX1_gives_197 rfl (lv_at hl 1 rfl) ?_
            refine lv_bipush (v := 20) hx hb dX1_gives_198 (by decide) ?_
            refine lv_iload_n hx hb dX1_gives_200 rfl (lv_at hl 3 rfl) ?_
            refine lv_iload hx hb dX1_gives_201 (lv_at hl 0 rfl) ?_
            refine dk_Vi (As := [.int 20, .int p1, .int v3]) (rest := []) ⟨hx, hb, hml, hown, hts⟩ (c_X1_gives_5 l g z I2 20 p1 v3 (dkN_lit (x := 20) (20) rfl) dp1 dv3 hO) (cwV 3 hts gX1_gives_X1_gives rfl rfl rfl (by decide +kernel) ⟨Nat.le_of_ble_eq_true rfl, Nat.le_of_ble_eq_true rfl⟩) (dk_at338 hW) rfl hK hT hW hS rfl hl.1 rfl (Nat.le_of_ble_eq_true rfl) dX1_gives_203 ⟨Nat.zero_le _, Nat.zero_le _⟩ (fun v20 I20 H20 L20 hp20 hW hS => ?_)
            obtain ⟨hF20, hO, ev20, hc20⟩ := hp20
            have hF := dkF_call hF hF20 rfl
            obtain ⟨dv20, f20_338_2, -⟩ := hc20
            rw [ev20]
            refine lv_aload_n hx hb dX1_gives_206 rfl (lv_at hl 1 rfl) ?_
            refine lv_aload_n hx hb dX1_gives_207 rfl (lv_at hl 1 rfl) ?_
            refine lv_iload_n hx hb dX1_gives_208 rfl (lv_at hl 3 rfl) ?_
            refine dk_Vi (As := [.int p1]) (rest := [.ref (z + 338), .int p1]) ⟨hx, hb, hml, hown, hts⟩ (c_X1_sizeBody_0 l g z I20 p1 dp1 hO) (cwV 1 hts gX1_gives_X1_sizeBody rfl rfl rfl (by decide +kernel) ⟨Nat.le_of_ble_eq_true rfl, Nat.le_of_ble_eq_true rfl⟩) (dk_at338 hW) rfl hK hT hW hS rfl hl.1 rfl (Nat.le_of_ble_eq_true rfl) dX1_gives_209 ⟨Nat.zero_le _, Nat.zero_le _⟩ (fun v21 I21 H21 L21 hp21 hW hS => ?_)
            obtain ⟨hF21, hO, hc21⟩ := hp21
            have hF := dkF_call hF hF21 rfl
            obtain ⟨dv21, -⟩ := hc21
            refine lv_iload_n hx hb dX1_gives_212 rfl (lv_at hl 3 rfl) ?_
            refine lv_iload hx hb dX1_gives_213 (lv_at hl 0 rfl) ?_
            refine dk_Vi (As := [.int v21, .int p1, .int v3]) (rest := [.int p1]) ⟨hx, hb, hml, hown, hts⟩ (c_X1_gives_27 l g z I21 v21 p1 v3 dv21 dp1 dv3 hO) (cwV 3 hts gX1_gives_X1_gives rfl rfl rfl (by decide +kernel) ⟨Nat.le_of_ble_eq_true rfl, Nat.le_of_ble_eq_true rfl⟩) (dk_at338 hW) rfl hK hT hW hS rfl hl.1 rfl (Nat.le_of_ble_eq_true rfl) dX1_gives_215 ⟨Nat.zero_le _, Nat.zero_le _⟩ (fun v22 I22 H22 L22 hp22 hW hS => ?_)
            obtain ⟨hF22, hO, hc22⟩ := hp22
            have hF := dkF_call hF hF22 rfl
            obtain ⟨_, f22_338_2, -⟩ := hc22
            refine lv_isub hx hb dX1_gives_218 ?_
            refine lv_topi (fun v23 ev23 => ?_)
            exact W.iret (v := v23) hx hb hr (fun t ht hW9 => ⟨⟨v23, I22, rfl, ⟨hF, hO, ⟨trivial, (show dkN [(1, 16)] (I22 338 2) from dkN_sub f22_338_2 rfl), trivial⟩⟩, dkW_eq ht hW⟩, hS.F ht⟩) hS.2.2 dX1_gives_219
          ·
            have d24 : dkN [(24, 24)] p0 := dkN_ne1 (23) d17 (dkN_lit (x := 23) (23) rfl) (dk_ne c18) rfl
            by_cases c25 : p0 = 24
            ·
              have qc25 : p0.toInt = 24 := by rw [c25]; rfl
              have d26 : dkN [(24, 24)] p0 := dkN_lit (24) qc25
              refine lv_tableIn (tgt := 220) hx hb dX1_gives_19 (by rw [qc25]; decide) (by rw [qc25]; decide) (by rw [qc25]; rfl) (by decide) ?_
              refine lv_iconst (v := 2) hx hb dX1_gives_220 (by decide) ?_
              refine lv_aload_n hx hb dX1_gives_221 rfl (lv_at hl 1 rfl) ?_
              refine lv_bipush (v := 21) hx hb dX1_gives_222 (by decide) ?_
              refine lv_iload_n hx hb dX1_gives_224 rfl (lv_at hl 3 rfl) ?_
              refine lv_iload hx hb dX1_gives_225 (lv_at hl 0 rfl) ?_
              refine dk_Vi (As := [.int 21, .int p1, .int v3]) (rest := [.int 2]) ⟨hx, hb, hml, hown, hts⟩ (c_X1_gives_26 l g z I2 21 p1 v3 (dkN_lit (x := 21) (21) rfl) dp1 dv3 hO) (cwV 3 hts gX1_gives_X1_gives rfl rfl rfl (by decide +kernel) ⟨Nat.le_of_ble_eq_true rfl, Nat.le_of_ble_eq_true rfl⟩) (dk_at338 hW) rfl hK hT hW hS rfl hl.1 rfl (Nat.le_of_ble_eq_true rfl) dX1_gives_227 ⟨Nat.zero_le _, Nat.zero_le _⟩ (fun v27 I27 H27 L27 hp27 hW hS => ?_)
              obtain ⟨hF27, hO, hc27⟩ := hp27
              have hF := dkF_call hF hF27 rfl
              obtain ⟨_, f27_338_2, -⟩ := hc27
              refine lv_imul hx hb dX1_gives_230 ?_
              refine lv_topi (fun v28 ev28 => ?_)
              exact W.iret (v := v28) hx hb hr (fun t ht hW9 => ⟨⟨v28, I27, rfl, ⟨hF, hO, ⟨trivial, (show dkN [(1, 16)] (I27 338 2) from dkN_sub f27_338_2 rfl), trivial⟩⟩, dkW_eq ht hW⟩, hS.F ht⟩) hS.2.2 dX1_gives_231
            ·
              exact (dkN_nil (show dkN [] p0 from dkN_ne1 (24) d24 (dkN_lit (x := 24) (24) rfl) (dk_ne c25) rfl)).elim
  ·
    exact (dkN_nil (show dkN [] p2 from dkN_le2 1 (dkN_lit (x := 5) (5) rfl) dp2 (dkc_nle c1) rfl)).elim
set_option maxHeartbeats 4000000 in
set_option maxRecDepth 100000 in
theorem c_X1_gives_23 (l : Launch) (g : dkG) (z : Nat) (I0 : dkI) (p0 : Int32) (p1 : Int32) (p2 : Int32) (dp0 : dkN [(11, 11)] p0) (dp1 : dkN [(0, 5)] p1) (dp2 : dkN [(2, 2)] p2)  (hO : dkOk I0) : Met l yX1_gives wsX1_gives (dkR 4) (dkPc g z [.ref (z + 338), .int p0, .int p1, .int p2] I0) (dkQi g z (fun r I1 => dkF [(338, 338, 2, 2), (339, 339, 0, 15)] I0 I1 ∧ dkOk I1 ∧ ((True ∧ dkN [(1, 16)] (I1 338 2) ∧ True)))) 0 0 (dkA z) := by
  refine Met.ofW (cc := cX1_gives) (maxL := 5) (ret := (some .int)) (by decide) rfl ?_
  intro p e s m args below meth c s₁ B hml hv
  obtain ⟨ha, hW, hK, hT⟩ := hv
  have hx := B.exec
  have hb := B.bytes
  have hr := B.returns
  have hts := atoms_spec (ws := wsX1_gives) B.pre
  have hown : s.vm.findClass RX1 = some m.cls := findClass_of_methodNamed B.named
  have hlocks := B.notSynchronized
  have hS : va_S (dkA z) s.heap s.heap [] := va_S.rf
  have hF : dkF [(338, 338, 2, 2), (339, 339, 0, 15)] I0 I0 := dkF_rf _ _
  have hl := lv_entry ([.ref (z + 338), .int p0, .int p1, .int p2]) (n := 5) (Nat.le_of_ble_eq_true rfl)
  have hgo : entryFrame m args 5 = entryFrame m ([.ref (z + 338), .int p0, .int p1, .int p2] : List Value).toArray 5 := by rw [ha]
  rw [hgo, lg_entry_eq]
  generalize (lg_sl ([.ref (z + 338), .int p0, .int p1, .int p2]) ++ List.replicate (5 - (lg_sl ([.ref (z + 338), .int p0, .int p1, .int p2])).length) Slot.unset).toArray = ls at hl ⊢
  have hl : lv_has ls 5 [(0, .ref (z + 338)), (1, .int p0), (2, .int p1), (3, .int p2)] := hl
  refine lv_iload_n hx hb dX1_gives_0 rfl (lv_at hl 3 rfl) ?_
  refine lv_iconst (v := 5) hx hb dX1_gives_1 (by decide) ?_
  refine lv_icmp_le (tgt := 8) hx hb dX1_gives_2 (by decide) (fun c1 => ?_) (fun c1 => ?_)
  ·
    refine lv_aload_n hx hb dX1_gives_8 rfl (lv_at hl 0 rfl) ?_
    refine lv_iload_n hx hb dX1_gives_9 rfl (lv_at hl 1 rfl) ?_
    refine dk_Vv (As := [.int p0]) (rest := []) ⟨hx, hb, hml, hown, hts⟩ (c_X1_begins_6 l g z I0 p0 dp0 hO) (cwV 1 hts gX1_gives_X1_begins rfl rfl rfl (by decide +kernel) ⟨Nat.le_of_ble_eq_true rfl, Nat.le_of_ble_eq_true rfl⟩) (dk_at338 hW) rfl hK hT hW hS rfl hl.1 rfl (Nat.le_of_ble_eq_true rfl) dX1_gives_10 ⟨Nat.zero_le _, Nat.zero_le _⟩ (fun I2 H2 L2 hp2 hW hS => ?_)
    obtain ⟨hF2, hO, hc2⟩ := hp2
    have hF := dkF_call hF hF2 rfl
    obtain ⟨f2_338_2, -⟩ := hc2
    refine lv_iload_n hx hb dX1_gives_13 rfl (lv_at hl 3 rfl) ?_
    refine lv_iconst (v := 1) hx hb dX1_gives_14 (by decide) ?_
    refine lv_iadd hx hb dX1_gives_15 ?_
    refine lv_topi (fun v3 ev3 => ?_)
    have dv3 : dkN [(3, 3)] v3 := by rw [ev3]; exact dkN_add dp2 (dkN_lit (x := 1) (1) rfl) rfl
    refine lv_istore (lv' := [(4, .int v3), (0, .ref (z + 338)), (1, .int p0), (2, .int p1), (3, .int p2)]) hx hb dX1_gives_16 hl (by decide) rfl (fun ls hl => ?_)
    refine lv_iload_n hx hb dX1_gives_18 rfl (lv_at hl 2 rfl) ?_
    by_cases c4 : p0 = 11
    ·
      have qc4 : p0.toInt = 11 := by rw [c4]; rfl
      have d5 : dkN [(11, 11)] p0 := dkN_lit (11) qc4
      refine lv_tableIn (tgt := 102) hx hb dX1_gives_19 (by rw [qc4]; decide) (by rw [qc4]; decide) (by rw [qc4]; rfl) (by decide) ?_
      refine lv_aload_n hx hb dX1_gives_102 rfl (lv_at hl 1 rfl) ?_
      refine lv_bipush (v := 10) hx hb dX1_gives_103 (by decide) ?_
      refine lv_iload_n hx hb dX1_gives_105 rfl (lv_at hl 3 rfl) ?_
      refine lv_iload hx hb dX1_gives_106 (lv_at hl 0 rfl) ?_
      refine dk_Vi (As := [.int 10, .int p1, .int v3]) (rest := []) ⟨hx, hb, hml, hown, hts⟩ (c_X1_gives_24 l g z I2 10 p1 v3 (dkN_lit (x := 10) (10) rfl) dp1 dv3 hO) (cwV 3 hts gX1_gives_X1_gives rfl rfl rfl (by decide +kernel) ⟨Nat.le_of_ble_eq_true rfl, Nat.le_of_ble_eq_true rfl⟩) (dk_at338 hW) rfl hK hT hW hS rfl hl.1 rfl (Nat.le_of_ble_eq_true rfl) dX1_gives_108 ⟨Nat.zero_le _, Nat.zero_le _⟩ (fun v6 I6 H6 L6 hp6 hW hS => ?_)
      obtain ⟨hF6, hO, hc6⟩ := hp6
      have hF := dkF_call hF hF6 rfl
      obtain ⟨_, f6_338_2, -⟩ := hc6
      refine lv_aload_n hx hb dX1_gives_111 rfl (lv_at hl 1 rfl) ?_
      refine lv_aload_n hx hb dX1_gives_112 rfl (lv_at hl 1 rfl) ?_
      refine lv_iload_n hx hb dX1_gives_113 rfl (lv_at hl 3 rfl) ?_
      refine dk_Vi (As := [.int p1]) (rest := [.ref (z + 338), .int v6]) ⟨hx, hb, hml, hown, hts⟩ (c_X1_markBody_0 l g z I6 p1 dp1 hO) (cwV 1 hts gX1_gives_X1_markBody rfl rfl rfl (by decide +kernel) ⟨Nat.le_of_ble_eq_true rfl, Nat.le_of_ble_eq_true rfl⟩) (dk_at338 hW) rfl hK hT hW hS rfl hl.1 rfl (Nat.le_of_ble_eq_true rfl) dX1_gives_114 ⟨Nat.zero_le _, Nat.zero_le _⟩ (fun v7 I7 H7 L7 hp7 hW hS => ?_)
      obtain ⟨hF7, hO, hc7⟩ := hp7
      have hF := dkF_call hF hF7 rfl
      obtain ⟨dv7, -⟩ := hc7
      refine lv_iload_n hx hb dX1_gives_117 rfl (lv_at hl 3 rfl) ?_
      refine lv_iload hx hb dX1_gives_118 (lv_at hl 0 rfl) ?_
      refine dk_Vi (As := [.int v7, .int p1, .int v3]) (rest := [.int v6]) ⟨hx, hb, hml, hown, hts⟩ (c_X1_gives_25 l g z I7 v7 p1 v3 dv7 dp1 dv3 hO) (cwV 3 hts gX1_gives_X1_gives rfl rfl rfl (by decide +kernel) ⟨Nat.le_of_ble_eq_true rfl, Nat.le_of_ble_eq_true rfl⟩) (dk_at338 hW) rfl hK hT hW hS rfl hl.1 rfl (Nat.le_of_ble_eq_true rfl) dX1_gives_120 ⟨Nat.zero_le _, Nat.zero_le _⟩ (fun v8 I8 H8 L8 hp8 hW hS => ?_)
      obtain ⟨hF8, hO, hc8⟩ := hp8
      have hF := dkF_call hF hF8 rfl
      obtain ⟨_, f8_338_2, -⟩ := hc8
      refine lv_iadd hx hb dX1_gives_123 ?_
      refine lv_topi (fun v9 ev9 => ?_)
      exact W.iret (v := v9) hx hb hr (fun t ht hW9 => ⟨⟨v9, I8, rfl, ⟨hF, hO, ⟨trivial, (show dkN [(1, 16)] (I8 338 2) from dkN_sub f8_338_2 rfl), trivial⟩⟩, dkW_eq ht hW⟩, hS.F ht⟩) hS.2.2 dX1_gives_124
    ·
      exact (dkN_nil (show dkN [] p0 from dkN_ne1 (11) dp0 (dkN_lit (x := 11) (11) rfl) (dk_ne c4) rfl)).elim
  ·
    exact (dkN_nil (show dkN [] p2 from dkN_le2 1 (dkN_lit (x := 5) (5) rfl) dp2 (dkc_nle c1) rfl)).elim
set_option maxHeartbeats 4000000 in
set_option maxRecDepth 100000 in
theorem c_X1_gives_30 (l : Launch) (g : dkG) (z : Nat) (I0 : dkI) (p0 : Int32) (p1 : Int32) (p2 : Int32) (dp0 : dkN [(13, 13)] p0) (dp1 : dkN [(0, 5)] p1) (dp2 : dkN [(2, 2)] p2)  (hO : dkOk I0) : Met l yX1_gives wsX1_gives (dkR 2) (dkPc g z [.ref (z + 338), .int p0, .int p1, .int p2] I0) (dkQi g z (fun r I1 => dkF [(338, 338, 2, 2), (339, 339, 0, 15)] I0 I1 ∧ dkOk I1 ∧ ((True ∧ dkN [(1, 16)] (I1 338 2) ∧ True)))) 0 0 (dkA z) := by
  refine Met.ofW (cc := cX1_gives) (maxL := 5) (ret := (some .int)) (by decide) rfl ?_
  intro p e s m args below meth c s₁ B hml hv
  obtain ⟨ha, hW, hK, hT⟩ := hv
  have hx := B.exec
  have hb := B.bytes
  have hr := B.returns
  have hts := atoms_spec (ws := wsX1_gives) B.pre
  have hown : s.vm.findClass RX1 = some m.cls := findClass_of_methodNamed B.named
  have hlocks := B.notSynchronized
  have hS : va_S (dkA z) s.heap s.heap [] := va_S.rf
  have hF : dkF [(338, 338, 2, 2), (339, 339, 0, 15)] I0 I0 := dkF_rf _ _
  have hl := lv_entry ([.ref (z + 338), .int p0, .int p1, .int p2]) (n := 5) (Nat.le_of_ble_eq_true rfl)
  have hgo : entryFrame m args 5 = entryFrame m ([.ref (z + 338), .int p0, .int p1, .int p2] : List Value).toArray 5 := by rw [ha]
  rw [hgo, lg_entry_eq]
  generalize (lg_sl ([.ref (z + 338), .int p0, .int p1, .int p2]) ++ List.replicate (5 - (lg_sl ([.ref (z + 338), .int p0, .int p1, .int p2])).length) Slot.unset).toArray = ls at hl ⊢
  have hl : lv_has ls 5 [(0, .ref (z + 338)), (1, .int p0), (2, .int p1), (3, .int p2)] := hl
  refine lv_iload_n hx hb dX1_gives_0 rfl (lv_at hl 3 rfl) ?_
  refine lv_iconst (v := 5) hx hb dX1_gives_1 (by decide) ?_
  refine lv_icmp_le (tgt := 8) hx hb dX1_gives_2 (by decide) (fun c1 => ?_) (fun c1 => ?_)
  ·
    refine lv_aload_n hx hb dX1_gives_8 rfl (lv_at hl 0 rfl) ?_
    refine lv_iload_n hx hb dX1_gives_9 rfl (lv_at hl 1 rfl) ?_
    refine dk_Vv (As := [.int p0]) (rest := []) ⟨hx, hb, hml, hown, hts⟩ (c_X1_begins_7 l g z I0 p0 dp0 hO) (cwV 1 hts gX1_gives_X1_begins rfl rfl rfl (by decide +kernel) ⟨Nat.le_of_ble_eq_true rfl, Nat.le_of_ble_eq_true rfl⟩) (dk_at338 hW) rfl hK hT hW hS rfl hl.1 rfl (Nat.le_of_ble_eq_true rfl) dX1_gives_10 ⟨Nat.zero_le _, Nat.zero_le _⟩ (fun I2 H2 L2 hp2 hW hS => ?_)
    obtain ⟨hF2, hO, hc2⟩ := hp2
    have hF := dkF_call hF hF2 rfl
    obtain ⟨f2_338_2, -⟩ := hc2
    refine lv_iload_n hx hb dX1_gives_13 rfl (lv_at hl 3 rfl) ?_
    refine lv_iconst (v := 1) hx hb dX1_gives_14 (by decide) ?_
    refine lv_iadd hx hb dX1_gives_15 ?_
    refine lv_topi (fun v3 ev3 => ?_)
    have dv3 : dkN [(3, 3)] v3 := by rw [ev3]; exact dkN_add dp2 (dkN_lit (x := 1) (1) rfl) rfl
    refine lv_istore (lv' := [(4, .int v3), (0, .ref (z + 338)), (1, .int p0), (2, .int p1), (3, .int p2)]) hx hb dX1_gives_16 hl (by decide) rfl (fun ls hl => ?_)
    refine lv_iload_n hx hb dX1_gives_18 rfl (lv_at hl 2 rfl) ?_
    by_cases c4 : p0 = 13
    ·
      have qc4 : p0.toInt = 13 := by rw [c4]; rfl
      have d5 : dkN [(13, 13)] p0 := dkN_lit (13) qc4
      refine lv_tableIn (tgt := 136) hx hb dX1_gives_19 (by rw [qc4]; decide) (by rw [qc4]; decide) (by rw [qc4]; rfl) (by decide) ?_
      refine lv_aload_n hx hb dX1_gives_136 rfl (lv_at hl 1 rfl) ?_
      refine lv_bipush (v := 10) hx hb dX1_gives_137 (by decide) ?_
      refine lv_iload_n hx hb dX1_gives_139 rfl (lv_at hl 3 rfl) ?_
      refine lv_iload hx hb dX1_gives_140 (lv_at hl 0 rfl) ?_
      refine dk_Vi (As := [.int 10, .int p1, .int v3]) (rest := []) ⟨hx, hb, hml, hown, hts⟩ (c_X1_gives_24 l g z I2 10 p1 v3 (dkN_lit (x := 10) (10) rfl) dp1 dv3 hO) (cwV 3 hts gX1_gives_X1_gives rfl rfl rfl (by decide +kernel) ⟨Nat.le_of_ble_eq_true rfl, Nat.le_of_ble_eq_true rfl⟩) (dk_at338 hW) rfl hK hT hW hS rfl hl.1 rfl (Nat.le_of_ble_eq_true rfl) dX1_gives_142 ⟨Nat.zero_le _, Nat.zero_le _⟩ (fun v6 I6 H6 L6 hp6 hW hS => ?_)
      obtain ⟨hF6, hO, hc6⟩ := hp6
      have hF := dkF_call hF hF6 rfl
      obtain ⟨_, f6_338_2, -⟩ := hc6
      refine lv_bipush (v := 100) hx hb dX1_gives_145 (by decide) ?_
      refine lv_isub hx hb dX1_gives_147 ?_
      refine lv_topi (fun v7 ev7 => ?_)
      exact W.iret (v := v7) hx hb hr (fun t ht hW9 => ⟨⟨v7, I6, rfl, ⟨hF, hO, ⟨trivial, (show dkN [(1, 16)] (I6 338 2) from dkN_sub f6_338_2 rfl), trivial⟩⟩, dkW_eq ht hW⟩, hS.F ht⟩) hS.2.2 dX1_gives_148
    ·
      exact (dkN_nil (show dkN [] p0 from dkN_ne1 (13) dp0 (dkN_lit (x := 13) (13) rfl) (dk_ne c4) rfl)).elim
  ·
    exact (dkN_nil (show dkN [] p2 from dkN_le2 1 (dkN_lit (x := 5) (5) rfl) dp2 (dkc_nle c1) rfl)).elim
set_option maxHeartbeats 4000000 in
set_option maxRecDepth 100000 in
theorem c_X1_gives_31 (l : Launch) (g : dkG) (z : Nat) (I0 : dkI) (p0 : Int32) (p1 : Int32) (p2 : Int32) (dp0 : dkN [(20, 20)] p0) (dp1 : dkN [(0, 5)] p1) (dp2 : dkN [(2, 2)] p2)  (hO : dkOk I0) : Met l yX1_gives wsX1_gives (dkR 1) (dkPc g z [.ref (z + 338), .int p0, .int p1, .int p2] I0) (dkQi g z (fun r I1 => dkF [(338, 338, 2, 2), (339, 339, 0, 15)] I0 I1 ∧ dkOk I1 ∧ r = p1 ∧ ((dkN [(0, 5)] r ∧ dkN [(1, 16)] (I1 338 2) ∧ True)))) 0 0 (dkA z) := by
  refine Met.ofW (cc := cX1_gives) (maxL := 5) (ret := (some .int)) (by decide) rfl ?_
  intro p e s m args below meth c s₁ B hml hv
  obtain ⟨ha, hW, hK, hT⟩ := hv
  have hx := B.exec
  have hb := B.bytes
  have hr := B.returns
  have hts := atoms_spec (ws := wsX1_gives) B.pre
  have hown : s.vm.findClass RX1 = some m.cls := findClass_of_methodNamed B.named
  have hlocks := B.notSynchronized
  have hS : va_S (dkA z) s.heap s.heap [] := va_S.rf
  have hF : dkF [(338, 338, 2, 2), (339, 339, 0, 15)] I0 I0 := dkF_rf _ _
  have hl := lv_entry ([.ref (z + 338), .int p0, .int p1, .int p2]) (n := 5) (Nat.le_of_ble_eq_true rfl)
  have hgo : entryFrame m args 5 = entryFrame m ([.ref (z + 338), .int p0, .int p1, .int p2] : List Value).toArray 5 := by rw [ha]
  rw [hgo, lg_entry_eq]
  generalize (lg_sl ([.ref (z + 338), .int p0, .int p1, .int p2]) ++ List.replicate (5 - (lg_sl ([.ref (z + 338), .int p0, .int p1, .int p2])).length) Slot.unset).toArray = ls at hl ⊢
  have hl : lv_has ls 5 [(0, .ref (z + 338)), (1, .int p0), (2, .int p1), (3, .int p2)] := hl
  refine lv_iload_n hx hb dX1_gives_0 rfl (lv_at hl 3 rfl) ?_
  refine lv_iconst (v := 5) hx hb dX1_gives_1 (by decide) ?_
  refine lv_icmp_le (tgt := 8) hx hb dX1_gives_2 (by decide) (fun c1 => ?_) (fun c1 => ?_)
  ·
    refine lv_aload_n hx hb dX1_gives_8 rfl (lv_at hl 0 rfl) ?_
    refine lv_iload_n hx hb dX1_gives_9 rfl (lv_at hl 1 rfl) ?_
    refine dk_Vv (As := [.int p0]) (rest := []) ⟨hx, hb, hml, hown, hts⟩ (c_X1_begins_3 l g z I0 p0 dp0 hO) (cwV 1 hts gX1_gives_X1_begins rfl rfl rfl (by decide +kernel) ⟨Nat.le_of_ble_eq_true rfl, Nat.le_of_ble_eq_true rfl⟩) (dk_at338 hW) rfl hK hT hW hS rfl hl.1 rfl (Nat.le_of_ble_eq_true rfl) dX1_gives_10 ⟨Nat.zero_le _, Nat.zero_le _⟩ (fun I2 H2 L2 hp2 hW hS => ?_)
    obtain ⟨hF2, hO, hc2⟩ := hp2
    have hF := dkF_call hF hF2 rfl
    obtain ⟨f2_338_2, -⟩ := hc2
    refine lv_iload_n hx hb dX1_gives_13 rfl (lv_at hl 3 rfl) ?_
    refine lv_iconst (v := 1) hx hb dX1_gives_14 (by decide) ?_
    refine lv_iadd hx hb dX1_gives_15 ?_
    refine lv_topi (fun v3 ev3 => ?_)
    have dv3 : dkN [(3, 3)] v3 := by rw [ev3]; exact dkN_add dp2 (dkN_lit (x := 1) (1) rfl) rfl
    refine lv_istore (lv' := [(4, .int v3), (0, .ref (z + 338)), (1, .int p0), (2, .int p1), (3, .int p2)]) hx hb dX1_gives_16 hl (by decide) rfl (fun ls hl => ?_)
    refine lv_iload_n hx hb dX1_gives_18 rfl (lv_at hl 2 rfl) ?_
    by_cases c4 : p0 = 20
    ·
      have qc4 : p0.toInt = 20 := by rw [c4]; rfl
      have d5 : dkN [(20, 20)] p0 := dkN_lit (20) qc4
      refine lv_tableIn (tgt := 161) hx hb dX1_gives_19 (by rw [qc4]; decide) (by rw [qc4]; decide) (by rw [qc4]; rfl) (by decide) ?_
      refine lv_iload_n hx hb dX1_gives_161 rfl (lv_at hl 3 rfl) ?_
      exact W.iret (v := p1) hx hb hr (fun t ht hW9 => ⟨⟨p1, I2, rfl, ⟨hF, hO, rfl, ⟨dkN_sub dp1 rfl, (show dkN [(1, 16)] (I2 338 2) from dkN_sub f2_338_2 rfl), trivial⟩⟩, dkW_eq ht hW⟩, hS.F ht⟩) hS.2.2 dX1_gives_162
    ·
      exact (dkN_nil (show dkN [] p0 from dkN_ne1 (20) dp0 (dkN_lit (x := 20) (20) rfl) (dk_ne c4) rfl)).elim
  ·
    exact (dkN_nil (show dkN [] p2 from dkN_le2 1 (dkN_lit (x := 5) (5) rfl) dp2 (dkc_nle c1) rfl)).elim
set_option maxHeartbeats 4000000 in
set_option maxRecDepth 100000 in
theorem c_X1_gives_32 (l : Launch) (g : dkG) (z : Nat) (I0 : dkI) (p0 : Int32) (p1 : Int32) (p2 : Int32) (dp0 : dkN [(21, 21)] p0) (dp1 : dkN [(0, 5)] p1) (dp2 : dkN [(2, 2)] p2)  (hO : dkOk I0) : Met l yX1_gives wsX1_gives (dkR 2) (dkPc g z [.ref (z + 338), .int p0, .int p1, .int p2] I0) (dkQi g z (fun r I1 => dkF [(338, 338, 2, 2), (339, 339, 0, 15)] I0 I1 ∧ dkOk I1 ∧ ((True ∧ dkN [(1, 16)] (I1 338 2) ∧ True)))) 0 0 (dkA z) := by
  refine Met.ofW (cc := cX1_gives) (maxL := 5) (ret := (some .int)) (by decide) rfl ?_
  intro p e s m args below meth c s₁ B hml hv
  obtain ⟨ha, hW, hK, hT⟩ := hv
  have hx := B.exec
  have hb := B.bytes
  have hr := B.returns
  have hts := atoms_spec (ws := wsX1_gives) B.pre
  have hown : s.vm.findClass RX1 = some m.cls := findClass_of_methodNamed B.named
  have hlocks := B.notSynchronized
  have hS : va_S (dkA z) s.heap s.heap [] := va_S.rf
  have hF : dkF [(338, 338, 2, 2), (339, 339, 0, 15)] I0 I0 := dkF_rf _ _
  have hl := lv_entry ([.ref (z + 338), .int p0, .int p1, .int p2]) (n := 5) (Nat.le_of_ble_eq_true rfl)
  have hgo : entryFrame m args 5 = entryFrame m ([.ref (z + 338), .int p0, .int p1, .int p2] : List Value).toArray 5 := by rw [ha]
  rw [hgo, lg_entry_eq]
  generalize (lg_sl ([.ref (z + 338), .int p0, .int p1, .int p2]) ++ List.replicate (5 - (lg_sl ([.ref (z + 338), .int p0, .int p1, .int p2])).length) Slot.unset).toArray = ls at hl ⊢
  have hl : lv_has ls 5 [(0, .ref (z + 338)), (1, .int p0), (2, .int p1), (3, .int p2)] := hl
  refine lv_iload_n hx hb dX1_gives_0 rfl (lv_at hl 3 rfl) ?_
  refine lv_iconst (v := 5) hx hb dX1_gives_1 (by decide) ?_
  refine lv_icmp_le (tgt := 8) hx hb dX1_gives_2 (by decide) (fun c1 => ?_) (fun c1 => ?_)
  ·
    refine lv_aload_n hx hb dX1_gives_8 rfl (lv_at hl 0 rfl) ?_
    refine lv_iload_n hx hb dX1_gives_9 rfl (lv_at hl 1 rfl) ?_
    refine dk_Vv (As := [.int p0]) (rest := []) ⟨hx, hb, hml, hown, hts⟩ (c_X1_begins_4 l g z I0 p0 dp0 hO) (cwV 1 hts gX1_gives_X1_begins rfl rfl rfl (by decide +kernel) ⟨Nat.le_of_ble_eq_true rfl, Nat.le_of_ble_eq_true rfl⟩) (dk_at338 hW) rfl hK hT hW hS rfl hl.1 rfl (Nat.le_of_ble_eq_true rfl) dX1_gives_10 ⟨Nat.zero_le _, Nat.zero_le _⟩ (fun I2 H2 L2 hp2 hW hS => ?_)
    obtain ⟨hF2, hO, hc2⟩ := hp2
    have hF := dkF_call hF hF2 rfl
    obtain ⟨f2_338_2, -⟩ := hc2
    refine lv_iload_n hx hb dX1_gives_13 rfl (lv_at hl 3 rfl) ?_
    refine lv_iconst (v := 1) hx hb dX1_gives_14 (by decide) ?_
    refine lv_iadd hx hb dX1_gives_15 ?_
    refine lv_topi (fun v3 ev3 => ?_)
    have dv3 : dkN [(3, 3)] v3 := by rw [ev3]; exact dkN_add dp2 (dkN_lit (x := 1) (1) rfl) rfl
    refine lv_istore (lv' := [(4, .int v3), (0, .ref (z + 338)), (1, .int p0), (2, .int p1), (3, .int p2)]) hx hb dX1_gives_16 hl (by decide) rfl (fun ls hl => ?_)
    refine lv_iload_n hx hb dX1_gives_18 rfl (lv_at hl 2 rfl) ?_
    by_cases c4 : p0 = 21
    ·
      have qc4 : p0.toInt = 21 := by rw [c4]; rfl
      have d5 : dkN [(21, 21)] p0 := dkN_lit (21) qc4
      refine lv_tableIn (tgt := 163) hx hb dX1_gives_19 (by rw [qc4]; decide) (by rw [qc4]; decide) (by rw [qc4]; rfl) (by decide) ?_
      refine lv_aload_n hx hb dX1_gives_163 rfl (lv_at hl 1 rfl) ?_
      refine lv_bipush (v := 20) hx hb dX1_gives_164 (by decide) ?_
      refine lv_iload_n hx hb dX1_gives_166 rfl (lv_at hl 3 rfl) ?_
      refine lv_iload hx hb dX1_gives_167 (lv_at hl 0 rfl) ?_
      refine dk_Vi (As := [.int 20, .int p1, .int v3]) (rest := []) ⟨hx, hb, hml, hown, hts⟩ (c_X1_gives_3 l g z I2 20 p1 v3 (dkN_lit (x := 20) (20) rfl) dp1 dv3 hO) (cwV 3 hts gX1_gives_X1_gives rfl rfl rfl (by decide +kernel) ⟨Nat.le_of_ble_eq_true rfl, Nat.le_of_ble_eq_true rfl⟩) (dk_at338 hW) rfl hK hT hW hS rfl hl.1 rfl (Nat.le_of_ble_eq_true rfl) dX1_gives_169 ⟨Nat.zero_le _, Nat.zero_le _⟩ (fun v6 I6 H6 L6 hp6 hW hS => ?_)
      obtain ⟨hF6, hO, ev6, hc6⟩ := hp6
      have hF := dkF_call hF hF6 rfl
      obtain ⟨dv6, f6_338_2, -⟩ := hc6
      rw [ev6]
      refine lv_aload_n hx hb dX1_gives_172 rfl (lv_at hl 1 rfl) ?_
      refine dk_get (k := 338) hx hb hts iX1_gives_1 hown hK (dk_at338 hW) rfl 0 (by decide) (hts (.fieldLink RX1 15 "DogKings$Asks" "now" "LDogKings$Town;") (List.mem_of_getElem? (i := 2) rfl)) rfl dX1_gives_173 ?_
      refine dk_get (k := 25) hx hb hts iX1_gives_4 hown hK (dk_at25 hW) rfl 14 (by decide) (hts (.fieldLink RX1 54 "DogKings$Town" "dogAt" "[I") (List.mem_of_getElem? (i := 4) rfl)) rfl dX1_gives_176 ?_
      refine lv_iload_n hx hb dX1_gives_179 rfl (lv_at hl 3 rfl) ?_
      refine dk_ild (k := 34) hx hb hK (dk_at34 hW) (dkN_in (n := 6) dp1 rfl) dX1_gives_180 ?_
      refine lv_topi (fun v7 ev7 => ?_)
      refine lv_iadd hx hb dX1_gives_181 ?_
      refine lv_topi (fun v8 ev8 => ?_)
      exact W.iret (v := v8) hx hb hr (fun t ht hW9 => ⟨⟨v8, I6, rfl, ⟨hF, hO, ⟨trivial, (show dkN [(1, 16)] (I6 338 2) from dkN_sub f6_338_2 rfl), trivial⟩⟩, dkW_eq ht hW⟩, hS.F ht⟩) hS.2.2 dX1_gives_182
    ·
      exact (dkN_nil (show dkN [] p0 from dkN_ne1 (21) dp0 (dkN_lit (x := 21) (21) rfl) (dk_ne c4) rfl)).elim
  ·
    exact (dkN_nil (show dkN [] p2 from dkN_le2 1 (dkN_lit (x := 5) (5) rfl) dp2 (dkc_nle c1) rfl)).elim
set_option maxHeartbeats 4000000 in
set_option maxRecDepth 100000 in
theorem c_X1_gives_34 (l : Launch) (g : dkG) (z : Nat) (I0 : dkI) (p0 : Int32) (p1 : Int32) (p2 : Int32) (dp0 : dkN [(11, 11)] p0) (dp1 : dkN [(0, 5)] p1) (dp2 : dkN [(3, 3)] p2)  (hO : dkOk I0) : Met l yX1_gives wsX1_gives (dkR 3) (dkPc g z [.ref (z + 338), .int p0, .int p1, .int p2] I0) (dkQi g z (fun r I1 => dkF [(338, 338, 2, 2), (339, 339, 0, 15)] I0 I1 ∧ dkOk I1 ∧ ((True ∧ dkN [(1, 16)] (I1 338 2) ∧ True)))) 0 0 (dkA z) := by
  refine Met.ofW (cc := cX1_gives) (maxL := 5) (ret := (some .int)) (by decide) rfl ?_
  intro p e s m args below meth c s₁ B hml hv
  obtain ⟨ha, hW, hK, hT⟩ := hv
  have hx := B.exec
  have hb := B.bytes
  have hr := B.returns
  have hts := atoms_spec (ws := wsX1_gives) B.pre
  have hown : s.vm.findClass RX1 = some m.cls := findClass_of_methodNamed B.named
  have hlocks := B.notSynchronized
  have hS : va_S (dkA z) s.heap s.heap [] := va_S.rf
  have hF : dkF [(338, 338, 2, 2), (339, 339, 0, 15)] I0 I0 := dkF_rf _ _
  have hl := lv_entry ([.ref (z + 338), .int p0, .int p1, .int p2]) (n := 5) (Nat.le_of_ble_eq_true rfl)
  have hgo : entryFrame m args 5 = entryFrame m ([.ref (z + 338), .int p0, .int p1, .int p2] : List Value).toArray 5 := by rw [ha]
  rw [hgo, lg_entry_eq]
  generalize (lg_sl ([.ref (z + 338), .int p0, .int p1, .int p2]) ++ List.replicate (5 - (lg_sl ([.ref (z + 338), .int p0, .int p1, .int p2])).length) Slot.unset).toArray = ls at hl ⊢
  have hl : lv_has ls 5 [(0, .ref (z + 338)), (1, .int p0), (2, .int p1), (3, .int p2)] := hl
  refine lv_iload_n hx hb dX1_gives_0 rfl (lv_at hl 3 rfl) ?_
  refine lv_iconst (v := 5) hx hb dX1_gives_1 (by decide) ?_
  refine lv_icmp_le (tgt := 8) hx hb dX1_gives_2 (by decide) (fun c1 => ?_) (fun c1 => ?_)
  ·
    refine lv_aload_n hx hb dX1_gives_8 rfl (lv_at hl 0 rfl) ?_
    refine lv_iload_n hx hb dX1_gives_9 rfl (lv_at hl 1 rfl) ?_
    refine dk_Vv (As := [.int p0]) (rest := []) ⟨hx, hb, hml, hown, hts⟩ (c_X1_begins_6 l g z I0 p0 dp0 hO) (cwV 1 hts gX1_gives_X1_begins rfl rfl rfl (by decide +kernel) ⟨Nat.le_of_ble_eq_true rfl, Nat.le_of_ble_eq_true rfl⟩) (dk_at338 hW) rfl hK hT hW hS rfl hl.1 rfl (Nat.le_of_ble_eq_true rfl) dX1_gives_10 ⟨Nat.zero_le _, Nat.zero_le _⟩ (fun I2 H2 L2 hp2 hW hS => ?_)
    obtain ⟨hF2, hO, hc2⟩ := hp2
    have hF := dkF_call hF hF2 rfl
    obtain ⟨f2_338_2, -⟩ := hc2
    refine lv_iload_n hx hb dX1_gives_13 rfl (lv_at hl 3 rfl) ?_
    refine lv_iconst (v := 1) hx hb dX1_gives_14 (by decide) ?_
    refine lv_iadd hx hb dX1_gives_15 ?_
    refine lv_topi (fun v3 ev3 => ?_)
    have dv3 : dkN [(4, 4)] v3 := by rw [ev3]; exact dkN_add dp2 (dkN_lit (x := 1) (1) rfl) rfl
    refine lv_istore (lv' := [(4, .int v3), (0, .ref (z + 338)), (1, .int p0), (2, .int p1), (3, .int p2)]) hx hb dX1_gives_16 hl (by decide) rfl (fun ls hl => ?_)
    refine lv_iload_n hx hb dX1_gives_18 rfl (lv_at hl 2 rfl) ?_
    by_cases c4 : p0 = 11
    ·
      have qc4 : p0.toInt = 11 := by rw [c4]; rfl
      have d5 : dkN [(11, 11)] p0 := dkN_lit (11) qc4
      refine lv_tableIn (tgt := 102) hx hb dX1_gives_19 (by rw [qc4]; decide) (by rw [qc4]; decide) (by rw [qc4]; rfl) (by decide) ?_
      refine lv_aload_n hx hb dX1_gives_102 rfl (lv_at hl 1 rfl) ?_
      refine lv_bipush (v := 10) hx hb dX1_gives_103 (by decide) ?_
      refine lv_iload_n hx hb dX1_gives_105 rfl (lv_at hl 3 rfl) ?_
      refine lv_iload hx hb dX1_gives_106 (lv_at hl 0 rfl) ?_
      refine dk_Vi (As := [.int 10, .int p1, .int v3]) (rest := []) ⟨hx, hb, hml, hown, hts⟩ (c_X1_gives_7 l g z I2 10 p1 v3 (dkN_lit (x := 10) (10) rfl) dp1 dv3 hO) (cwV 3 hts gX1_gives_X1_gives rfl rfl rfl (by decide +kernel) ⟨Nat.le_of_ble_eq_true rfl, Nat.le_of_ble_eq_true rfl⟩) (dk_at338 hW) rfl hK hT hW hS rfl hl.1 rfl (Nat.le_of_ble_eq_true rfl) dX1_gives_108 ⟨Nat.zero_le _, Nat.zero_le _⟩ (fun v6 I6 H6 L6 hp6 hW hS => ?_)
      obtain ⟨hF6, hO, hc6⟩ := hp6
      have hF := dkF_call hF hF6 rfl
      obtain ⟨_, f6_338_2, -⟩ := hc6
      refine lv_aload_n hx hb dX1_gives_111 rfl (lv_at hl 1 rfl) ?_
      refine lv_aload_n hx hb dX1_gives_112 rfl (lv_at hl 1 rfl) ?_
      refine lv_iload_n hx hb dX1_gives_113 rfl (lv_at hl 3 rfl) ?_
      refine dk_Vi (As := [.int p1]) (rest := [.ref (z + 338), .int v6]) ⟨hx, hb, hml, hown, hts⟩ (c_X1_markBody_0 l g z I6 p1 dp1 hO) (cwV 1 hts gX1_gives_X1_markBody rfl rfl rfl (by decide +kernel) ⟨Nat.le_of_ble_eq_true rfl, Nat.le_of_ble_eq_true rfl⟩) (dk_at338 hW) rfl hK hT hW hS rfl hl.1 rfl (Nat.le_of_ble_eq_true rfl) dX1_gives_114 ⟨Nat.zero_le _, Nat.zero_le _⟩ (fun v7 I7 H7 L7 hp7 hW hS => ?_)
      obtain ⟨hF7, hO, hc7⟩ := hp7
      have hF := dkF_call hF hF7 rfl
      obtain ⟨dv7, -⟩ := hc7
      refine lv_iload_n hx hb dX1_gives_117 rfl (lv_at hl 3 rfl) ?_
      refine lv_iload hx hb dX1_gives_118 (lv_at hl 0 rfl) ?_
      refine dk_Vi (As := [.int v7, .int p1, .int v3]) (rest := [.int v6]) ⟨hx, hb, hml, hown, hts⟩ (c_X1_gives_8 l g z I7 v7 p1 v3 dv7 dp1 dv3 hO) (cwV 3 hts gX1_gives_X1_gives rfl rfl rfl (by decide +kernel) ⟨Nat.le_of_ble_eq_true rfl, Nat.le_of_ble_eq_true rfl⟩) (dk_at338 hW) rfl hK hT hW hS rfl hl.1 rfl (Nat.le_of_ble_eq_true rfl) dX1_gives_120 ⟨Nat.zero_le _, Nat.zero_le _⟩ (fun v8 I8 H8 L8 hp8 hW hS => ?_)
      obtain ⟨hF8, hO, hc8⟩ := hp8
      have hF := dkF_call hF hF8 rfl
      obtain ⟨_, f8_338_2, -⟩ := hc8
      refine lv_iadd hx hb dX1_gives_123 ?_
      refine lv_topi (fun v9 ev9 => ?_)
      exact W.iret (v := v9) hx hb hr (fun t ht hW9 => ⟨⟨v9, I8, rfl, ⟨hF, hO, ⟨trivial, (show dkN [(1, 16)] (I8 338 2) from dkN_sub f8_338_2 rfl), trivial⟩⟩, dkW_eq ht hW⟩, hS.F ht⟩) hS.2.2 dX1_gives_124
    ·
      exact (dkN_nil (show dkN [] p0 from dkN_ne1 (11) dp0 (dkN_lit (x := 11) (11) rfl) (dk_ne c4) rfl)).elim
  ·
    exact (dkN_nil (show dkN [] p2 from dkN_le2 1 (dkN_lit (x := 5) (5) rfl) dp2 (dkc_nle c1) rfl)).elim
set_option maxHeartbeats 4000000 in
set_option maxRecDepth 100000 in
theorem c_X1_gives_35 (l : Launch) (g : dkG) (z : Nat) (I0 : dkI) (p0 : Int32) (p1 : Int32) (p2 : Int32) (dp0 : dkN [(13, 13)] p0) (dp1 : dkN [(0, 5)] p1) (dp2 : dkN [(3, 3)] p2)  (hO : dkOk I0) : Met l yX1_gives wsX1_gives (dkR 2) (dkPc g z [.ref (z + 338), .int p0, .int p1, .int p2] I0) (dkQi g z (fun r I1 => dkF [(338, 338, 2, 2), (339, 339, 0, 15)] I0 I1 ∧ dkOk I1 ∧ ((True ∧ dkN [(1, 16)] (I1 338 2) ∧ True)))) 0 0 (dkA z) := by
  refine Met.ofW (cc := cX1_gives) (maxL := 5) (ret := (some .int)) (by decide) rfl ?_
  intro p e s m args below meth c s₁ B hml hv
  obtain ⟨ha, hW, hK, hT⟩ := hv
  have hx := B.exec
  have hb := B.bytes
  have hr := B.returns
  have hts := atoms_spec (ws := wsX1_gives) B.pre
  have hown : s.vm.findClass RX1 = some m.cls := findClass_of_methodNamed B.named
  have hlocks := B.notSynchronized
  have hS : va_S (dkA z) s.heap s.heap [] := va_S.rf
  have hF : dkF [(338, 338, 2, 2), (339, 339, 0, 15)] I0 I0 := dkF_rf _ _
  have hl := lv_entry ([.ref (z + 338), .int p0, .int p1, .int p2]) (n := 5) (Nat.le_of_ble_eq_true rfl)
  have hgo : entryFrame m args 5 = entryFrame m ([.ref (z + 338), .int p0, .int p1, .int p2] : List Value).toArray 5 := by rw [ha]
  rw [hgo, lg_entry_eq]
  generalize (lg_sl ([.ref (z + 338), .int p0, .int p1, .int p2]) ++ List.replicate (5 - (lg_sl ([.ref (z + 338), .int p0, .int p1, .int p2])).length) Slot.unset).toArray = ls at hl ⊢
  have hl : lv_has ls 5 [(0, .ref (z + 338)), (1, .int p0), (2, .int p1), (3, .int p2)] := hl
  refine lv_iload_n hx hb dX1_gives_0 rfl (lv_at hl 3 rfl) ?_
  refine lv_iconst (v := 5) hx hb dX1_gives_1 (by decide) ?_
  refine lv_icmp_le (tgt := 8) hx hb dX1_gives_2 (by decide) (fun c1 => ?_) (fun c1 => ?_)
  ·
    refine lv_aload_n hx hb dX1_gives_8 rfl (lv_at hl 0 rfl) ?_
    refine lv_iload_n hx hb dX1_gives_9 rfl (lv_at hl 1 rfl) ?_
    refine dk_Vv (As := [.int p0]) (rest := []) ⟨hx, hb, hml, hown, hts⟩ (c_X1_begins_7 l g z I0 p0 dp0 hO) (cwV 1 hts gX1_gives_X1_begins rfl rfl rfl (by decide +kernel) ⟨Nat.le_of_ble_eq_true rfl, Nat.le_of_ble_eq_true rfl⟩) (dk_at338 hW) rfl hK hT hW hS rfl hl.1 rfl (Nat.le_of_ble_eq_true rfl) dX1_gives_10 ⟨Nat.zero_le _, Nat.zero_le _⟩ (fun I2 H2 L2 hp2 hW hS => ?_)
    obtain ⟨hF2, hO, hc2⟩ := hp2
    have hF := dkF_call hF hF2 rfl
    obtain ⟨f2_338_2, -⟩ := hc2
    refine lv_iload_n hx hb dX1_gives_13 rfl (lv_at hl 3 rfl) ?_
    refine lv_iconst (v := 1) hx hb dX1_gives_14 (by decide) ?_
    refine lv_iadd hx hb dX1_gives_15 ?_
    refine lv_topi (fun v3 ev3 => ?_)
    have dv3 : dkN [(4, 4)] v3 := by rw [ev3]; exact dkN_add dp2 (dkN_lit (x := 1) (1) rfl) rfl
    refine lv_istore (lv' := [(4, .int v3), (0, .ref (z + 338)), (1, .int p0), (2, .int p1), (3, .int p2)]) hx hb dX1_gives_16 hl (by decide) rfl (fun ls hl => ?_)
    refine lv_iload_n hx hb dX1_gives_18 rfl (lv_at hl 2 rfl) ?_
    by_cases c4 : p0 = 13
    ·
      have qc4 : p0.toInt = 13 := by rw [c4]; rfl
      have d5 : dkN [(13, 13)] p0 := dkN_lit (13) qc4
      refine lv_tableIn (tgt := 136) hx hb dX1_gives_19 (by rw [qc4]; decide) (by rw [qc4]; decide) (by rw [qc4]; rfl) (by decide) ?_
      refine lv_aload_n hx hb dX1_gives_136 rfl (lv_at hl 1 rfl) ?_
      refine lv_bipush (v := 10) hx hb dX1_gives_137 (by decide) ?_
      refine lv_iload_n hx hb dX1_gives_139 rfl (lv_at hl 3 rfl) ?_
      refine lv_iload hx hb dX1_gives_140 (lv_at hl 0 rfl) ?_
      refine dk_Vi (As := [.int 10, .int p1, .int v3]) (rest := []) ⟨hx, hb, hml, hown, hts⟩ (c_X1_gives_7 l g z I2 10 p1 v3 (dkN_lit (x := 10) (10) rfl) dp1 dv3 hO) (cwV 3 hts gX1_gives_X1_gives rfl rfl rfl (by decide +kernel) ⟨Nat.le_of_ble_eq_true rfl, Nat.le_of_ble_eq_true rfl⟩) (dk_at338 hW) rfl hK hT hW hS rfl hl.1 rfl (Nat.le_of_ble_eq_true rfl) dX1_gives_142 ⟨Nat.zero_le _, Nat.zero_le _⟩ (fun v6 I6 H6 L6 hp6 hW hS => ?_)
      obtain ⟨hF6, hO, hc6⟩ := hp6
      have hF := dkF_call hF hF6 rfl
      obtain ⟨_, f6_338_2, -⟩ := hc6
      refine lv_bipush (v := 100) hx hb dX1_gives_145 (by decide) ?_
      refine lv_isub hx hb dX1_gives_147 ?_
      refine lv_topi (fun v7 ev7 => ?_)
      exact W.iret (v := v7) hx hb hr (fun t ht hW9 => ⟨⟨v7, I6, rfl, ⟨hF, hO, ⟨trivial, (show dkN [(1, 16)] (I6 338 2) from dkN_sub f6_338_2 rfl), trivial⟩⟩, dkW_eq ht hW⟩, hS.F ht⟩) hS.2.2 dX1_gives_148
    ·
      exact (dkN_nil (show dkN [] p0 from dkN_ne1 (13) dp0 (dkN_lit (x := 13) (13) rfl) (dk_ne c4) rfl)).elim
  ·
    exact (dkN_nil (show dkN [] p2 from dkN_le2 1 (dkN_lit (x := 5) (5) rfl) dp2 (dkc_nle c1) rfl)).elim
set_option maxHeartbeats 4000000 in
set_option maxRecDepth 100000 in
theorem c_X1_gives_33 (l : Launch) (g : dkG) (z : Nat) (I0 : dkI) (p0 : Int32) (p1 : Int32) (p2 : Int32) (dp0 : dkN [(10, 14)] p0) (dp1 : dkN [(0, 5)] p1) (dp2 : dkN [(2, 2)] p2)  (hO : dkOk I0) : Met l yX1_gives wsX1_gives (dkR 4) (dkPc g z [.ref (z + 338), .int p0, .int p1, .int p2] I0) (dkQi g z (fun r I1 => dkF [(338, 338, 2, 2), (339, 339, 0, 15)] I0 I1 ∧ dkOk I1 ∧ ((True ∧ dkN [(1, 16)] (I1 338 2) ∧ True)))) 0 0 (dkA z) := by
  refine Met.ofW (cc := cX1_gives) (maxL := 5) (ret := (some .int)) (by decide) rfl ?_
  intro p e s m args below meth c s₁ B hml hv
  obtain ⟨ha, hW, hK, hT⟩ := hv
  have hx := B.exec
  have hb := B.bytes
  have hr := B.returns
  have hts := atoms_spec (ws := wsX1_gives) B.pre
  have hown : s.vm.findClass RX1 = some m.cls := findClass_of_methodNamed B.named
  have hlocks := B.notSynchronized
  have hS : va_S (dkA z) s.heap s.heap [] := va_S.rf
  have hF : dkF [(338, 338, 2, 2), (339, 339, 0, 15)] I0 I0 := dkF_rf _ _
  have hl := lv_entry ([.ref (z + 338), .int p0, .int p1, .int p2]) (n := 5) (Nat.le_of_ble_eq_true rfl)
  have hgo : entryFrame m args 5 = entryFrame m ([.ref (z + 338), .int p0, .int p1, .int p2] : List Value).toArray 5 := by rw [ha]
  rw [hgo, lg_entry_eq]
  generalize (lg_sl ([.ref (z + 338), .int p0, .int p1, .int p2]) ++ List.replicate (5 - (lg_sl ([.ref (z + 338), .int p0, .int p1, .int p2])).length) Slot.unset).toArray = ls at hl ⊢
  have hl : lv_has ls 5 [(0, .ref (z + 338)), (1, .int p0), (2, .int p1), (3, .int p2)] := hl
  refine lv_iload_n hx hb dX1_gives_0 rfl (lv_at hl 3 rfl) ?_
  refine lv_iconst (v := 5) hx hb dX1_gives_1 (by decide) ?_
  refine lv_icmp_le (tgt := 8) hx hb dX1_gives_2 (by decide) (fun c1 => ?_) (fun c1 => ?_)
  ·
    refine lv_aload_n hx hb dX1_gives_8 rfl (lv_at hl 0 rfl) ?_
    refine lv_iload_n hx hb dX1_gives_9 rfl (lv_at hl 1 rfl) ?_
    refine dk_Vv (As := [.int p0]) (rest := []) ⟨hx, hb, hml, hown, hts⟩ (c_X1_begins_5 l g z I0 p0 dp0 hO) (cwV 1 hts gX1_gives_X1_begins rfl rfl rfl (by decide +kernel) ⟨Nat.le_of_ble_eq_true rfl, Nat.le_of_ble_eq_true rfl⟩) (dk_at338 hW) rfl hK hT hW hS rfl hl.1 rfl (Nat.le_of_ble_eq_true rfl) dX1_gives_10 ⟨Nat.zero_le _, Nat.zero_le _⟩ (fun I2 H2 L2 hp2 hW hS => ?_)
    obtain ⟨hF2, hO, hc2⟩ := hp2
    have hF := dkF_call hF hF2 rfl
    obtain ⟨f2_338_2, -⟩ := hc2
    refine lv_iload_n hx hb dX1_gives_13 rfl (lv_at hl 3 rfl) ?_
    refine lv_iconst (v := 1) hx hb dX1_gives_14 (by decide) ?_
    refine lv_iadd hx hb dX1_gives_15 ?_
    refine lv_topi (fun v3 ev3 => ?_)
    have dv3 : dkN [(3, 3)] v3 := by rw [ev3]; exact dkN_add dp2 (dkN_lit (x := 1) (1) rfl) rfl
    refine lv_istore (lv' := [(4, .int v3), (0, .ref (z + 338)), (1, .int p0), (2, .int p1), (3, .int p2)]) hx hb dX1_gives_16 hl (by decide) rfl (fun ls hl => ?_)
    refine lv_iload_n hx hb dX1_gives_18 rfl (lv_at hl 2 rfl) ?_
    by_cases c4 : p0 = 10
    ·
      have qc4 : p0.toInt = 10 := by rw [c4]; rfl
      have d5 : dkN [(10, 10)] p0 := dkN_lit (10) qc4
      refine lv_tableIn (tgt := 92) hx hb dX1_gives_19 (by rw [qc4]; decide) (by rw [qc4]; decide) (by rw [qc4]; rfl) (by decide) ?_
      refine lv_aload_n hx hb dX1_gives_92 rfl (lv_at hl 1 rfl) ?_
      refine dk_get (k := 338) hx hb hts iX1_gives_1 hown hK (dk_at338 hW) rfl 0 (by decide) (hts (.fieldLink RX1 15 "DogKings$Asks" "now" "LDogKings$Town;") (List.mem_of_getElem? (i := 2) rfl)) rfl dX1_gives_93 ?_
      refine dk_get (k := 25) hx hb hts iX1_gives_4 hown hK (dk_at25 hW) rfl 13 (by decide) (hts (.fieldLink RX1 51 "DogKings$Town" "dogHome" "[I") (List.mem_of_getElem? (i := 3) rfl)) rfl dX1_gives_96 ?_
      refine lv_iload_n hx hb dX1_gives_99 rfl (lv_at hl 3 rfl) ?_
      refine dk_ild (k := 33) hx hb hK (dk_at33 hW) (dkN_in (n := 6) dp1 rfl) dX1_gives_100 ?_
      refine lv_topi (fun v6 ev6 => ?_)
      exact W.iret (v := v6) hx hb hr (fun t ht hW9 => ⟨⟨v6, I2, rfl, ⟨hF, hO, ⟨trivial, (show dkN [(1, 16)] (I2 338 2) from dkN_sub f2_338_2 rfl), trivial⟩⟩, dkW_eq ht hW⟩, hS.F ht⟩) hS.2.2 dX1_gives_101
    ·
      have d7 : dkN [(11, 14)] p0 := dkN_ne1 (10) dp0 (dkN_lit (x := 10) (10) rfl) (dk_ne c4) rfl
      by_cases c8 : p0 = 11
      ·
        have qc8 : p0.toInt = 11 := by rw [c8]; rfl
        have d9 : dkN [(11, 11)] p0 := dkN_lit (11) qc8
        refine lv_tableIn (tgt := 102) hx hb dX1_gives_19 (by rw [qc8]; decide) (by rw [qc8]; decide) (by rw [qc8]; rfl) (by decide) ?_
        refine lv_aload_n hx hb dX1_gives_102 rfl (lv_at hl 1 rfl) ?_
        refine lv_bipush (v := 10) hx hb dX1_gives_103 (by decide) ?_
        refine lv_iload_n hx hb dX1_gives_105 rfl (lv_at hl 3 rfl) ?_
        refine lv_iload hx hb dX1_gives_106 (lv_at hl 0 rfl) ?_
        refine dk_Vi (As := [.int 10, .int p1, .int v3]) (rest := []) ⟨hx, hb, hml, hown, hts⟩ (c_X1_gives_24 l g z I2 10 p1 v3 (dkN_lit (x := 10) (10) rfl) dp1 dv3 hO) (cwV 3 hts gX1_gives_X1_gives rfl rfl rfl (by decide +kernel) ⟨Nat.le_of_ble_eq_true rfl, Nat.le_of_ble_eq_true rfl⟩) (dk_at338 hW) rfl hK hT hW hS rfl hl.1 rfl (Nat.le_of_ble_eq_true rfl) dX1_gives_108 ⟨Nat.zero_le _, Nat.zero_le _⟩ (fun v10 I10 H10 L10 hp10 hW hS => ?_)
        obtain ⟨hF10, hO, hc10⟩ := hp10
        have hF := dkF_call hF hF10 rfl
        obtain ⟨_, f10_338_2, -⟩ := hc10
        refine lv_aload_n hx hb dX1_gives_111 rfl (lv_at hl 1 rfl) ?_
        refine lv_aload_n hx hb dX1_gives_112 rfl (lv_at hl 1 rfl) ?_
        refine lv_iload_n hx hb dX1_gives_113 rfl (lv_at hl 3 rfl) ?_
        refine dk_Vi (As := [.int p1]) (rest := [.ref (z + 338), .int v10]) ⟨hx, hb, hml, hown, hts⟩ (c_X1_markBody_0 l g z I10 p1 dp1 hO) (cwV 1 hts gX1_gives_X1_markBody rfl rfl rfl (by decide +kernel) ⟨Nat.le_of_ble_eq_true rfl, Nat.le_of_ble_eq_true rfl⟩) (dk_at338 hW) rfl hK hT hW hS rfl hl.1 rfl (Nat.le_of_ble_eq_true rfl) dX1_gives_114 ⟨Nat.zero_le _, Nat.zero_le _⟩ (fun v11 I11 H11 L11 hp11 hW hS => ?_)
        obtain ⟨hF11, hO, hc11⟩ := hp11
        have hF := dkF_call hF hF11 rfl
        obtain ⟨dv11, -⟩ := hc11
        refine lv_iload_n hx hb dX1_gives_117 rfl (lv_at hl 3 rfl) ?_
        refine lv_iload hx hb dX1_gives_118 (lv_at hl 0 rfl) ?_
        refine dk_Vi (As := [.int v11, .int p1, .int v3]) (rest := [.int v10]) ⟨hx, hb, hml, hown, hts⟩ (c_X1_gives_25 l g z I11 v11 p1 v3 dv11 dp1 dv3 hO) (cwV 3 hts gX1_gives_X1_gives rfl rfl rfl (by decide +kernel) ⟨Nat.le_of_ble_eq_true rfl, Nat.le_of_ble_eq_true rfl⟩) (dk_at338 hW) rfl hK hT hW hS rfl hl.1 rfl (Nat.le_of_ble_eq_true rfl) dX1_gives_120 ⟨Nat.zero_le _, Nat.zero_le _⟩ (fun v12 I12 H12 L12 hp12 hW hS => ?_)
        obtain ⟨hF12, hO, hc12⟩ := hp12
        have hF := dkF_call hF hF12 rfl
        obtain ⟨_, f12_338_2, -⟩ := hc12
        refine lv_iadd hx hb dX1_gives_123 ?_
        refine lv_topi (fun v13 ev13 => ?_)
        exact W.iret (v := v13) hx hb hr (fun t ht hW9 => ⟨⟨v13, I12, rfl, ⟨hF, hO, ⟨trivial, (show dkN [(1, 16)] (I12 338 2) from dkN_sub f12_338_2 rfl), trivial⟩⟩, dkW_eq ht hW⟩, hS.F ht⟩) hS.2.2 dX1_gives_124
      ·
        have d14 : dkN [(12, 14)] p0 := dkN_ne1 (11) d7 (dkN_lit (x := 11) (11) rfl) (dk_ne c8) rfl
        by_cases c15 : p0 = 12
        ·
          have qc15 : p0.toInt = 12 := by rw [c15]; rfl
          have d16 : dkN [(12, 12)] p0 := dkN_lit (12) qc15
          refine lv_tableIn (tgt := 125) hx hb dX1_gives_19 (by rw [qc15]; decide) (by rw [qc15]; decide) (by rw [qc15]; rfl) (by decide) ?_
          refine lv_aload_n hx hb dX1_gives_125 rfl (lv_at hl 1 rfl) ?_
          refine lv_bipush (v := 11) hx hb dX1_gives_126 (by decide) ?_
          refine lv_iload_n hx hb dX1_gives_128 rfl (lv_at hl 3 rfl) ?_
          refine lv_iload hx hb dX1_gives_129 (lv_at hl 0 rfl) ?_
          refine dk_Vi (As := [.int 11, .int p1, .int v3]) (rest := []) ⟨hx, hb, hml, hown, hts⟩ (c_X1_gives_34 l g z I2 11 p1 v3 (dkN_lit (x := 11) (11) rfl) dp1 dv3 hO) (cwV 3 hts gX1_gives_X1_gives rfl rfl rfl (by decide +kernel) ⟨Nat.le_of_ble_eq_true rfl, Nat.le_of_ble_eq_true rfl⟩) (dk_at338 hW) rfl hK hT hW hS rfl hl.1 rfl (Nat.le_of_ble_eq_true rfl) dX1_gives_131 ⟨Nat.zero_le _, Nat.zero_le _⟩ (fun v17 I17 H17 L17 hp17 hW hS => ?_)
          obtain ⟨hF17, hO, hc17⟩ := hp17
          have hF := dkF_call hF hF17 rfl
          obtain ⟨_, f17_338_2, -⟩ := hc17
          refine lv_ineg hx hb dX1_gives_134 ?_
          refine lv_topi (fun v18 ev18 => ?_)
          exact W.iret (v := v18) hx hb hr (fun t ht hW9 => ⟨⟨v18, I17, rfl, ⟨hF, hO, ⟨trivial, (show dkN [(1, 16)] (I17 338 2) from dkN_sub f17_338_2 rfl), trivial⟩⟩, dkW_eq ht hW⟩, hS.F ht⟩) hS.2.2 dX1_gives_135
        ·
          have d19 : dkN [(13, 14)] p0 := dkN_ne1 (12) d14 (dkN_lit (x := 12) (12) rfl) (dk_ne c15) rfl
          by_cases c20 : p0 = 13
          ·
            have qc20 : p0.toInt = 13 := by rw [c20]; rfl
            have d21 : dkN [(13, 13)] p0 := dkN_lit (13) qc20
            refine lv_tableIn (tgt := 136) hx hb dX1_gives_19 (by rw [qc20]; decide) (by rw [qc20]; decide) (by rw [qc20]; rfl) (by decide) ?_
            refine lv_aload_n hx hb dX1_gives_136 rfl (lv_at hl 1 rfl) ?_
            refine lv_bipush (v := 10) hx hb dX1_gives_137 (by decide) ?_
            refine lv_iload_n hx hb dX1_gives_139 rfl (lv_at hl 3 rfl) ?_
            refine lv_iload hx hb dX1_gives_140 (lv_at hl 0 rfl) ?_
            refine dk_Vi (As := [.int 10, .int p1, .int v3]) (rest := []) ⟨hx, hb, hml, hown, hts⟩ (c_X1_gives_24 l g z I2 10 p1 v3 (dkN_lit (x := 10) (10) rfl) dp1 dv3 hO) (cwV 3 hts gX1_gives_X1_gives rfl rfl rfl (by decide +kernel) ⟨Nat.le_of_ble_eq_true rfl, Nat.le_of_ble_eq_true rfl⟩) (dk_at338 hW) rfl hK hT hW hS rfl hl.1 rfl (Nat.le_of_ble_eq_true rfl) dX1_gives_142 ⟨Nat.zero_le _, Nat.zero_le _⟩ (fun v22 I22 H22 L22 hp22 hW hS => ?_)
            obtain ⟨hF22, hO, hc22⟩ := hp22
            have hF := dkF_call hF hF22 rfl
            obtain ⟨_, f22_338_2, -⟩ := hc22
            refine lv_bipush (v := 100) hx hb dX1_gives_145 (by decide) ?_
            refine lv_isub hx hb dX1_gives_147 ?_
            refine lv_topi (fun v23 ev23 => ?_)
            exact W.iret (v := v23) hx hb hr (fun t ht hW9 => ⟨⟨v23, I22, rfl, ⟨hF, hO, ⟨trivial, (show dkN [(1, 16)] (I22 338 2) from dkN_sub f22_338_2 rfl), trivial⟩⟩, dkW_eq ht hW⟩, hS.F ht⟩) hS.2.2 dX1_gives_148
          ·
            have d24 : dkN [(14, 14)] p0 := dkN_ne1 (13) d19 (dkN_lit (x := 13) (13) rfl) (dk_ne c20) rfl
            by_cases c25 : p0 = 14
            ·
              have qc25 : p0.toInt = 14 := by rw [c25]; rfl
              have d26 : dkN [(14, 14)] p0 := dkN_lit (14) qc25
              refine lv_tableIn (tgt := 149) hx hb dX1_gives_19 (by rw [qc25]; decide) (by rw [qc25]; decide) (by rw [qc25]; rfl) (by decide) ?_
              refine lv_iconst (v := 2) hx hb dX1_gives_149 (by decide) ?_
              refine lv_aload_n hx hb dX1_gives_150 rfl (lv_at hl 1 rfl) ?_
              refine lv_bipush (v := 13) hx hb dX1_gives_151 (by decide) ?_
              refine lv_iload_n hx hb dX1_gives_153 rfl (lv_at hl 3 rfl) ?_
              refine lv_iload hx hb dX1_gives_154 (lv_at hl 0 rfl) ?_
              refine dk_Vi (As := [.int 13, .int p1, .int v3]) (rest := [.int 2]) ⟨hx, hb, hml, hown, hts⟩ (c_X1_gives_35 l g z I2 13 p1 v3 (dkN_lit (x := 13) (13) rfl) dp1 dv3 hO) (cwV 3 hts gX1_gives_X1_gives rfl rfl rfl (by decide +kernel) ⟨Nat.le_of_ble_eq_true rfl, Nat.le_of_ble_eq_true rfl⟩) (dk_at338 hW) rfl hK hT hW hS rfl hl.1 rfl (Nat.le_of_ble_eq_true rfl) dX1_gives_156 ⟨Nat.zero_le _, Nat.zero_le _⟩ (fun v27 I27 H27 L27 hp27 hW hS => ?_)
              obtain ⟨hF27, hO, hc27⟩ := hp27
              have hF := dkF_call hF hF27 rfl
              obtain ⟨_, f27_338_2, -⟩ := hc27
              refine lv_imul hx hb dX1_gives_159 ?_
              refine lv_topi (fun v28 ev28 => ?_)
              exact W.iret (v := v28) hx hb hr (fun t ht hW9 => ⟨⟨v28, I27, rfl, ⟨hF, hO, ⟨trivial, (show dkN [(1, 16)] (I27 338 2) from dkN_sub f27_338_2 rfl), trivial⟩⟩, dkW_eq ht hW⟩, hS.F ht⟩) hS.2.2 dX1_gives_160
            ·
              exact (dkN_nil (show dkN [] p0 from dkN_ne1 (14) d24 (dkN_lit (x := 14) (14) rfl) (dk_ne c25) rfl)).elim
  ·
    exact (dkN_nil (show dkN [] p2 from dkN_le2 1 (dkN_lit (x := 5) (5) rfl) dp2 (dkc_nle c1) rfl)).elim
set_option maxHeartbeats 4000000 in
set_option maxRecDepth 100000 in
theorem c_X1_gives_0 (l : Launch) (g : dkG) (z : Nat) (I0 : dkI) (p0 : Int32) (p1 : Int32) (p2 : Int32) (dp0 : dkN [(10, 14), (20, 24)] p0) (dp1 : dkN [(0, 5)] p1) (dp2 : dkN [(1, 1)] p2)  (hO : dkOk I0) : Met l yX1_gives wsX1_gives (dkR 5) (dkPc g z [.ref (z + 338), .int p0, .int p1, .int p2] I0) (dkQi g z (fun r I1 => dkF [(338, 338, 2, 2), (339, 339, 0, 15)] I0 I1 ∧ dkOk I1 ∧ ((True ∧ dkN [(1, 16)] (I1 338 2) ∧ True)))) 0 0 (dkA z) := by
  refine Met.ofW (cc := cX1_gives) (maxL := 5) (ret := (some .int)) (by decide) rfl ?_
  intro p e s m args below meth c s₁ B hml hv
  obtain ⟨ha, hW, hK, hT⟩ := hv
  have hx := B.exec
  have hb := B.bytes
  have hr := B.returns
  have hts := atoms_spec (ws := wsX1_gives) B.pre
  have hown : s.vm.findClass RX1 = some m.cls := findClass_of_methodNamed B.named
  have hlocks := B.notSynchronized
  have hS : va_S (dkA z) s.heap s.heap [] := va_S.rf
  have hF : dkF [(338, 338, 2, 2), (339, 339, 0, 15)] I0 I0 := dkF_rf _ _
  have hl := lv_entry ([.ref (z + 338), .int p0, .int p1, .int p2]) (n := 5) (Nat.le_of_ble_eq_true rfl)
  have hgo : entryFrame m args 5 = entryFrame m ([.ref (z + 338), .int p0, .int p1, .int p2] : List Value).toArray 5 := by rw [ha]
  rw [hgo, lg_entry_eq]
  generalize (lg_sl ([.ref (z + 338), .int p0, .int p1, .int p2]) ++ List.replicate (5 - (lg_sl ([.ref (z + 338), .int p0, .int p1, .int p2])).length) Slot.unset).toArray = ls at hl ⊢
  have hl : lv_has ls 5 [(0, .ref (z + 338)), (1, .int p0), (2, .int p1), (3, .int p2)] := hl
  refine lv_iload_n hx hb dX1_gives_0 rfl (lv_at hl 3 rfl) ?_
  refine lv_iconst (v := 5) hx hb dX1_gives_1 (by decide) ?_
  refine lv_icmp_le (tgt := 8) hx hb dX1_gives_2 (by decide) (fun c1 => ?_) (fun c1 => ?_)
  ·
    refine lv_aload_n hx hb dX1_gives_8 rfl (lv_at hl 0 rfl) ?_
    refine lv_iload_n hx hb dX1_gives_9 rfl (lv_at hl 1 rfl) ?_
    refine dk_Vv (As := [.int p0]) (rest := []) ⟨hx, hb, hml, hown, hts⟩ (c_X1_begins_0 l g z I0 p0 dp0 hO) (cwV 1 hts gX1_gives_X1_begins rfl rfl rfl (by decide +kernel) ⟨Nat.le_of_ble_eq_true rfl, Nat.le_of_ble_eq_true rfl⟩) (dk_at338 hW) rfl hK hT hW hS rfl hl.1 rfl (Nat.le_of_ble_eq_true rfl) dX1_gives_10 ⟨Nat.zero_le _, Nat.zero_le _⟩ (fun I2 H2 L2 hp2 hW hS => ?_)
    obtain ⟨hF2, hO, hc2⟩ := hp2
    have hF := dkF_call hF hF2 rfl
    obtain ⟨f2_338_2, -⟩ := hc2
    refine lv_iload_n hx hb dX1_gives_13 rfl (lv_at hl 3 rfl) ?_
    refine lv_iconst (v := 1) hx hb dX1_gives_14 (by decide) ?_
    refine lv_iadd hx hb dX1_gives_15 ?_
    refine lv_topi (fun v3 ev3 => ?_)
    have dv3 : dkN [(2, 2)] v3 := by rw [ev3]; exact dkN_add dp2 (dkN_lit (x := 1) (1) rfl) rfl
    refine lv_istore (lv' := [(4, .int v3), (0, .ref (z + 338)), (1, .int p0), (2, .int p1), (3, .int p2)]) hx hb dX1_gives_16 hl (by decide) rfl (fun ls hl => ?_)
    refine lv_iload_n hx hb dX1_gives_18 rfl (lv_at hl 2 rfl) ?_
    by_cases c4 : p0 = 10
    ·
      have qc4 : p0.toInt = 10 := by rw [c4]; rfl
      have d5 : dkN [(10, 10)] p0 := dkN_lit (10) qc4
      refine lv_tableIn (tgt := 92) hx hb dX1_gives_19 (by rw [qc4]; decide) (by rw [qc4]; decide) (by rw [qc4]; rfl) (by decide) ?_
      refine lv_aload_n hx hb dX1_gives_92 rfl (lv_at hl 1 rfl) ?_
      refine dk_get (k := 338) hx hb hts iX1_gives_1 hown hK (dk_at338 hW) rfl 0 (by decide) (hts (.fieldLink RX1 15 "DogKings$Asks" "now" "LDogKings$Town;") (List.mem_of_getElem? (i := 2) rfl)) rfl dX1_gives_93 ?_
      refine dk_get (k := 25) hx hb hts iX1_gives_4 hown hK (dk_at25 hW) rfl 13 (by decide) (hts (.fieldLink RX1 51 "DogKings$Town" "dogHome" "[I") (List.mem_of_getElem? (i := 3) rfl)) rfl dX1_gives_96 ?_
      refine lv_iload_n hx hb dX1_gives_99 rfl (lv_at hl 3 rfl) ?_
      refine dk_ild (k := 33) hx hb hK (dk_at33 hW) (dkN_in (n := 6) dp1 rfl) dX1_gives_100 ?_
      refine lv_topi (fun v6 ev6 => ?_)
      exact W.iret (v := v6) hx hb hr (fun t ht hW9 => ⟨⟨v6, I2, rfl, ⟨hF, hO, ⟨trivial, (show dkN [(1, 16)] (I2 338 2) from dkN_sub f2_338_2 rfl), trivial⟩⟩, dkW_eq ht hW⟩, hS.F ht⟩) hS.2.2 dX1_gives_101
    ·
      have d7 : dkN [(11, 14), (20, 24)] p0 := dkN_ne1 (10) dp0 (dkN_lit (x := 10) (10) rfl) (dk_ne c4) rfl
      by_cases c8 : p0 = 11
      ·
        have qc8 : p0.toInt = 11 := by rw [c8]; rfl
        have d9 : dkN [(11, 11)] p0 := dkN_lit (11) qc8
        refine lv_tableIn (tgt := 102) hx hb dX1_gives_19 (by rw [qc8]; decide) (by rw [qc8]; decide) (by rw [qc8]; rfl) (by decide) ?_
        refine lv_aload_n hx hb dX1_gives_102 rfl (lv_at hl 1 rfl) ?_
        refine lv_bipush (v := 10) hx hb dX1_gives_103 (by decide) ?_
        refine lv_iload_n hx hb dX1_gives_105 rfl (lv_at hl 3 rfl) ?_
        refine lv_iload hx hb dX1_gives_106 (lv_at hl 0 rfl) ?_
        refine dk_Vi (As := [.int 10, .int p1, .int v3]) (rest := []) ⟨hx, hb, hml, hown, hts⟩ (c_X1_gives_1 l g z I2 10 p1 v3 (dkN_lit (x := 10) (10) rfl) dp1 dv3 hO) (cwV 3 hts gX1_gives_X1_gives rfl rfl rfl (by decide +kernel) ⟨Nat.le_of_ble_eq_true rfl, Nat.le_of_ble_eq_true rfl⟩) (dk_at338 hW) rfl hK hT hW hS rfl hl.1 rfl (Nat.le_of_ble_eq_true rfl) dX1_gives_108 ⟨Nat.zero_le _, Nat.zero_le _⟩ (fun v10 I10 H10 L10 hp10 hW hS => ?_)
        obtain ⟨hF10, hO, hc10⟩ := hp10
        have hF := dkF_call hF hF10 rfl
        obtain ⟨_, f10_338_2, -⟩ := hc10
        refine lv_aload_n hx hb dX1_gives_111 rfl (lv_at hl 1 rfl) ?_
        refine lv_aload_n hx hb dX1_gives_112 rfl (lv_at hl 1 rfl) ?_
        refine lv_iload_n hx hb dX1_gives_113 rfl (lv_at hl 3 rfl) ?_
        refine dk_Vi (As := [.int p1]) (rest := [.ref (z + 338), .int v10]) ⟨hx, hb, hml, hown, hts⟩ (c_X1_markBody_0 l g z I10 p1 dp1 hO) (cwV 1 hts gX1_gives_X1_markBody rfl rfl rfl (by decide +kernel) ⟨Nat.le_of_ble_eq_true rfl, Nat.le_of_ble_eq_true rfl⟩) (dk_at338 hW) rfl hK hT hW hS rfl hl.1 rfl (Nat.le_of_ble_eq_true rfl) dX1_gives_114 ⟨Nat.zero_le _, Nat.zero_le _⟩ (fun v11 I11 H11 L11 hp11 hW hS => ?_)
        obtain ⟨hF11, hO, hc11⟩ := hp11
        have hF := dkF_call hF hF11 rfl
        obtain ⟨dv11, -⟩ := hc11
        refine lv_iload_n hx hb dX1_gives_117 rfl (lv_at hl 3 rfl) ?_
        refine lv_iload hx hb dX1_gives_118 (lv_at hl 0 rfl) ?_
        refine dk_Vi (As := [.int v11, .int p1, .int v3]) (rest := [.int v10]) ⟨hx, hb, hml, hown, hts⟩ (c_X1_gives_2 l g z I11 v11 p1 v3 dv11 dp1 dv3 hO) (cwV 3 hts gX1_gives_X1_gives rfl rfl rfl (by decide +kernel) ⟨Nat.le_of_ble_eq_true rfl, Nat.le_of_ble_eq_true rfl⟩) (dk_at338 hW) rfl hK hT hW hS rfl hl.1 rfl (Nat.le_of_ble_eq_true rfl) dX1_gives_120 ⟨Nat.zero_le _, Nat.zero_le _⟩ (fun v12 I12 H12 L12 hp12 hW hS => ?_)
        obtain ⟨hF12, hO, hc12⟩ := hp12
        have hF := dkF_call hF hF12 rfl
        obtain ⟨_, f12_338_2, -⟩ := hc12
        refine lv_iadd hx hb dX1_gives_123 ?_
        refine lv_topi (fun v13 ev13 => ?_)
        exact W.iret (v := v13) hx hb hr (fun t ht hW9 => ⟨⟨v13, I12, rfl, ⟨hF, hO, ⟨trivial, (show dkN [(1, 16)] (I12 338 2) from dkN_sub f12_338_2 rfl), trivial⟩⟩, dkW_eq ht hW⟩, hS.F ht⟩) hS.2.2 dX1_gives_124
      ·
        have d14 : dkN [(12, 14), (20, 24)] p0 := dkN_ne1 (11) d7 (dkN_lit (x := 11) (11) rfl) (dk_ne c8) rfl
        by_cases c15 : p0 = 12
        ·
          have qc15 : p0.toInt = 12 := by rw [c15]; rfl
          have d16 : dkN [(12, 12)] p0 := dkN_lit (12) qc15
          refine lv_tableIn (tgt := 125) hx hb dX1_gives_19 (by rw [qc15]; decide) (by rw [qc15]; decide) (by rw [qc15]; rfl) (by decide) ?_
          refine lv_aload_n hx hb dX1_gives_125 rfl (lv_at hl 1 rfl) ?_
          refine lv_bipush (v := 11) hx hb dX1_gives_126 (by decide) ?_
          refine lv_iload_n hx hb dX1_gives_128 rfl (lv_at hl 3 rfl) ?_
          refine lv_iload hx hb dX1_gives_129 (lv_at hl 0 rfl) ?_
          refine dk_Vi (As := [.int 11, .int p1, .int v3]) (rest := []) ⟨hx, hb, hml, hown, hts⟩ (c_X1_gives_23 l g z I2 11 p1 v3 (dkN_lit (x := 11) (11) rfl) dp1 dv3 hO) (cwV 3 hts gX1_gives_X1_gives rfl rfl rfl (by decide +kernel) ⟨Nat.le_of_ble_eq_true rfl, Nat.le_of_ble_eq_true rfl⟩) (dk_at338 hW) rfl hK hT hW hS rfl hl.1 rfl (Nat.le_of_ble_eq_true rfl) dX1_gives_131 ⟨Nat.zero_le _, Nat.zero_le _⟩ (fun v17 I17 H17 L17 hp17 hW hS => ?_)
          obtain ⟨hF17, hO, hc17⟩ := hp17
          have hF := dkF_call hF hF17 rfl
          obtain ⟨_, f17_338_2, -⟩ := hc17
          refine lv_ineg hx hb dX1_gives_134 ?_
          refine lv_topi (fun v18 ev18 => ?_)
          exact W.iret (v := v18) hx hb hr (fun t ht hW9 => ⟨⟨v18, I17, rfl, ⟨hF, hO, ⟨trivial, (show dkN [(1, 16)] (I17 338 2) from dkN_sub f17_338_2 rfl), trivial⟩⟩, dkW_eq ht hW⟩, hS.F ht⟩) hS.2.2 dX1_gives_135
        ·
          have d19 : dkN [(13, 14), (20, 24)] p0 := dkN_ne1 (12) d14 (dkN_lit (x := 12) (12) rfl) (dk_ne c15) rfl
          by_cases c20 : p0 = 13
          ·
            have qc20 : p0.toInt = 13 := by rw [c20]; rfl
            have d21 : dkN [(13, 13)] p0 := dkN_lit (13) qc20
            refine lv_tableIn (tgt := 136) hx hb dX1_gives_19 (by rw [qc20]; decide) (by rw [qc20]; decide) (by rw [qc20]; rfl) (by decide) ?_
            refine lv_aload_n hx hb dX1_gives_136 rfl (lv_at hl 1 rfl) ?_
            refine lv_bipush (v := 10) hx hb dX1_gives_137 (by decide) ?_
            refine lv_iload_n hx hb dX1_gives_139 rfl (lv_at hl 3 rfl) ?_
            refine lv_iload hx hb dX1_gives_140 (lv_at hl 0 rfl) ?_
            refine dk_Vi (As := [.int 10, .int p1, .int v3]) (rest := []) ⟨hx, hb, hml, hown, hts⟩ (c_X1_gives_1 l g z I2 10 p1 v3 (dkN_lit (x := 10) (10) rfl) dp1 dv3 hO) (cwV 3 hts gX1_gives_X1_gives rfl rfl rfl (by decide +kernel) ⟨Nat.le_of_ble_eq_true rfl, Nat.le_of_ble_eq_true rfl⟩) (dk_at338 hW) rfl hK hT hW hS rfl hl.1 rfl (Nat.le_of_ble_eq_true rfl) dX1_gives_142 ⟨Nat.zero_le _, Nat.zero_le _⟩ (fun v22 I22 H22 L22 hp22 hW hS => ?_)
            obtain ⟨hF22, hO, hc22⟩ := hp22
            have hF := dkF_call hF hF22 rfl
            obtain ⟨_, f22_338_2, -⟩ := hc22
            refine lv_bipush (v := 100) hx hb dX1_gives_145 (by decide) ?_
            refine lv_isub hx hb dX1_gives_147 ?_
            refine lv_topi (fun v23 ev23 => ?_)
            exact W.iret (v := v23) hx hb hr (fun t ht hW9 => ⟨⟨v23, I22, rfl, ⟨hF, hO, ⟨trivial, (show dkN [(1, 16)] (I22 338 2) from dkN_sub f22_338_2 rfl), trivial⟩⟩, dkW_eq ht hW⟩, hS.F ht⟩) hS.2.2 dX1_gives_148
          ·
            have d24 : dkN [(14, 14), (20, 24)] p0 := dkN_ne1 (13) d19 (dkN_lit (x := 13) (13) rfl) (dk_ne c20) rfl
            by_cases c25 : p0 = 14
            ·
              have qc25 : p0.toInt = 14 := by rw [c25]; rfl
              have d26 : dkN [(14, 14)] p0 := dkN_lit (14) qc25
              refine lv_tableIn (tgt := 149) hx hb dX1_gives_19 (by rw [qc25]; decide) (by rw [qc25]; decide) (by rw [qc25]; rfl) (by decide) ?_
              refine lv_iconst (v := 2) hx hb dX1_gives_149 (by decide) ?_
              refine lv_aload_n hx hb dX1_gives_150 rfl (lv_at hl 1 rfl) ?_
              refine lv_bipush (v := 13) hx hb dX1_gives_151 (by decide) ?_
              refine lv_iload_n hx hb dX1_gives_153 rfl (lv_at hl 3 rfl) ?_
              refine lv_iload hx hb dX1_gives_154 (lv_at hl 0 rfl) ?_
              refine dk_Vi (As := [.int 13, .int p1, .int v3]) (rest := [.int 2]) ⟨hx, hb, hml, hown, hts⟩ (c_X1_gives_30 l g z I2 13 p1 v3 (dkN_lit (x := 13) (13) rfl) dp1 dv3 hO) (cwV 3 hts gX1_gives_X1_gives rfl rfl rfl (by decide +kernel) ⟨Nat.le_of_ble_eq_true rfl, Nat.le_of_ble_eq_true rfl⟩) (dk_at338 hW) rfl hK hT hW hS rfl hl.1 rfl (Nat.le_of_ble_eq_true rfl) dX1_gives_156 ⟨Nat.zero_le _, Nat.zero_le _⟩ (fun v27 I27 H27 L27 hp27 hW hS => ?_)
              obtain ⟨hF27, hO, hc27⟩ := hp27
              have hF := dkF_call hF hF27 rfl
              obtain ⟨_, f27_338_2, -⟩ := hc27
              refine lv_imul hx hb dX1_gives_159 ?_
              refine lv_topi (fun v28 ev28 => ?_)
              exact W.iret (v := v28) hx hb hr (fun t ht hW9 => ⟨⟨v28, I27, rfl, ⟨hF, hO, ⟨trivial, (show dkN [(1, 16)] (I27 338 2) from dkN_sub f27_338_2 rfl), trivial⟩⟩, dkW_eq ht hW⟩, hS.F ht⟩) hS.2.2 dX1_gives_160
            ·
              have d29 : dkN [(20, 24)] p0 := dkN_ne1 (14) d24 (dkN_lit (x := 14) (14) rfl) (dk_ne c25) rfl
              by_cases c30 : p0 = 20
              ·
                have qc30 : p0.toInt = 20 := by rw [c30]; rfl
                have d31 : dkN [(20, 20)] p0 := dkN_lit (20) qc30
                refine lv_tableIn (tgt := 161) hx hb dX1_gives_19 (by rw [qc30]; decide) (by rw [qc30]; decide) (by rw [qc30]; rfl) (by decide) ?_
                refine lv_iload_n hx hb dX1_gives_161 rfl (lv_at hl 3 rfl) ?_
                exact W.iret (v := p1) hx hb hr (fun t ht hW9 => ⟨⟨p1, I2, rfl, ⟨hF, hO, ⟨trivial, (show dkN [(1, 16)] (I2 338 2) from dkN_sub f2_338_2 rfl), trivial⟩⟩, dkW_eq ht hW⟩, hS.F ht⟩) hS.2.2 dX1_gives_162
              ·
                have d32 : dkN [(21, 24)] p0 := dkN_ne1 (20) d29 (dkN_lit (x := 20) (20) rfl) (dk_ne c30) rfl
                by_cases c33 : p0 = 21
                ·
                  have qc33 : p0.toInt = 21 := by rw [c33]; rfl
                  have d34 : dkN [(21, 21)] p0 := dkN_lit (21) qc33
                  refine lv_tableIn (tgt := 163) hx hb dX1_gives_19 (by rw [qc33]; decide) (by rw [qc33]; decide) (by rw [qc33]; rfl) (by decide) ?_
                  refine lv_aload_n hx hb dX1_gives_163 rfl (lv_at hl 1 rfl) ?_
                  refine lv_bipush (v := 20) hx hb dX1_gives_164 (by decide) ?_
                  refine lv_iload_n hx hb dX1_gives_166 rfl (lv_at hl 3 rfl) ?_
                  refine lv_iload hx hb dX1_gives_167 (lv_at hl 0 rfl) ?_
                  refine dk_Vi (As := [.int 20, .int p1, .int v3]) (rest := []) ⟨hx, hb, hml, hown, hts⟩ (c_X1_gives_31 l g z I2 20 p1 v3 (dkN_lit (x := 20) (20) rfl) dp1 dv3 hO) (cwV 3 hts gX1_gives_X1_gives rfl rfl rfl (by decide +kernel) ⟨Nat.le_of_ble_eq_true rfl, Nat.le_of_ble_eq_true rfl⟩) (dk_at338 hW) rfl hK hT hW hS rfl hl.1 rfl (Nat.le_of_ble_eq_true rfl) dX1_gives_169 ⟨Nat.zero_le _, Nat.zero_le _⟩ (fun v35 I35 H35 L35 hp35 hW hS => ?_)
                  obtain ⟨hF35, hO, ev35, hc35⟩ := hp35
                  have hF := dkF_call hF hF35 rfl
                  obtain ⟨dv35, f35_338_2, -⟩ := hc35
                  rw [ev35]
                  refine lv_aload_n hx hb dX1_gives_172 rfl (lv_at hl 1 rfl) ?_
                  refine dk_get (k := 338) hx hb hts iX1_gives_1 hown hK (dk_at338 hW) rfl 0 (by decide) (hts (.fieldLink RX1 15 "DogKings$Asks" "now" "LDogKings$Town;") (List.mem_of_getElem? (i := 2) rfl)) rfl dX1_gives_173 ?_
                  refine dk_get (k := 25) hx hb hts iX1_gives_4 hown hK (dk_at25 hW) rfl 14 (by decide) (hts (.fieldLink RX1 54 "DogKings$Town" "dogAt" "[I") (List.mem_of_getElem? (i := 4) rfl)) rfl dX1_gives_176 ?_
                  refine lv_iload_n hx hb dX1_gives_179 rfl (lv_at hl 3 rfl) ?_
                  refine dk_ild (k := 34) hx hb hK (dk_at34 hW) (dkN_in (n := 6) dp1 rfl) dX1_gives_180 ?_
                  refine lv_topi (fun v36 ev36 => ?_)
                  refine lv_iadd hx hb dX1_gives_181 ?_
                  refine lv_topi (fun v37 ev37 => ?_)
                  exact W.iret (v := v37) hx hb hr (fun t ht hW9 => ⟨⟨v37, I35, rfl, ⟨hF, hO, ⟨trivial, (show dkN [(1, 16)] (I35 338 2) from dkN_sub f35_338_2 rfl), trivial⟩⟩, dkW_eq ht hW⟩, hS.F ht⟩) hS.2.2 dX1_gives_182
                ·
                  have d38 : dkN [(22, 24)] p0 := dkN_ne1 (21) d32 (dkN_lit (x := 21) (21) rfl) (dk_ne c33) rfl
                  by_cases c39 : p0 = 22
                  ·
                    have qc39 : p0.toInt = 22 := by rw [c39]; rfl
                    have d40 : dkN [(22, 22)] p0 := dkN_lit (22) qc39
                    refine lv_tableIn (tgt := 183) hx hb dX1_gives_19 (by rw [qc39]; decide) (by rw [qc39]; decide) (by rw [qc39]; rfl) (by decide) ?_
                    refine lv_aload_n hx hb dX1_gives_183 rfl (lv_at hl 1 rfl) ?_
                    refine lv_bipush (v := 21) hx hb dX1_gives_184 (by decide) ?_
                    refine lv_iload_n hx hb dX1_gives_186 rfl (lv_at hl 3 rfl) ?_
                    refine lv_iload hx hb dX1_gives_187 (lv_at hl 0 rfl) ?_
                    refine dk_Vi (As := [.int 21, .int p1, .int v3]) (rest := []) ⟨hx, hb, hml, hown, hts⟩ (c_X1_gives_32 l g z I2 21 p1 v3 (dkN_lit (x := 21) (21) rfl) dp1 dv3 hO) (cwV 3 hts gX1_gives_X1_gives rfl rfl rfl (by decide +kernel) ⟨Nat.le_of_ble_eq_true rfl, Nat.le_of_ble_eq_true rfl⟩) (dk_at338 hW) rfl hK hT hW hS rfl hl.1 rfl (Nat.le_of_ble_eq_true rfl) dX1_gives_189 ⟨Nat.zero_le _, Nat.zero_le _⟩ (fun v41 I41 H41 L41 hp41 hW hS => ?_)
                    obtain ⟨hF41, hO, hc41⟩ := hp41
                    have hF := dkF_call hF hF41 rfl
                    obtain ⟨_, f41_338_2, -⟩ := hc41
                    refine lv_sipush (v := 1000) hx hb dX1_gives_192 (by decide) ?_
                    refine lv_isub hx hb dX1_gives_195 ?_
                    refine lv_topi (fun v42 ev42 => ?_)
                    exact W.iret (v := v42) hx hb hr (fun t ht hW9 => ⟨⟨v42, I41, rfl, ⟨hF, hO, ⟨trivial, (show dkN [(1, 16)] (I41 338 2) from dkN_sub f41_338_2 rfl), trivial⟩⟩, dkW_eq ht hW⟩, hS.F ht⟩) hS.2.2 dX1_gives_196
                  ·
                    have d43 : dkN [(23, 24)] p0 := dkN_ne1 (22) d38 (dkN_lit (x := 22) (22) rfl) (dk_ne c39) rfl
                    by_cases c44 : p0 = 23
                    ·
                      have qc44 : p0.toInt = 23 := by rw [c44]; rfl
                      have d45 : dkN [(23, 23)] p0 := dkN_lit (23) qc44
                      refine lv_tableIn (tgt := 197) hx hb dX1_gives_19 (by rw [qc44]; decide) (by rw [qc44]; decide) (by rw [qc44]; rfl) (by decide) ?_
                      refine lv_aload_n hx hb dX1_gives_197 rfl (lv_at hl 1 rfl) ?_
                      refine lv_bipush (v := 20) hx hb dX1_gives_198 (by decide) ?_
                      refine lv_iload_n hx hb dX1_gives_200 rfl (lv_at hl 3 rfl) ?_
                      refine lv_iload hx hb dX1_gives_201 (lv_at hl 0 rfl) ?_
                      refine dk_Vi (As := [.int 20, .int p1, .int v3]) (rest := []) ⟨hx, hb, hml, hown, hts⟩ (c_X1_gives_31 l g z I2 20 p1 v3 (dkN_lit (x := 20) (20) rfl) dp1 dv3 hO) (cwV 3 hts gX1_gives_X1_gives rfl rfl rfl (by decide +kernel) ⟨Nat.le_of_ble_eq_true rfl, Nat.le_of_ble_eq_true rfl⟩) (dk_at338 hW) rfl hK hT hW hS rfl hl.1 rfl (Nat.le_of_ble_eq_true rfl) dX1_gives_203 ⟨Nat.zero_le _, Nat.zero_le _⟩ (fun v46 I46 H46 L46 hp46 hW hS => ?_)
                      obtain ⟨hF46, hO, ev46, hc46⟩ := hp46
                      have hF := dkF_call hF hF46 rfl
                      obtain ⟨dv46, f46_338_2, -⟩ := hc46
                      rw [ev46]
                      refine lv_aload_n hx hb dX1_gives_206 rfl (lv_at hl 1 rfl) ?_
                      refine lv_aload_n hx hb dX1_gives_207 rfl (lv_at hl 1 rfl) ?_
                      refine lv_iload_n hx hb dX1_gives_208 rfl (lv_at hl 3 rfl) ?_
                      refine dk_Vi (As := [.int p1]) (rest := [.ref (z + 338), .int p1]) ⟨hx, hb, hml, hown, hts⟩ (c_X1_sizeBody_0 l g z I46 p1 dp1 hO) (cwV 1 hts gX1_gives_X1_sizeBody rfl rfl rfl (by decide +kernel) ⟨Nat.le_of_ble_eq_true rfl, Nat.le_of_ble_eq_true rfl⟩) (dk_at338 hW) rfl hK hT hW hS rfl hl.1 rfl (Nat.le_of_ble_eq_true rfl) dX1_gives_209 ⟨Nat.zero_le _, Nat.zero_le _⟩ (fun v47 I47 H47 L47 hp47 hW hS => ?_)
                      obtain ⟨hF47, hO, hc47⟩ := hp47
                      have hF := dkF_call hF hF47 rfl
                      obtain ⟨dv47, -⟩ := hc47
                      refine lv_iload_n hx hb dX1_gives_212 rfl (lv_at hl 3 rfl) ?_
                      refine lv_iload hx hb dX1_gives_213 (lv_at hl 0 rfl) ?_
                      refine dk_Vi (As := [.int v47, .int p1, .int v3]) (rest := [.int p1]) ⟨hx, hb, hml, hown, hts⟩ (c_X1_gives_33 l g z I47 v47 p1 v3 dv47 dp1 dv3 hO) (cwV 3 hts gX1_gives_X1_gives rfl rfl rfl (by decide +kernel) ⟨Nat.le_of_ble_eq_true rfl, Nat.le_of_ble_eq_true rfl⟩) (dk_at338 hW) rfl hK hT hW hS rfl hl.1 rfl (Nat.le_of_ble_eq_true rfl) dX1_gives_215 ⟨Nat.zero_le _, Nat.zero_le _⟩ (fun v48 I48 H48 L48 hp48 hW hS => ?_)
                      obtain ⟨hF48, hO, hc48⟩ := hp48
                      have hF := dkF_call hF hF48 rfl
                      obtain ⟨_, f48_338_2, -⟩ := hc48
                      refine lv_isub hx hb dX1_gives_218 ?_
                      refine lv_topi (fun v49 ev49 => ?_)
                      exact W.iret (v := v49) hx hb hr (fun t ht hW9 => ⟨⟨v49, I48, rfl, ⟨hF, hO, ⟨trivial, (show dkN [(1, 16)] (I48 338 2) from dkN_sub f48_338_2 rfl), trivial⟩⟩, dkW_eq ht hW⟩, hS.F ht⟩) hS.2.2 dX1_gives_219
                    ·
                      have d50 : dkN [(24, 24)] p0 := dkN_ne1 (23) d43 (dkN_lit (x := 23) (23) rfl) (dk_ne c44) rfl
                      by_cases c51 : p0 = 24
                      ·
                        have qc51 : p0.toInt = 24 := by rw [c51]; rfl
                        have d52 : dkN [(24, 24)] p0 := dkN_lit (24) qc51
                        refine lv_tableIn (tgt := 220) hx hb dX1_gives_19 (by rw [qc51]; decide) (by rw [qc51]; decide) (by rw [qc51]; rfl) (by decide) ?_
                        refine lv_iconst (v := 2) hx hb dX1_gives_220 (by decide) ?_
                        refine lv_aload_n hx hb dX1_gives_221 rfl (lv_at hl 1 rfl) ?_
                        refine lv_bipush (v := 21) hx hb dX1_gives_222 (by decide) ?_
                        refine lv_iload_n hx hb dX1_gives_224 rfl (lv_at hl 3 rfl) ?_
                        refine lv_iload hx hb dX1_gives_225 (lv_at hl 0 rfl) ?_
                        refine dk_Vi (As := [.int 21, .int p1, .int v3]) (rest := [.int 2]) ⟨hx, hb, hml, hown, hts⟩ (c_X1_gives_32 l g z I2 21 p1 v3 (dkN_lit (x := 21) (21) rfl) dp1 dv3 hO) (cwV 3 hts gX1_gives_X1_gives rfl rfl rfl (by decide +kernel) ⟨Nat.le_of_ble_eq_true rfl, Nat.le_of_ble_eq_true rfl⟩) (dk_at338 hW) rfl hK hT hW hS rfl hl.1 rfl (Nat.le_of_ble_eq_true rfl) dX1_gives_227 ⟨Nat.zero_le _, Nat.zero_le _⟩ (fun v53 I53 H53 L53 hp53 hW hS => ?_)
                        obtain ⟨hF53, hO, hc53⟩ := hp53
                        have hF := dkF_call hF hF53 rfl
                        obtain ⟨_, f53_338_2, -⟩ := hc53
                        refine lv_imul hx hb dX1_gives_230 ?_
                        refine lv_topi (fun v54 ev54 => ?_)
                        exact W.iret (v := v54) hx hb hr (fun t ht hW9 => ⟨⟨v54, I53, rfl, ⟨hF, hO, ⟨trivial, (show dkN [(1, 16)] (I53 338 2) from dkN_sub f53_338_2 rfl), trivial⟩⟩, dkW_eq ht hW⟩, hS.F ht⟩) hS.2.2 dX1_gives_231
                      ·
                        exact (dkN_nil (show dkN [] p0 from dkN_ne1 (24) d50 (dkN_lit (x := 24) (24) rfl) (dk_ne c51) rfl)).elim
  ·
    exact (dkN_nil (show dkN [] p2 from dkN_le2 1 (dkN_lit (x := 5) (5) rfl) dp2 (dkc_nle c1) rfl)).elim
set_option maxHeartbeats 4000000 in
set_option maxRecDepth 100000 in
theorem c_X1_answer_0 (l : Launch) (g : dkG) (z : Nat) (I0 : dkI) (p0 : Int32) (p1 : Int32) (dp0 : dkN [(0, 5)] p0) (dp1 : dkN [(0, 1)] p1)  (hO : dkOk I0) : Met l yX1_answer wsX1_answer (dkR 6) (dkPc g z [.ref (z + 338), .int p0, .int p1] I0) (dkQi g z (fun r I1 => dkF [(338, 338, 2, 2), (339, 339, 0, 15)] I0 I1 ∧ dkOk I1 ∧ ((True ∧ dkN [(1, 16)] (I1 338 2) ∧ True)))) 0 0 (dkA z) := by
  refine Met.ofW (cc := cX1_answer) (maxL := 3) (ret := (some .int)) (by decide) rfl ?_
  intro p e s m args below meth c s₁ B hml hv
  obtain ⟨ha, hW, hK, hT⟩ := hv
  have hx := B.exec
  have hb := B.bytes
  have hr := B.returns
  have hts := atoms_spec (ws := wsX1_answer) B.pre
  have hown : s.vm.findClass RX1 = some m.cls := findClass_of_methodNamed B.named
  have hlocks := B.notSynchronized
  have hS : va_S (dkA z) s.heap s.heap [] := va_S.rf
  have hF : dkF [(338, 338, 2, 2), (339, 339, 0, 15)] I0 I0 := dkF_rf _ _
  have hl := lv_entry ([.ref (z + 338), .int p0, .int p1]) (n := 3) (Nat.le_of_ble_eq_true rfl)
  have hgo : entryFrame m args 3 = entryFrame m ([.ref (z + 338), .int p0, .int p1] : List Value).toArray 3 := by rw [ha]
  rw [hgo, lg_entry_eq]
  generalize (lg_sl ([.ref (z + 338), .int p0, .int p1]) ++ List.replicate (3 - (lg_sl ([.ref (z + 338), .int p0, .int p1])).length) Slot.unset).toArray = ls at hl ⊢
  have hl : lv_has ls 3 [(0, .ref (z + 338)), (1, .int p0), (2, .int p1)] := hl
  have C23 : ∀ (I : dkI) (H : Heap) (locs : List Loc) (ls : Array Slot) (x23_s0 : Int32), dkW g z I H → va_S (dkA z) s.heap H locs → dkF [(338, 338, 2, 2), (339, 339, 0, 15)] I0 I → dkOk I → dkN [(10, 14), (20, 24)] x23_s0 → dkN [(0, 0)] (I 338 2) → lv_has ls 3 [(0, .ref (z + 338)), (1, .int p0), (2, .int p1)] → W p l e (headSpec wsX1_answer (dkR 6)).room s m args below meth c H locs 0 0 (MQ below (dkQi g z (fun r I1 => dkF [(338, 338, 2, 2), (339, 339, 0, 15)] I0 I1 ∧ dkOk I1 ∧ ((True ∧ dkN [(1, 16)] (I1 338 2) ∧ True)))) args s 0 0 (dkA z)) (F0 m 23 ls [.int x23_s0, .ref (z + 338)]) := by
    intro I23_ H locs ls x23_s0 hW hS hF_23 hO k23_0 f23_0 hl
    have hF := hF_23
    refine lv_iload_n hx hb dX1_answer_23 rfl (lv_at hl 1 rfl) ?_
    refine lv_iconst (v := 1) hx hb dX1_answer_24 (by decide) ?_
    refine dk_Vi (As := [.int x23_s0, .int p0, .int 1]) (rest := []) ⟨hx, hb, hml, hown, hts⟩ (c_X1_gives_0 l g z I23_ x23_s0 p0 1 k23_0 dp0 (dkN_lit (x := 1) (1) rfl) hO) (cwV 3 hts gX1_answer_X1_gives rfl rfl rfl (by decide +kernel) ⟨Nat.le_of_ble_eq_true rfl, Nat.le_of_ble_eq_true rfl⟩) (dk_at338 hW) rfl hK hT hW hS rfl hl.1 rfl (Nat.le_of_ble_eq_true rfl) dX1_answer_25 ⟨Nat.zero_le _, Nat.zero_le _⟩ (fun v1 I1 H1 L1 hp1 hW hS => ?_)
    obtain ⟨hF1, hO, hc1⟩ := hp1
    have hF := dkF_call hF hF1 rfl
    obtain ⟨_, f1_338_2, -⟩ := hc1
    exact W.iret (v := v1) hx hb hr (fun t ht hW9 => ⟨⟨v1, I1, rfl, ⟨hF, hO, ⟨trivial, (show dkN [(1, 16)] (I1 338 2) from dkN_sub f1_338_2 rfl), trivial⟩⟩, dkW_eq ht hW⟩, hS.F ht⟩) hS.2.2 dX1_answer_28
  refine lv_aload_n hx hb dX1_answer_0 rfl (lv_at hl 0 rfl) ?_
  refine lv_iconst (v := 0) hx hb dX1_answer_1 (by decide) ?_
  refine dk_put (k := 338) hx hb hts iX1_answer_1 tyX1 tyX1_ok nmX1 hown hK hW (dk_at338 hW) hS rfl 2 (by decide) (hts (.fieldLink RX1 19 "DogKings$Asks" "tracedCount" "I") (List.mem_of_getElem? (i := 1) rfl)) rfl rfl (Nat.le_of_ble_eq_true rfl) rfl dX1_answer_2 (fun I2 H2 L2 eI2 hW hS => ?_)
  have eI2 : I2 = dkU I0 338 2 0 := eI2
  have hO := dkO_set hO eI2 (dkN_sub (dkN_lit (x := 0) (0) rfl) rfl)
  have hF := dkF_set hF eI2 rfl
  refine lv_aload_n hx hb dX1_answer_5 rfl (lv_at hl 0 rfl) ?_
  refine lv_iload_n hx hb dX1_answer_6 rfl (lv_at hl 2 rfl) ?_
  refine lv_if_ne (tgt := 18) hx hb dX1_answer_7 (by decide) (fun c3 => ?_) (fun c3 => ?_)
  ·
    have d4 : dkN [(1, 1)] p1 := dkN_ne1 (0) dp1 (dkN_lit (x := 0) (0) rfl) (dk_ne c3) rfl
    refine lv_aload_n hx hb dX1_answer_18 rfl (lv_at hl 0 rfl) ?_
    refine lv_iload_n hx hb dX1_answer_19 rfl (lv_at hl 1 rfl) ?_
    refine dk_Vi (As := [.int p0]) (rest := [.ref (z + 338)]) ⟨hx, hb, hml, hown, hts⟩ (c_X1_markBody_0 l g z I2 p0 dp0 hO) (cwV 1 hts gX1_answer_X1_markBody rfl rfl rfl (by decide +kernel) ⟨Nat.le_of_ble_eq_true rfl, Nat.le_of_ble_eq_true rfl⟩) (dk_at338 hW) rfl hK hT hW hS rfl hl.1 rfl (Nat.le_of_ble_eq_true rfl) dX1_answer_20 ⟨Nat.zero_le _, Nat.zero_le _⟩ (fun v5 I5 H5 L5 hp5 hW hS => ?_)
    obtain ⟨hF5, hO, hc5⟩ := hp5
    have hF := dkF_call hF hF5 rfl
    obtain ⟨dv5, -⟩ := hc5
    exact C23 I5 _ _ ls v5 hW hS hF hO (dkN_sub dv5 rfl) (show dkN [(0, 0)] (I5 338 2) from dkN_sub (by rw [hF5 338 2 rfl]; exact (by rw [eI2, dkU_ss]; exact (dkN_lit (x := 0) (0) rfl))) rfl) (lv_sub hl [0, 1, 2] rfl)
  ·
    have d6 : dkN [(0, 0)] p1 := dkN_eq1 dp1 (dkN_lit (x := 0) (0) rfl) (congrArg Int32.toInt c3) rfl
    refine lv_aload_n hx hb dX1_answer_10 rfl (lv_at hl 0 rfl) ?_
    refine lv_iload_n hx hb dX1_answer_11 rfl (lv_at hl 1 rfl) ?_
    refine dk_Vi (As := [.int p0]) (rest := [.ref (z + 338)]) ⟨hx, hb, hml, hown, hts⟩ (c_X1_sizeBody_0 l g z I2 p0 dp0 hO) (cwV 1 hts gX1_answer_X1_sizeBody rfl rfl rfl (by decide +kernel) ⟨Nat.le_of_ble_eq_true rfl, Nat.le_of_ble_eq_true rfl⟩) (dk_at338 hW) rfl hK hT hW hS rfl hl.1 rfl (Nat.le_of_ble_eq_true rfl) dX1_answer_12 ⟨Nat.zero_le _, Nat.zero_le _⟩ (fun v7 I7 H7 L7 hp7 hW hS => ?_)
    obtain ⟨hF7, hO, hc7⟩ := hp7
    have hF := dkF_call hF hF7 rfl
    obtain ⟨dv7, -⟩ := hc7
    refine lv_goto (tgt := 23) hx hb dX1_answer_15 (by decide) ?_
    exact C23 I7 _ _ ls v7 hW hS hF hO (dkN_sub dv7 rfl) (show dkN [(0, 0)] (I7 338 2) from dkN_sub (by rw [hF7 338 2 rfl]; exact (by rw [eI2, dkU_ss]; exact (dkN_lit (x := 0) (0) rfl))) rfl) (lv_sub hl [0, 1, 2] rfl)
set_option maxHeartbeats 4000000 in
set_option maxRecDepth 100000 in
theorem c_X5_ask_0 (l : Launch) (g : dkG) (z : Nat) (I0 : dkI) (p0 : Int32) (p1 : Int32)  (hO : dkOk I0) : Met l yX5_ask wsX5_ask (dkR 7) (dkPc g z [.ref (z + 0), .int p0, .int p1] I0) (dkQi g z (fun r I1 => dkF [(338, 338, 2, 2), (339, 339, 0, 15)] I0 I1 ∧ dkOk I1 ∧ ((True ∧ True)))) 0 0 (dkA z) := by
  refine Met.ofW (cc := cX5_ask) (maxL := 3) (ret := (some .int)) (by decide) rfl ?_
  intro p e s m args below meth c s₁ B hml hv
  obtain ⟨ha, hW, hK, hT⟩ := hv
  have hx := B.exec
  have hb := B.bytes
  have hr := B.returns
  have hts := atoms_spec (ws := wsX5_ask) B.pre
  have hown : s.vm.findClass RX5 = some m.cls := findClass_of_methodNamed B.named
  have hlocks := B.notSynchronized
  have hS : va_S (dkA z) s.heap s.heap [] := va_S.rf
  have hF : dkF [(338, 338, 2, 2), (339, 339, 0, 15)] I0 I0 := dkF_rf _ _
  have hl := lv_entry ([.ref (z + 0), .int p0, .int p1]) (n := 3) (Nat.le_of_ble_eq_true rfl)
  have hgo : entryFrame m args 3 = entryFrame m ([.ref (z + 0), .int p0, .int p1] : List Value).toArray 3 := by rw [ha]
  rw [hgo, lg_entry_eq]
  generalize (lg_sl ([.ref (z + 0), .int p0, .int p1]) ++ List.replicate (3 - (lg_sl ([.ref (z + 0), .int p0, .int p1])).length) Slot.unset).toArray = ls at hl ⊢
  have hl : lv_has ls 3 [(0, .ref (z + 0)), (1, .int p0), (2, .int p1)] := hl
  refine lv_aload_n hx hb dX5_ask_0 rfl (lv_at hl 0 rfl) ?_
  refine lv_iload_n hx hb dX5_ask_1 rfl (lv_at hl 1 rfl) ?_
  refine dk_Vi (As := [.int p0]) (rest := []) ⟨hx, hb, hml, hown, hts⟩ (c_X5_isDog_0 l g z I0 p0 hO) (cwV 1 hts gX5_ask_X5_isDog rfl rfl rfl (by decide +kernel) ⟨Nat.le_of_ble_eq_true rfl, Nat.le_of_ble_eq_true rfl⟩) (dk_at0 hW) rfl hK hT hW hS rfl hl.1 rfl (Nat.le_of_ble_eq_true rfl) dX5_ask_2 ⟨Nat.zero_le _, Nat.zero_le _⟩ (fun v1 I1 H1 L1 hp1 hW hS => ?_)
  obtain ⟨hF1, hO, hc1⟩ := hp1
  have hF := dkF_call hF hF1 rfl
  rcases hc1 with ⟨dv1, -⟩ | hc1
  ·
    refine lv_if_eq (tgt := 28) hx hb dX5_ask_5 (by decide) (fun c2 => ?_) (fun c2 => ?_)
    ·
      refine lv_ldc (v := (-1000001)) hx hb hown (hts (.constant RX5 70 (-1000001)) (List.mem_of_getElem? (i := 2) rfl)) dX5_ask_28 ?_
      exact W.iret (v := (-1000001)) hx hb hr (fun t ht hW9 => ⟨⟨(-1000001), I1, rfl, ⟨hF, hO, ⟨trivial, trivial⟩⟩, dkW_eq ht hW⟩, hS.F ht⟩) hS.2.2 dX5_ask_30
    ·
      exact (dkN_nil (show dkN [] v1 from dkN_ne1 (0) dv1 (dkN_lit (x := 0) (0) rfl) (dk_ne c2) rfl)).elim
  ·
    obtain ⟨dv1, a1_0, f1_25_11, -⟩ := hc1
    have d3 : dkN [(0, 5)] p0 := dkN_eq1 (dkN_top p0) a1_0 rfl rfl
    refine lv_if_eq (tgt := 28) hx hb dX5_ask_5 (by decide) (fun c4 => ?_) (fun c4 => ?_)
    ·
      exact (dkN_nil (show dkN [] v1 from dkN_eq1 dv1 (dkN_lit (x := 0) (0) rfl) (congrArg Int32.toInt c4) rfl)).elim
    ·
      refine lv_iload_n hx hb dX5_ask_8 rfl (lv_at hl 2 rfl) ?_
      refine lv_iconst (v := 1) hx hb dX5_ask_9 (by decide) ?_
      refine dk_Si (As := [.int p1, .int 1]) (rest := []) ⟨hx, hb, hml, hown, hts⟩ (c_X5_isUpTo_5 l g z I1 p1 1 (dkN_lit (x := 1) (1) rfl) hO) (va_cwS 2 hts gX5_ask_X5_isUpTo rfl rfl rfl (by decide +kernel) ⟨Nat.le_of_ble_eq_true rfl, Nat.le_of_ble_eq_true rfl⟩) hK hT hW hS rfl hl.1 rfl (Nat.le_of_ble_eq_true rfl) dX5_ask_10 ⟨Nat.zero_le _, Nat.zero_le _⟩ (fun v5 I5 H5 L5 hp5 hW hS => ?_)
      obtain ⟨hF5, hO, hc5⟩ := hp5
      have hF := dkF_call hF hF5 rfl
      rcases hc5 with ⟨dv5, a5_0, -⟩ | hc5
      ·
        have d6 : dkN [(-2147483648, -1), (2, 2147483647)] p1 := dkN_eq1 (dkN_top p1) a5_0 rfl rfl
        refine lv_if_eq (tgt := 28) hx hb dX5_ask_13 (by decide) (fun c7 => ?_) (fun c7 => ?_)
        ·
          refine lv_ldc (v := (-1000001)) hx hb hown (hts (.constant RX5 70 (-1000001)) (List.mem_of_getElem? (i := 2) rfl)) dX5_ask_28 ?_
          exact W.iret (v := (-1000001)) hx hb hr (fun t ht hW9 => ⟨⟨(-1000001), I5, rfl, ⟨hF, hO, ⟨trivial, trivial⟩⟩, dkW_eq ht hW⟩, hS.F ht⟩) hS.2.2 dX5_ask_30
        ·
          exact (dkN_nil (show dkN [] v5 from dkN_ne1 (0) dv5 (dkN_lit (x := 0) (0) rfl) (dk_ne c7) rfl)).elim
      ·
        obtain ⟨dv5, a5_0, -⟩ := hc5
        have d8 : dkN [(0, 1)] p1 := dkN_eq1 (dkN_top p1) a5_0 rfl rfl
        refine lv_if_eq (tgt := 28) hx hb dX5_ask_13 (by decide) (fun c9 => ?_) (fun c9 => ?_)
        ·
          exact (dkN_nil (show dkN [] v5 from dkN_eq1 dv5 (dkN_lit (x := 0) (0) rfl) (congrArg Int32.toInt c9) rfl)).elim
        ·
          refine lv_aload_n hx hb dX5_ask_16 rfl (lv_at hl 0 rfl) ?_
          refine dk_get (k := 0) hx hb hts iX5_ask_5 hown hK (dk_at0 hW) rfl 9 (by decide) (hts (.fieldLink RX5 58 "DogKings" "asks" "LDogKings$Asks;") (List.mem_of_getElem? (i := 1) rfl)) rfl dX5_ask_17 ?_
          refine lv_iload_n hx hb dX5_ask_20 rfl (lv_at hl 1 rfl) ?_
          refine lv_iload_n hx hb dX5_ask_21 rfl (lv_at hl 2 rfl) ?_
          refine dk_Vi (As := [.int p0, .int p1]) (rest := []) ⟨hx, hb, hml, hown, hts⟩ (c_X1_answer_0 l g z I5 p0 p1 d3 d8 hO) (cwV 2 hts gX5_ask_X1_answer rfl rfl rfl (by decide +kernel) ⟨Nat.le_of_ble_eq_true rfl, Nat.le_of_ble_eq_true rfl⟩) (dk_at338 hW) rfl hK hT hW hS rfl hl.1 rfl (Nat.le_of_ble_eq_true rfl) dX5_ask_22 ⟨Nat.zero_le _, Nat.zero_le _⟩ (fun v10 I10 H10 L10 hp10 hW hS => ?_)
          obtain ⟨hF10, hO, hc10⟩ := hp10
          have hF := dkF_call hF hF10 rfl
          obtain ⟨_, f10_338_2, -⟩ := hc10
          refine lv_goto (tgt := 30) hx hb dX5_ask_25 (by decide) ?_
          exact W.iret (v := v10) hx hb hr (fun t ht hW9 => ⟨⟨v10, I10, rfl, ⟨hF, hO, ⟨trivial, trivial⟩⟩, dkW_eq ht hW⟩, hS.F ht⟩) hS.2.2 dX5_ask_30
