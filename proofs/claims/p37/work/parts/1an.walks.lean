set_option maxHeartbeats 4000000 in
set_option maxRecDepth 100000 in
theorem c_X1_gives_7 (l : Launch) (g : dkG) (z : Nat) (I0 : dkI) (p0 : Int32) (p1 : Int32) (p2 : Int32) (dp0 : dkN [(10, 10)] p0) (dp1 : dkN [(0, 5)] p1) (dp2 : dkN [(4, 4)] p2)  (hO : dkOk I0) : Met l yX1_gives wsX1_gives (dkR 1) (dkPc g z [.ref (z + 338), .int p0, .int p1, .int p2] I0) (dkQi g z (fun r I1 => dkF [(338, 338, 2, 2), (339, 339, 0, 15)] I0 I1 ∧ dkOk I1 ∧ ((True ∧ dkN [(1, 16)] (I1 338 2) ∧ True)))) 0 0 (dkA z) := by
  refine Met.ofW (cc := cX1_gives) (maxL := 5) (ret := (some .int)) (by decide) rfl ?_
  intro p e s m args below meth c s₁ B hml hv
  obtain ⟨ha, hW, hK, hT⟩ := hv
  have hx := B.exec
  have hb := B.bytes
  have hr := B.returns
  have hts := atoms_spec (ws := wsX1_gives) B.pre
  have hown : s.vm.findClass RX1 = some m.cls := findClass_of_methodNamed B.named
  have hlocks := B.notSynchronized
  have hS : va_S (dkA z) s.heap s.heap [] := va_S.rf
  have hF : dkF [(338, 338, 2, 2), (339, 339, 0, 15)] I0 I0 := dkF_rf _ _
  have hl := lv_entry ([.ref (z + 338), .int p0, .int p1, .int p2]) (n := 5) (Nat.le_of_ble_eq_true rfl)
  have hgo : entryFrame m args 5 = entryFrame m ([.ref (z + 338), .int p0, .int p1, .int p2] : List Value).toArray 5 := by rw [ha]
  rw [hgo, lg_entry_eq]
  generalize (lg_sl ([.ref (z + 338), .int p0, .int p1, .int p2]) ++ List.replicate (5 - (lg_sl ([.ref (z + 338), .int p0, .int p1, .int p2])).length) Slot.unset).toArray = ls at hl ⊢
  have hl : lv_has ls 5 [(0, .ref (z + 338)), (1, .int p0), (2, .int p1), (3, .int p2)] := hl
  refine lv_iload_n hx hb dX1_gives_0 rfl (lv_at hl 3 rfl) ?_
  refine lv_iconst (v := 5) hx hb dX1_gives_1 (by decide) ?_
  refine lv_icmp_le (tgt := 8) hx hb dX1_gives_2 (by decide) (fun c1 => ?_) (fun c1 => ?_)
  ·
    refine lv_aload_n hx hb dX1_gives_8 rfl (lv_at hl 0 rfl) ?_
    refine lv_iload_n hx hb dX1_gives_9 rfl (lv_at hl 1 rfl) ?_
    refine dk_Vv (As := [.int p0]) (rest := []) ⟨hx, hb, hml, hown, hts⟩ (c_X1_begins_1 l g z I0 p0 dp0 hO) (cwV 1 hts gX1_gives_X1_begins rfl rfl rfl (by decide +kernel) ⟨Nat.le_of_ble_eq_true rfl, Nat.le_of_ble_eq_true rfl⟩) (dk_at338 hW) rfl hK hT hW hS rfl hl.1 rfl (Nat.le_of_ble_eq_true rfl) dX1_gives_10 ⟨Nat.zero_le _, Nat.zero_le _⟩ (fun I2 H2 L2 hp2 hW hS => ?_)
    obtain ⟨hF2, hO, hc2⟩ := hp2
    have hF := dkF_call hF hF2 rfl
    obtain ⟨f2_338_2, -⟩ := hc2
    refine lv_iload_n hx hb dX1_gives_13 rfl (lv_at hl 3 rfl) ?_
    refine lv_iconst (v := 1) hx hb dX1_gives_14 (by decide) ?_
    refine lv_iadd hx hb dX1_gives_15 ?_
    refine lv_topi (fun v3 ev3 => ?_)
    have dv3 : dkN [(5, 5)] v3 := by rw [ev3]; exact dkN_add dp2 (dkN_lit (x := 1) (1) rfl) rfl
    refine lv_istore (lv' := [(4, .int v3), (0, .ref (z + 338)), (1, .int p0), (2, .int p1), (3, .int p2)]) hx hb dX1_gives_16 hl (by decide) rfl (fun ls hl => ?_)
    refine lv_iload_n hx hb dX1_gives_18 rfl (lv_at hl 2 rfl) ?_
    by_cases c4 : p0 = 10
    ·
      have qc4 : p0.toInt = 10 := by rw [c4]; rfl
      have d5 : dkN [(10, 10)] p0 := dkN_lit (10) qc4
      refine lv_tableIn (tgt := 92) hx hb dX1_gives_19 (by rw [qc4]; decide) (by rw [qc4]; decide) (by rw [qc4]; rfl) (by decide) ?_
      refine lv_aload_n hx hb dX1_gives_92 rfl (lv_at hl 1 rfl) ?_
      refine dk_get (k := 338) hx hb hts iX1_gives_1 hown hK (dk_at338 hW) rfl 0 (by decide) (hts (.fieldLink RX1 15 "DogKings$Asks" "now" "LDogKings$Town;") (List.mem_of_getElem? (i := 2) rfl)) rfl dX1_gives_93 ?_
      refine dk_get (k := 25) hx hb hts iX1_gives_4 hown hK (dk_at25 hW) rfl 13 (by decide) (hts (.fieldLink RX1 51 "DogKings$Town" "dogHome" "[I") (List.mem_of_getElem? (i := 3) rfl)) rfl dX1_gives_96 ?_
      refine lv_iload_n hx hb dX1_gives_99 rfl (lv_at hl 3 rfl) ?_
      refine dk_ild (k := 33) hx hb hK (dk_at33 hW) (dkN_in (n := 6) dp1 rfl) dX1_gives_100 ?_
      refine lv_topi (fun v6 ev6 => ?_)
      exact W.iret (v := v6) hx hb hr (fun t ht hW9 => ⟨⟨v6, I2, rfl, ⟨hF, hO, ⟨trivial, (show dkN [(1, 16)] (I2 338 2) from dkN_sub f2_338_2 rfl), trivial⟩⟩, dkW_eq ht hW⟩, hS.F ht⟩) hS.2.2 dX1_gives_101
    ·
      exact (dkN_nil (show dkN [] p0 from dkN_ne1 (10) dp0 (dkN_lit (x := 10) (10) rfl) (dk_ne c4) rfl)).elim
  ·
    exact (dkN_nil (show dkN [] p2 from dkN_le2 1 (dkN_lit (x := 5) (5) rfl) dp2 (dkc_nle c1) rfl)).elim
set_option maxHeartbeats 4000000 in
set_option maxRecDepth 100000 in
theorem c_X1_gives_9 (l : Launch) (g : dkG) (z : Nat) (I0 : dkI) (p0 : Int32) (p1 : Int32) (p2 : Int32) (dp0 : dkN [(20, 20)] p0) (dp1 : dkN [(0, 5)] p1) (dp2 : dkN [(5, 5)] p2)  (hO : dkOk I0) : Met l yX1_gives wsX1_gives (dkR 1) (dkPc g z [.ref (z + 338), .int p0, .int p1, .int p2] I0) (dkQi g z (fun r I1 => dkF [(338, 338, 2, 2), (339, 339, 0, 15)] I0 I1 ∧ dkOk I1 ∧ r = p1 ∧ ((dkN [(0, 5)] r ∧ dkN [(1, 16)] (I1 338 2) ∧ True)))) 0 0 (dkA z) := by
  refine Met.ofW (cc := cX1_gives) (maxL := 5) (ret := (some .int)) (by decide) rfl ?_
  intro p e s m args below meth c s₁ B hml hv
  obtain ⟨ha, hW, hK, hT⟩ := hv
  have hx := B.exec
  have hb := B.bytes
  have hr := B.returns
  have hts := atoms_spec (ws := wsX1_gives) B.pre
  have hown : s.vm.findClass RX1 = some m.cls := findClass_of_methodNamed B.named
  have hlocks := B.notSynchronized
  have hS : va_S (dkA z) s.heap s.heap [] := va_S.rf
  have hF : dkF [(338, 338, 2, 2), (339, 339, 0, 15)] I0 I0 := dkF_rf _ _
  have hl := lv_entry ([.ref (z + 338), .int p0, .int p1, .int p2]) (n := 5) (Nat.le_of_ble_eq_true rfl)
  have hgo : entryFrame m args 5 = entryFrame m ([.ref (z + 338), .int p0, .int p1, .int p2] : List Value).toArray 5 := by rw [ha]
  rw [hgo, lg_entry_eq]
  generalize (lg_sl ([.ref (z + 338), .int p0, .int p1, .int p2]) ++ List.replicate (5 - (lg_sl ([.ref (z + 338), .int p0, .int p1, .int p2])).length) Slot.unset).toArray = ls at hl ⊢
  have hl : lv_has ls 5 [(0, .ref (z + 338)), (1, .int p0), (2, .int p1), (3, .int p2)] := hl
  refine lv_iload_n hx hb dX1_gives_0 rfl (lv_at hl 3 rfl) ?_
  refine lv_iconst (v := 5) hx hb dX1_gives_1 (by decide) ?_
  refine lv_icmp_le (tgt := 8) hx hb dX1_gives_2 (by decide) (fun c1 => ?_) (fun c1 => ?_)
  ·
    refine lv_aload_n hx hb dX1_gives_8 rfl (lv_at hl 0 rfl) ?_
    refine lv_iload_n hx hb dX1_gives_9 rfl (lv_at hl 1 rfl) ?_
    refine dk_Vv (As := [.int p0]) (rest := []) ⟨hx, hb, hml, hown, hts⟩ (c_X1_begins_3 l g z I0 p0 dp0 hO) (cwV 1 hts gX1_gives_X1_begins rfl rfl rfl (by decide +kernel) ⟨Nat.le_of_ble_eq_true rfl, Nat.le_of_ble_eq_true rfl⟩) (dk_at338 hW) rfl hK hT hW hS rfl hl.1 rfl (Nat.le_of_ble_eq_true rfl) dX1_gives_10 ⟨Nat.zero_le _, Nat.zero_le _⟩ (fun I2 H2 L2 hp2 hW hS => ?_)
    obtain ⟨hF2, hO, hc2⟩ := hp2
    have hF := dkF_call hF hF2 rfl
    obtain ⟨f2_338_2, -⟩ := hc2
    refine lv_iload_n hx hb dX1_gives_13 rfl (lv_at hl 3 rfl) ?_
    refine lv_iconst (v := 1) hx hb dX1_gives_14 (by decide) ?_
    refine lv_iadd hx hb dX1_gives_15 ?_
    refine lv_topi (fun v3 ev3 => ?_)
    have dv3 : dkN [(6, 6)] v3 := by rw [ev3]; exact dkN_add dp2 (dkN_lit (x := 1) (1) rfl) rfl
    refine lv_istore (lv' := [(4, .int v3), (0, .ref (z + 338)), (1, .int p0), (2, .int p1), (3, .int p2)]) hx hb dX1_gives_16 hl (by decide) rfl (fun ls hl => ?_)
    refine lv_iload_n hx hb dX1_gives_18 rfl (lv_at hl 2 rfl) ?_
    by_cases c4 : p0 = 20
    ·
      have qc4 : p0.toInt = 20 := by rw [c4]; rfl
      have d5 : dkN [(20, 20)] p0 := dkN_lit (20) qc4
      refine lv_tableIn (tgt := 161) hx hb dX1_gives_19 (by rw [qc4]; decide) (by rw [qc4]; decide) (by rw [qc4]; rfl) (by decide) ?_
      refine lv_iload_n hx hb dX1_gives_161 rfl (lv_at hl 3 rfl) ?_
      exact W.iret (v := p1) hx hb hr (fun t ht hW9 => ⟨⟨p1, I2, rfl, ⟨hF, hO, rfl, ⟨dkN_sub dp1 rfl, (show dkN [(1, 16)] (I2 338 2) from dkN_sub f2_338_2 rfl), trivial⟩⟩, dkW_eq ht hW⟩, hS.F ht⟩) hS.2.2 dX1_gives_162
    ·
      exact (dkN_nil (show dkN [] p0 from dkN_ne1 (20) dp0 (dkN_lit (x := 20) (20) rfl) (dk_ne c4) rfl)).elim
  ·
    exact (dkN_nil (show dkN [] p2 from dkN_le2 1 (dkN_lit (x := 5) (5) rfl) dp2 (dkc_nle c1) rfl)).elim
set_option maxHeartbeats 4000000 in
set_option maxRecDepth 100000 in
theorem c_X1_gives_11 (l : Launch) (g : dkG) (z : Nat) (I0 : dkI) (p0 : Int32) (p1 : Int32) (p2 : Int32) (dp0 : dkN [(20, 20)] p0) (dp1 : dkN [(0, 5)] p1) (dp2 : dkN [(6, 6)] p2)  (hO : dkOk I0) : Met l yX1_gives wsX1_gives (dkR 0) (dkPc g z [.ref (z + 338), .int p0, .int p1, .int p2] I0) (dkQi g z (fun r I1 => dkF [] I0 I1 ∧ dkOk I1 ∧ ((dkN [(-1000001, -1000001)] r ∧ True)))) 0 0 (dkA z) := by
  refine Met.ofW (cc := cX1_gives) (maxL := 5) (ret := (some .int)) (by decide) rfl ?_
  intro p e s m args below meth c s₁ B hml hv
  obtain ⟨ha, hW, hK, hT⟩ := hv
  have hx := B.exec
  have hb := B.bytes
  have hr := B.returns
  have hts := atoms_spec (ws := wsX1_gives) B.pre
  have hown : s.vm.findClass RX1 = some m.cls := findClass_of_methodNamed B.named
  have hlocks := B.notSynchronized
  have hS : va_S (dkA z) s.heap s.heap [] := va_S.rf
  have hF : dkF [] I0 I0 := dkF_rf _ _
  have hl := lv_entry ([.ref (z + 338), .int p0, .int p1, .int p2]) (n := 5) (Nat.le_of_ble_eq_true rfl)
  have hgo : entryFrame m args 5 = entryFrame m ([.ref (z + 338), .int p0, .int p1, .int p2] : List Value).toArray 5 := by rw [ha]
  rw [hgo, lg_entry_eq]
  generalize (lg_sl ([.ref (z + 338), .int p0, .int p1, .int p2]) ++ List.replicate (5 - (lg_sl ([.ref (z + 338), .int p0, .int p1, .int p2])).length) Slot.unset).toArray = ls at hl ⊢
  have hl : lv_has ls 5 [(0, .ref (z + 338)), (1, .int p0), (2, .int p1), (3, .int p2)] := hl
  refine lv_iload_n hx hb dX1_gives_0 rfl (lv_at hl 3 rfl) ?_
  refine lv_iconst (v := 5) hx hb dX1_gives_1 (by decide) ?_
  refine lv_icmp_le (tgt := 8) hx hb dX1_gives_2 (by decide) (fun c1 => ?_) (fun c1 => ?_)
  ·
    exact (dkN_nil (show dkN [] p2 from dkN_le1 0 dp2 (dkN_lit (x := 5) (5) rfl) (dkc_le c1) rfl)).elim
  ·
    refine lv_ldc (v := (-1000001)) hx hb hown (hts (.constant RX1 46 (-1000001)) (List.mem_of_getElem? (i := 1) rfl)) dX1_gives_5 ?_
    exact W.iret (v := (-1000001)) hx hb hr (fun t ht hW9 => ⟨⟨(-1000001), I0, rfl, ⟨hF, hO, ⟨dkN_sub (dkN_lit (x := (-1000001)) (-1000001) rfl) rfl, trivial⟩⟩, dkW_eq ht hW⟩, hS.F ht⟩) hS.2.2 dX1_gives_7
set_option maxHeartbeats 4000000 in
set_option maxRecDepth 100000 in
theorem c_X1_gives_10 (l : Launch) (g : dkG) (z : Nat) (I0 : dkI) (p0 : Int32) (p1 : Int32) (p2 : Int32) (dp0 : dkN [(21, 21)] p0) (dp1 : dkN [(0, 5)] p1) (dp2 : dkN [(5, 5)] p2)  (hO : dkOk I0) : Met l yX1_gives wsX1_gives (dkR 1) (dkPc g z [.ref (z + 338), .int p0, .int p1, .int p2] I0) (dkQi g z (fun r I1 => dkF [(338, 338, 2, 2), (339, 339, 0, 15)] I0 I1 ∧ dkOk I1 ∧ ((True ∧ dkN [(1, 16)] (I1 338 2) ∧ True)))) 0 0 (dkA z) := by
  refine Met.ofW (cc := cX1_gives) (maxL := 5) (ret := (some .int)) (by decide) rfl ?_
  intro p e s m args below meth c s₁ B hml hv
  obtain ⟨ha, hW, hK, hT⟩ := hv
  have hx := B.exec
  have hb := B.bytes
  have hr := B.returns
  have hts := atoms_spec (ws := wsX1_gives) B.pre
  have hown : s.vm.findClass RX1 = some m.cls := findClass_of_methodNamed B.named
  have hlocks := B.notSynchronized
  have hS : va_S (dkA z) s.heap s.heap [] := va_S.rf
  have hF : dkF [(338, 338, 2, 2), (339, 339, 0, 15)] I0 I0 := dkF_rf _ _
  have hl := lv_entry ([.ref (z + 338), .int p0, .int p1, .int p2]) (n := 5) (Nat.le_of_ble_eq_true rfl)
  have hgo : entryFrame m args 5 = entryFrame m ([.ref (z + 338), .int p0, .int p1, .int p2] : List Value).toArray 5 := by rw [ha]
  rw [hgo, lg_entry_eq]
  generalize (lg_sl ([.ref (z + 338), .int p0, .int p1, .int p2]) ++ List.replicate (5 - (lg_sl ([.ref (z + 338), .int p0, .int p1, .int p2])).length) Slot.unset).toArray = ls at hl ⊢
  have hl : lv_has ls 5 [(0, .ref (z + 338)), (1, .int p0), (2, .int p1), (3, .int p2)] := hl
  refine lv_iload_n hx hb dX1_gives_0 rfl (lv_at hl 3 rfl) ?_
  refine lv_iconst (v := 5) hx hb dX1_gives_1 (by decide) ?_
  refine lv_icmp_le (tgt := 8) hx hb dX1_gives_2 (by decide) (fun c1 => ?_) (fun c1 => ?_)
  ·
    refine lv_aload_n hx hb dX1_gives_8 rfl (lv_at hl 0 rfl) ?_
    refine lv_iload_n hx hb dX1_gives_9 rfl (lv_at hl 1 rfl) ?_
    refine dk_Vv (As := [.int p0]) (rest := []) ⟨hx, hb, hml, hown, hts⟩ (c_X1_begins_4 l g z I0 p0 dp0 hO) (cwV 1 hts gX1_gives_X1_begins rfl rfl rfl (by decide +kernel) ⟨Nat.le_of_ble_eq_true rfl, Nat.le_of_ble_eq_true rfl⟩) (dk_at338 hW) rfl hK hT hW hS rfl hl.1 rfl (Nat.le_of_ble_eq_true rfl) dX1_gives_10 ⟨Nat.zero_le _, Nat.zero_le _⟩ (fun I2 H2 L2 hp2 hW hS => ?_)
    obtain ⟨hF2, hO, hc2⟩ := hp2
    have hF := dkF_call hF hF2 rfl
    obtain ⟨f2_338_2, -⟩ := hc2
    refine lv_iload_n hx hb dX1_gives_13 rfl (lv_at hl 3 rfl) ?_
    refine lv_iconst (v := 1) hx hb dX1_gives_14 (by decide) ?_
    refine lv_iadd hx hb dX1_gives_15 ?_
    refine lv_topi (fun v3 ev3 => ?_)
    have dv3 : dkN [(6, 6)] v3 := by rw [ev3]; exact dkN_add dp2 (dkN_lit (x := 1) (1) rfl) rfl
    refine lv_istore (lv' := [(4, .int v3), (0, .ref (z + 338)), (1, .int p0), (2, .int p1), (3, .int p2)]) hx hb dX1_gives_16 hl (by decide) rfl (fun ls hl => ?_)
    refine lv_iload_n hx hb dX1_gives_18 rfl (lv_at hl 2 rfl) ?_
    by_cases c4 : p0 = 21
    ·
      have qc4 : p0.toInt = 21 := by rw [c4]; rfl
      have d5 : dkN [(21, 21)] p0 := dkN_lit (21) qc4
      refine lv_tableIn (tgt := 163) hx hb dX1_gives_19 (by rw [qc4]; decide) (by rw [qc4]; decide) (by rw [qc4]; rfl) (by decide) ?_
      refine lv_aload_n hx hb dX1_gives_163 rfl (lv_at hl 1 rfl) ?_
      refine lv_bipush (v := 20) hx hb dX1_gives_164 (by decide) ?_
      refine lv_iload_n hx hb dX1_gives_166 rfl (lv_at hl 3 rfl) ?_
      refine lv_iload hx hb dX1_gives_167 (lv_at hl 0 rfl) ?_
      refine dk_Vi (As := [.int 20, .int p1, .int v3]) (rest := []) ⟨hx, hb, hml, hown, hts⟩ (c_X1_gives_11 l g z I2 20 p1 v3 (dkN_lit (x := 20) (20) rfl) dp1 dv3 hO) (cwV 3 hts gX1_gives_X1_gives rfl rfl rfl (by decide +kernel) ⟨Nat.le_of_ble_eq_true rfl, Nat.le_of_ble_eq_true rfl⟩) (dk_at338 hW) rfl hK hT hW hS rfl hl.1 rfl (Nat.le_of_ble_eq_true rfl) dX1_gives_169 ⟨Nat.zero_le _, Nat.zero_le _⟩ (fun v6 I6 H6 L6 hp6 hW hS => ?_)
      obtain ⟨hF6, hO, hc6⟩ := hp6
      have hF := dkF_call hF hF6 rfl
      obtain ⟨dv6, -⟩ := hc6
      refine lv_aload_n hx hb dX1_gives_172 rfl (lv_at hl 1 rfl) ?_
      refine dk_get (k := 338) hx hb hts iX1_gives_1 hown hK (dk_at338 hW) rfl 0 (by decide) (hts (.fieldLink RX1 15 "DogKings$Asks" "now" "LDogKings$Town;") (List.mem_of_getElem? (i := 2) rfl)) rfl dX1_gives_173 ?_
      refine dk_get (k := 25) hx hb hts iX1_gives_4 hown hK (dk_at25 hW) rfl 14 (by decide) (hts (.fieldLink RX1 54 "DogKings$Town" "dogAt" "[I") (List.mem_of_getElem? (i := 4) rfl)) rfl dX1_gives_176 ?_
      refine lv_iload_n hx hb dX1_gives_179 rfl (lv_at hl 3 rfl) ?_
      refine dk_ild (k := 34) hx hb hK (dk_at34 hW) (dkN_in (n := 6) dp1 rfl) dX1_gives_180 ?_
      refine lv_topi (fun v7 ev7 => ?_)
      refine lv_iadd hx hb dX1_gives_181 ?_
      refine lv_topi (fun v8 ev8 => ?_)
      exact W.iret (v := v8) hx hb hr (fun t ht hW9 => ⟨⟨v8, I6, rfl, ⟨hF, hO, ⟨trivial, (show dkN [(1, 16)] (I6 338 2) from dkN_sub (by rw [hF6 338 2 rfl]; exact f2_338_2) rfl), trivial⟩⟩, dkW_eq ht hW⟩, hS.F ht⟩) hS.2.2 dX1_gives_182
    ·
      exact (dkN_nil (show dkN [] p0 from dkN_ne1 (21) dp0 (dkN_lit (x := 21) (21) rfl) (dk_ne c4) rfl)).elim
  ·
    exact (dkN_nil (show dkN [] p2 from dkN_le2 1 (dkN_lit (x := 5) (5) rfl) dp2 (dkc_nle c1) rfl)).elim
set_option maxHeartbeats 4000000 in
set_option maxRecDepth 100000 in
theorem c_X1_gives_13 (l : Launch) (g : dkG) (z : Nat) (I0 : dkI) (p0 : Int32) (p1 : Int32) (p2 : Int32) (dp0 : dkN [(10, 10)] p0) (dp1 : dkN [(0, 5)] p1) (dp2 : dkN [(6, 6)] p2)  (hO : dkOk I0) : Met l yX1_gives wsX1_gives (dkR 0) (dkPc g z [.ref (z + 338), .int p0, .int p1, .int p2] I0) (dkQi g z (fun r I1 => dkF [] I0 I1 ∧ dkOk I1 ∧ ((dkN [(-1000001, -1000001)] r ∧ True)))) 0 0 (dkA z) := by
  refine Met.ofW (cc := cX1_gives) (maxL := 5) (ret := (some .int)) (by decide) rfl ?_
  intro p e s m args below meth c s₁ B hml hv
  obtain ⟨ha, hW, hK, hT⟩ := hv
  have hx := B.exec
  have hb := B.bytes
  have hr := B.returns
  have hts := atoms_spec (ws := wsX1_gives) B.pre
  have hown : s.vm.findClass RX1 = some m.cls := findClass_of_methodNamed B.named
  have hlocks := B.notSynchronized
  have hS : va_S (dkA z) s.heap s.heap [] := va_S.rf
  have hF : dkF [] I0 I0 := dkF_rf _ _
  have hl := lv_entry ([.ref (z + 338), .int p0, .int p1, .int p2]) (n := 5) (Nat.le_of_ble_eq_true rfl)
  have hgo : entryFrame m args 5 = entryFrame m ([.ref (z + 338), .int p0, .int p1, .int p2] : List Value).toArray 5 := by rw [ha]
  rw [hgo, lg_entry_eq]
  generalize (lg_sl ([.ref (z + 338), .int p0, .int p1, .int p2]) ++ List.replicate (5 - (lg_sl ([.ref (z + 338), .int p0, .int p1, .int p2])).length) Slot.unset).toArray = ls at hl ⊢
  have hl : lv_has ls 5 [(0, .ref (z + 338)), (1, .int p0), (2, .int p1), (3, .int p2)] := hl
  refine lv_iload_n hx hb dX1_gives_0 rfl (lv_at hl 3 rfl) ?_
  refine lv_iconst (v := 5) hx hb dX1_gives_1 (by decide) ?_
  refine lv_icmp_le (tgt := 8) hx hb dX1_gives_2 (by decide) (fun c1 => ?_) (fun c1 => ?_)
  ·
    exact (dkN_nil (show dkN [] p2 from dkN_le1 0 dp2 (dkN_lit (x := 5) (5) rfl) (dkc_le c1) rfl)).elim
  ·
    refine lv_ldc (v := (-1000001)) hx hb hown (hts (.constant RX1 46 (-1000001)) (List.mem_of_getElem? (i := 1) rfl)) dX1_gives_5 ?_
    exact W.iret (v := (-1000001)) hx hb hr (fun t ht hW9 => ⟨⟨(-1000001), I0, rfl, ⟨hF, hO, ⟨dkN_sub (dkN_lit (x := (-1000001)) (-1000001) rfl) rfl, trivial⟩⟩, dkW_eq ht hW⟩, hS.F ht⟩) hS.2.2 dX1_gives_7
set_option maxHeartbeats 4000000 in
set_option maxRecDepth 100000 in
theorem c_X1_gives_14 (l : Launch) (g : dkG) (z : Nat) (I0 : dkI) (p0 : Int32) (p1 : Int32) (p2 : Int32) (dp0 : dkN [(20, 24)] p0) (dp1 : dkN [(0, 5)] p1) (dp2 : dkN [(6, 6)] p2)  (hO : dkOk I0) : Met l yX1_gives wsX1_gives (dkR 0) (dkPc g z [.ref (z + 338), .int p0, .int p1, .int p2] I0) (dkQi g z (fun r I1 => dkF [] I0 I1 ∧ dkOk I1 ∧ ((dkN [(-1000001, -1000001)] r ∧ True)))) 0 0 (dkA z) := by
  refine Met.ofW (cc := cX1_gives) (maxL := 5) (ret := (some .int)) (by decide) rfl ?_
  intro p e s m args below meth c s₁ B hml hv
  obtain ⟨ha, hW, hK, hT⟩ := hv
  have hx := B.exec
  have hb := B.bytes
  have hr := B.returns
  have hts := atoms_spec (ws := wsX1_gives) B.pre
  have hown : s.vm.findClass RX1 = some m.cls := findClass_of_methodNamed B.named
  have hlocks := B.notSynchronized
  have hS : va_S (dkA z) s.heap s.heap [] := va_S.rf
  have hF : dkF [] I0 I0 := dkF_rf _ _
  have hl := lv_entry ([.ref (z + 338), .int p0, .int p1, .int p2]) (n := 5) (Nat.le_of_ble_eq_true rfl)
  have hgo : entryFrame m args 5 = entryFrame m ([.ref (z + 338), .int p0, .int p1, .int p2] : List Value).toArray 5 := by rw [ha]
  rw [hgo, lg_entry_eq]
  generalize (lg_sl ([.ref (z + 338), .int p0, .int p1, .int p2]) ++ List.replicate (5 - (lg_sl ([.ref (z + 338), .int p0, .int p1, .int p2])).length) Slot.unset).toArray = ls at hl ⊢
  have hl : lv_has ls 5 [(0, .ref (z + 338)), (1, .int p0), (2, .int p1), (3, .int p2)] := hl
  refine lv_iload_n hx hb dX1_gives_0 rfl (lv_at hl 3 rfl) ?_
  refine lv_iconst (v := 5) hx hb dX1_gives_1 (by decide) ?_
  refine lv_icmp_le (tgt := 8) hx hb dX1_gives_2 (by decide) (fun c1 => ?_) (fun c1 => ?_)
  ·
    exact (dkN_nil (show dkN [] p2 from dkN_le1 0 dp2 (dkN_lit (x := 5) (5) rfl) (dkc_le c1) rfl)).elim
  ·
    refine lv_ldc (v := (-1000001)) hx hb hown (hts (.constant RX1 46 (-1000001)) (List.mem_of_getElem? (i := 1) rfl)) dX1_gives_5 ?_
    exact W.iret (v := (-1000001)) hx hb hr (fun t ht hW9 => ⟨⟨(-1000001), I0, rfl, ⟨hF, hO, ⟨dkN_sub (dkN_lit (x := (-1000001)) (-1000001) rfl) rfl, trivial⟩⟩, dkW_eq ht hW⟩, hS.F ht⟩) hS.2.2 dX1_gives_7
set_option maxHeartbeats 4000000 in
set_option maxRecDepth 100000 in
theorem c_X1_gives_15 (l : Launch) (g : dkG) (z : Nat) (I0 : dkI) (p0 : Int32) (p1 : Int32) (p2 : Int32) (dp0 : dkN [(11, 11)] p0) (dp1 : dkN [(0, 5)] p1) (dp2 : dkN [(6, 6)] p2)  (hO : dkOk I0) : Met l yX1_gives wsX1_gives (dkR 0) (dkPc g z [.ref (z + 338), .int p0, .int p1, .int p2] I0) (dkQi g z (fun r I1 => dkF [] I0 I1 ∧ dkOk I1 ∧ ((dkN [(-1000001, -1000001)] r ∧ True)))) 0 0 (dkA z) := by
  refine Met.ofW (cc := cX1_gives) (maxL := 5) (ret := (some .int)) (by decide) rfl ?_
  intro p e s m args below meth c s₁ B hml hv
  obtain ⟨ha, hW, hK, hT⟩ := hv
  have hx := B.exec
  have hb := B.bytes
  have hr := B.returns
  have hts := atoms_spec (ws := wsX1_gives) B.pre
  have hown : s.vm.findClass RX1 = some m.cls := findClass_of_methodNamed B.named
  have hlocks := B.notSynchronized
  have hS : va_S (dkA z) s.heap s.heap [] := va_S.rf
  have hF : dkF [] I0 I0 := dkF_rf _ _
  have hl := lv_entry ([.ref (z + 338), .int p0, .int p1, .int p2]) (n := 5) (Nat.le_of_ble_eq_true rfl)
  have hgo : entryFrame m args 5 = entryFrame m ([.ref (z + 338), .int p0, .int p1, .int p2] : List Value).toArray 5 := by rw [ha]
  rw [hgo, lg_entry_eq]
  generalize (lg_sl ([.ref (z + 338), .int p0, .int p1, .int p2]) ++ List.replicate (5 - (lg_sl ([.ref (z + 338), .int p0, .int p1, .int p2])).length) Slot.unset).toArray = ls at hl ⊢
  have hl : lv_has ls 5 [(0, .ref (z + 338)), (1, .int p0), (2, .int p1), (3, .int p2)] := hl
  refine lv_iload_n hx hb dX1_gives_0 rfl (lv_at hl 3 rfl) ?_
  refine lv_iconst (v := 5) hx hb dX1_gives_1 (by decide) ?_
  refine lv_icmp_le (tgt := 8) hx hb dX1_gives_2 (by decide) (fun c1 => ?_) (fun c1 => ?_)
  ·
    exact (dkN_nil (show dkN [] p2 from dkN_le1 0 dp2 (dkN_lit (x := 5) (5) rfl) (dkc_le c1) rfl)).elim
  ·
    refine lv_ldc (v := (-1000001)) hx hb hown (hts (.constant RX1 46 (-1000001)) (List.mem_of_getElem? (i := 1) rfl)) dX1_gives_5 ?_
    exact W.iret (v := (-1000001)) hx hb hr (fun t ht hW9 => ⟨⟨(-1000001), I0, rfl, ⟨hF, hO, ⟨dkN_sub (dkN_lit (x := (-1000001)) (-1000001) rfl) rfl, trivial⟩⟩, dkW_eq ht hW⟩, hS.F ht⟩) hS.2.2 dX1_gives_7
set_option maxHeartbeats 4000000 in
set_option maxRecDepth 100000 in
theorem c_X1_gives_16 (l : Launch) (g : dkG) (z : Nat) (I0 : dkI) (p0 : Int32) (p1 : Int32) (p2 : Int32) (dp0 : dkN [(13, 13)] p0) (dp1 : dkN [(0, 5)] p1) (dp2 : dkN [(6, 6)] p2)  (hO : dkOk I0) : Met l yX1_gives wsX1_gives (dkR 0) (dkPc g z [.ref (z + 338), .int p0, .int p1, .int p2] I0) (dkQi g z (fun r I1 => dkF [] I0 I1 ∧ dkOk I1 ∧ ((dkN [(-1000001, -1000001)] r ∧ True)))) 0 0 (dkA z) := by
  refine Met.ofW (cc := cX1_gives) (maxL := 5) (ret := (some .int)) (by decide) rfl ?_
  intro p e s m args below meth c s₁ B hml hv
  obtain ⟨ha, hW, hK, hT⟩ := hv
  have hx := B.exec
  have hb := B.bytes
  have hr := B.returns
  have hts := atoms_spec (ws := wsX1_gives) B.pre
  have hown : s.vm.findClass RX1 = some m.cls := findClass_of_methodNamed B.named
  have hlocks := B.notSynchronized
  have hS : va_S (dkA z) s.heap s.heap [] := va_S.rf
  have hF : dkF [] I0 I0 := dkF_rf _ _
  have hl := lv_entry ([.ref (z + 338), .int p0, .int p1, .int p2]) (n := 5) (Nat.le_of_ble_eq_true rfl)
  have hgo : entryFrame m args 5 = entryFrame m ([.ref (z + 338), .int p0, .int p1, .int p2] : List Value).toArray 5 := by rw [ha]
  rw [hgo, lg_entry_eq]
  generalize (lg_sl ([.ref (z + 338), .int p0, .int p1, .int p2]) ++ List.replicate (5 - (lg_sl ([.ref (z + 338), .int p0, .int p1, .int p2])).length) Slot.unset).toArray = ls at hl ⊢
  have hl : lv_has ls 5 [(0, .ref (z + 338)), (1, .int p0), (2, .int p1), (3, .int p2)] := hl
  refine lv_iload_n hx hb dX1_gives_0 rfl (lv_at hl 3 rfl) ?_
  refine lv_iconst (v := 5) hx hb dX1_gives_1 (by decide) ?_
  refine lv_icmp_le (tgt := 8) hx hb dX1_gives_2 (by decide) (fun c1 => ?_) (fun c1 => ?_)
  ·
    exact (dkN_nil (show dkN [] p2 from dkN_le1 0 dp2 (dkN_lit (x := 5) (5) rfl) (dkc_le c1) rfl)).elim
  ·
    refine lv_ldc (v := (-1000001)) hx hb hown (hts (.constant RX1 46 (-1000001)) (List.mem_of_getElem? (i := 1) rfl)) dX1_gives_5 ?_
    exact W.iret (v := (-1000001)) hx hb hr (fun t ht hW9 => ⟨⟨(-1000001), I0, rfl, ⟨hF, hO, ⟨dkN_sub (dkN_lit (x := (-1000001)) (-1000001) rfl) rfl, trivial⟩⟩, dkW_eq ht hW⟩, hS.F ht⟩) hS.2.2 dX1_gives_7
set_option maxHeartbeats 4000000 in
set_option maxRecDepth 100000 in
theorem c_X1_gives_12 (l : Launch) (g : dkG) (z : Nat) (I0 : dkI) (p0 : Int32) (p1 : Int32) (p2 : Int32) (dp0 : dkN [(10, 14)] p0) (dp1 : dkN [(0, 5)] p1) (dp2 : dkN [(5, 5)] p2)  (hO : dkOk I0) : Met l yX1_gives wsX1_gives (dkR 1) (dkPc g z [.ref (z + 338), .int p0, .int p1, .int p2] I0) (dkQi g z (fun r I1 => dkF [(338, 338, 2, 2), (339, 339, 0, 15)] I0 I1 ∧ dkOk I1 ∧ ((True ∧ dkN [(1, 16)] (I1 338 2) ∧ True)))) 0 0 (dkA z) := by
  refine Met.ofW (cc := cX1_gives) (maxL := 5) (ret := (some .int)) (by decide) rfl ?_
  intro p e s m args below meth c s₁ B hml hv
  obtain ⟨ha, hW, hK, hT⟩ := hv
  have hx := B.exec
  have hb := B.bytes
  have hr := B.returns
  have hts := atoms_spec (ws := wsX1_gives) B.pre
  have hown : s.vm.findClass RX1 = some m.cls := findClass_of_methodNamed B.named
  have hlocks := B.notSynchronized
  have hS : va_S (dkA z) s.heap s.heap [] := va_S.rf
  have hF : dkF [(338, 338, 2, 2), (339, 339, 0, 15)] I0 I0 := dkF_rf _ _
  have hl := lv_entry ([.ref (z + 338), .int p0, .int p1, .int p2]) (n := 5) (Nat.le_of_ble_eq_true rfl)
  have hgo : entryFrame m args 5 = entryFrame m ([.ref (z + 338), .int p0, .int p1, .int p2] : List Value).toArray 5 := by rw [ha]
  rw [hgo, lg_entry_eq]
  generalize (lg_sl ([.ref (z + 338), .int p0, .int p1, .int p2]) ++ List.replicate (5 - (lg_sl ([.ref (z + 338), .int p0, .int p1, .int p2])).length) Slot.unset).toArray = ls at hl ⊢
  have hl : lv_has ls 5 [(0, .ref (z + 338)), (1, .int p0), (2, .int p1), (3, .int p2)] := hl
  refine lv_iload_n hx hb dX1_gives_0 rfl (lv_at hl 3 rfl) ?_
  refine lv_iconst (v := 5) hx hb dX1_gives_1 (by decide) ?_
  refine lv_icmp_le (tgt := 8) hx hb dX1_gives_2 (by decide) (fun c1 => ?_) (fun c1 => ?_)
  ·
    refine lv_aload_n hx hb dX1_gives_8 rfl (lv_at hl 0 rfl) ?_
    refine lv_iload_n hx hb dX1_gives_9 rfl (lv_at hl 1 rfl) ?_
    refine dk_Vv (As := [.int p0]) (rest := []) ⟨hx, hb, hml, hown, hts⟩ (c_X1_begins_5 l g z I0 p0 dp0 hO) (cwV 1 hts gX1_gives_X1_begins rfl rfl rfl (by decide +kernel) ⟨Nat.le_of_ble_eq_true rfl, Nat.le_of_ble_eq_true rfl⟩) (dk_at338 hW) rfl hK hT hW hS rfl hl.1 rfl (Nat.le_of_ble_eq_true rfl) dX1_gives_10 ⟨Nat.zero_le _, Nat.zero_le _⟩ (fun I2 H2 L2 hp2 hW hS => ?_)
    obtain ⟨hF2, hO, hc2⟩ := hp2
    have hF := dkF_call hF hF2 rfl
    obtain ⟨f2_338_2, -⟩ := hc2
    refine lv_iload_n hx hb dX1_gives_13 rfl (lv_at hl 3 rfl) ?_
    refine lv_iconst (v := 1) hx hb dX1_gives_14 (by decide) ?_
    refine lv_iadd hx hb dX1_gives_15 ?_
    refine lv_topi (fun v3 ev3 => ?_)
    have dv3 : dkN [(6, 6)] v3 := by rw [ev3]; exact dkN_add dp2 (dkN_lit (x := 1) (1) rfl) rfl
    refine lv_istore (lv' := [(4, .int v3), (0, .ref (z + 338)), (1, .int p0), (2, .int p1), (3, .int p2)]) hx hb dX1_gives_16 hl (by decide) rfl (fun ls hl => ?_)
    refine lv_iload_n hx hb dX1_gives_18 rfl (lv_at hl 2 rfl) ?_
    by_cases c4 : p0 = 10
    ·
      have qc4 : p0.toInt = 10 := by rw [c4]; rfl
      have d5 : dkN [(10, 10)] p0 := dkN_lit (10) qc4
      refine lv_tableIn (tgt := 92) hx hb dX1_gives_19 (by rw [qc4]; decide) (by rw [qc4]; decide) (by rw [qc4]; rfl) (by decide) ?_
      refine lv_aload_n hx hb dX1_gives_92 rfl (lv_at hl 1 rfl) ?_
      refine dk_get (k := 338) hx hb hts iX1_gives_1 hown hK (dk_at338 hW) rfl 0 (by decide) (hts (.fieldLink RX1 15 "DogKings$Asks" "now" "LDogKings$Town;") (List.mem_of_getElem? (i := 2) rfl)) rfl dX1_gives_93 ?_
      refine dk_get (k := 25) hx hb hts iX1_gives_4 hown hK (dk_at25 hW) rfl 13 (by decide) (hts (.fieldLink RX1 51 "DogKings$Town" "dogHome" "[I") (List.mem_of_getElem? (i := 3) rfl)) rfl dX1_gives_96 ?_
      refine lv_iload_n hx hb dX1_gives_99 rfl (lv_at hl 3 rfl) ?_
      refine dk_ild (k := 33) hx hb hK (dk_at33 hW) (dkN_in (n := 6) dp1 rfl) dX1_gives_100 ?_
      refine lv_topi (fun v6 ev6 => ?_)
      exact W.iret (v := v6) hx hb hr (fun t ht hW9 => ⟨⟨v6, I2, rfl, ⟨hF, hO, ⟨trivial, (show dkN [(1, 16)] (I2 338 2) from dkN_sub f2_338_2 rfl), trivial⟩⟩, dkW_eq ht hW⟩, hS.F ht⟩) hS.2.2 dX1_gives_101
    ·
      have d7 : dkN [(11, 14)] p0 := dkN_ne1 (10) dp0 (dkN_lit (x := 10) (10) rfl) (dk_ne c4) rfl
      by_cases c8 : p0 = 11
      ·
        have qc8 : p0.toInt = 11 := by rw [c8]; rfl
        have d9 : dkN [(11, 11)] p0 := dkN_lit (11) qc8
        refine lv_tableIn (tgt := 102) hx hb dX1_gives_19 (by rw [qc8]; decide) (by rw [qc8]; decide) (by rw [qc8]; rfl) (by decide) ?_
        refine lv_aload_n hx hb dX1_gives_102 rfl (lv_at hl 1 rfl) ?_
        refine lv_bipush (v := 10) hx hb dX1_gives_103 (by decide) ?_
        refine lv_iload_n hx hb dX1_gives_105 rfl (lv_at hl 3 rfl) ?_
        refine lv_iload hx hb dX1_gives_106 (lv_at hl 0 rfl) ?_
        refine dk_Vi (As := [.int 10, .int p1, .int v3]) (rest := []) ⟨hx, hb, hml, hown, hts⟩ (c_X1_gives_13 l g z I2 10 p1 v3 (dkN_lit (x := 10) (10) rfl) dp1 dv3 hO) (cwV 3 hts gX1_gives_X1_gives rfl rfl rfl (by decide +kernel) ⟨Nat.le_of_ble_eq_true rfl, Nat.le_of_ble_eq_true rfl⟩) (dk_at338 hW) rfl hK hT hW hS rfl hl.1 rfl (Nat.le_of_ble_eq_true rfl) dX1_gives_108 ⟨Nat.zero_le _, Nat.zero_le _⟩ (fun v10 I10 H10 L10 hp10 hW hS => ?_)
        obtain ⟨hF10, hO, hc10⟩ := hp10
        have hF := dkF_call hF hF10 rfl
        obtain ⟨dv10, -⟩ := hc10
        refine lv_aload_n hx hb dX1_gives_111 rfl (lv_at hl 1 rfl) ?_
        refine lv_aload_n hx hb dX1_gives_112 rfl (lv_at hl 1 rfl) ?_
        refine lv_iload_n hx hb dX1_gives_113 rfl (lv_at hl 3 rfl) ?_
        refine dk_Vi (As := [.int p1]) (rest := [.ref (z + 338), .int v10]) ⟨hx, hb, hml, hown, hts⟩ (c_X1_markBody_0 l g z I10 p1 dp1 hO) (cwV 1 hts gX1_gives_X1_markBody rfl rfl rfl (by decide +kernel) ⟨Nat.le_of_ble_eq_true rfl, Nat.le_of_ble_eq_true rfl⟩) (dk_at338 hW) rfl hK hT hW hS rfl hl.1 rfl (Nat.le_of_ble_eq_true rfl) dX1_gives_114 ⟨Nat.zero_le _, Nat.zero_le _⟩ (fun v11 I11 H11 L11 hp11 hW hS => ?_)
        obtain ⟨hF11, hO, hc11⟩ := hp11
        have hF := dkF_call hF hF11 rfl
        obtain ⟨dv11, -⟩ := hc11
        refine lv_iload_n hx hb dX1_gives_117 rfl (lv_at hl 3 rfl) ?_
        refine lv_iload hx hb dX1_gives_118 (lv_at hl 0 rfl) ?_
        refine dk_Vi (As := [.int v11, .int p1, .int v3]) (rest := [.int v10]) ⟨hx, hb, hml, hown, hts⟩ (c_X1_gives_14 l g z I11 v11 p1 v3 dv11 dp1 dv3 hO) (cwV 3 hts gX1_gives_X1_gives rfl rfl rfl (by decide +kernel) ⟨Nat.le_of_ble_eq_true rfl, Nat.le_of_ble_eq_true rfl⟩) (dk_at338 hW) rfl hK hT hW hS rfl hl.1 rfl (Nat.le_of_ble_eq_true rfl) dX1_gives_120 ⟨Nat.zero_le _, Nat.zero_le _⟩ (fun v12 I12 H12 L12 hp12 hW hS => ?_)
        obtain ⟨hF12, hO, hc12⟩ := hp12
        have hF := dkF_call hF hF12 rfl
        obtain ⟨dv12, -⟩ := hc12
        refine lv_iadd hx hb dX1_gives_123 ?_
        refine lv_topi (fun v13 ev13 => ?_)
        have dv13 : dkN [(-2000002, -2000002)] v13 := by rw [ev13]; exact dkN_add dv10 dv12 rfl
        exact W.iret (v := v13) hx hb hr (fun t ht hW9 => ⟨⟨v13, I12, rfl, ⟨hF, hO, ⟨trivial, (show dkN [(1, 16)] (I12 338 2) from dkN_sub (by rw [hF12 338 2 rfl]; exact (by rw [hF11 338 2 rfl]; exact (by rw [hF10 338 2 rfl]; exact f2_338_2))) rfl), trivial⟩⟩, dkW_eq ht hW⟩, hS.F ht⟩) hS.2.2 dX1_gives_124
      ·
        have d14 : dkN [(12, 14)] p0 := dkN_ne1 (11) d7 (dkN_lit (x := 11) (11) rfl) (dk_ne c8) rfl
        by_cases c15 : p0 = 12
        ·
          have qc15 : p0.toInt = 12 := by rw [c15]; rfl
          have d16 : dkN [(12, 12)] p0 := dkN_lit (12) qc15
          refine lv_tableIn (tgt := 125) hx hb dX1_gives_19 (by rw [qc15]; decide) (by rw [qc15]; decide) (by rw [qc15]; rfl) (by decide) ?_
          refine lv_aload_n hx hb dX1_gives_125 rfl (lv_at hl 1 rfl) ?_
          refine lv_bipush (v := 11) hx hb dX1_gives_126 (by decide) ?_
          refine lv_iload_n hx hb dX1_gives_128 rfl (lv_at hl 3 rfl) ?_
          refine lv_iload hx hb dX1_gives_129 (lv_at hl 0 rfl) ?_
          refine dk_Vi (As := [.int 11, .int p1, .int v3]) (rest := []) ⟨hx, hb, hml, hown, hts⟩ (c_X1_gives_15 l g z I2 11 p1 v3 (dkN_lit (x := 11) (11) rfl) dp1 dv3 hO) (cwV 3 hts gX1_gives_X1_gives rfl rfl rfl (by decide +kernel) ⟨Nat.le_of_ble_eq_true rfl, Nat.le_of_ble_eq_true rfl⟩) (dk_at338 hW) rfl hK hT hW hS rfl hl.1 rfl (Nat.le_of_ble_eq_true rfl) dX1_gives_131 ⟨Nat.zero_le _, Nat.zero_le _⟩ (fun v17 I17 H17 L17 hp17 hW hS => ?_)
          obtain ⟨hF17, hO, hc17⟩ := hp17
          have hF := dkF_call hF hF17 rfl
          obtain ⟨dv17, -⟩ := hc17
          refine lv_ineg hx hb dX1_gives_134 ?_
          refine lv_topi (fun v18 ev18 => ?_)
          have dv18 : dkN [(1000001, 1000001)] v18 := by rw [ev18]; exact dkN_neg dv17 rfl
          exact W.iret (v := v18) hx hb hr (fun t ht hW9 => ⟨⟨v18, I17, rfl, ⟨hF, hO, ⟨trivial, (show dkN [(1, 16)] (I17 338 2) from dkN_sub (by rw [hF17 338 2 rfl]; exact f2_338_2) rfl), trivial⟩⟩, dkW_eq ht hW⟩, hS.F ht⟩) hS.2.2 dX1_gives_135
        ·
          have d19 : dkN [(13, 14)] p0 := dkN_ne1 (12) d14 (dkN_lit (x := 12) (12) rfl) (dk_ne c15) rfl
          by_cases c20 : p0 = 13
          ·
            have qc20 : p0.toInt = 13 := by rw [c20]; rfl
            have d21 : dkN [(13, 13)] p0 := dkN_lit (13) qc20
            refine lv_tableIn (tgt := 136) hx hb dX1_gives_19 (by rw [qc20]; decide) (by rw [qc20]; decide) (by rw [qc20]; rfl) (by decide) ?_
            refine lv_aload_n hx hb dX1_gives_136 rfl (lv_at hl 1 rfl) ?_
            refine lv_bipush (v := 10) hx hb dX1_gives_137 (by decide) ?_
            refine lv_iload_n hx hb dX1_gives_139 rfl (lv_at hl 3 rfl) ?_
            refine lv_iload hx hb dX1_gives_140 (lv_at hl 0 rfl) ?_
            refine dk_Vi (As := [.int 10, .int p1, .int v3]) (rest := []) ⟨hx, hb, hml, hown, hts⟩ (c_X1_gives_13 l g z I2 10 p1 v3 (dkN_lit (x := 10) (10) rfl) dp1 dv3 hO) (cwV 3 hts gX1_gives_X1_gives rfl rfl rfl (by decide +kernel) ⟨Nat.le_of_ble_eq_true rfl, Nat.le_of_ble_eq_true rfl⟩) (dk_at338 hW) rfl hK hT hW hS rfl hl.1 rfl (Nat.le_of_ble_eq_true rfl) dX1_gives_142 ⟨Nat.zero_le _, Nat.zero_le _⟩ (fun v22 I22 H22 L22 hp22 hW hS => ?_)
            obtain ⟨hF22, hO, hc22⟩ := hp22
            have hF := dkF_call hF hF22 rfl
            obtain ⟨dv22, -⟩ := hc22
            refine lv_bipush (v := 100) hx hb dX1_gives_145 (by decide) ?_
            refine lv_isub hx hb dX1_gives_147 ?_
            refine lv_topi (fun v23 ev23 => ?_)
            have dv23 : dkN [(-1000101, -1000101)] v23 := by rw [ev23]; exact dkN_subt dv22 (dkN_lit (x := 100) (100) rfl) rfl
            exact W.iret (v := v23) hx hb hr (fun t ht hW9 => ⟨⟨v23, I22, rfl, ⟨hF, hO, ⟨trivial, (show dkN [(1, 16)] (I22 338 2) from dkN_sub (by rw [hF22 338 2 rfl]; exact f2_338_2) rfl), trivial⟩⟩, dkW_eq ht hW⟩, hS.F ht⟩) hS.2.2 dX1_gives_148
          ·
            have d24 : dkN [(14, 14)] p0 := dkN_ne1 (13) d19 (dkN_lit (x := 13) (13) rfl) (dk_ne c20) rfl
            by_cases c25 : p0 = 14
            ·
              have qc25 : p0.toInt = 14 := by rw [c25]; rfl
              have d26 : dkN [(14, 14)] p0 := dkN_lit (14) qc25
              refine lv_tableIn (tgt := 149) hx hb dX1_gives_19 (by rw [qc25]; decide) (by rw [qc25]; decide) (by rw [qc25]; rfl) (by decide) ?_
              refine lv_iconst (v := 2) hx hb dX1_gives_149 (by decide) ?_
              refine lv_aload_n hx hb dX1_gives_150 rfl (lv_at hl 1 rfl) ?_
              refine lv_bipush (v := 13) hx hb dX1_gives_151 (by decide) ?_
              refine lv_iload_n hx hb dX1_gives_153 rfl (lv_at hl 3 rfl) ?_
              refine lv_iload hx hb dX1_gives_154 (lv_at hl 0 rfl) ?_
              refine dk_Vi (As := [.int 13, .int p1, .int v3]) (rest := [.int 2]) ⟨hx, hb, hml, hown, hts⟩ (c_X1_gives_16 l g z I2 13 p1 v3 (dkN_lit (x := 13) (13) rfl) dp1 dv3 hO) (cwV 3 hts gX1_gives_X1_gives rfl rfl rfl (by decide +kernel) ⟨Nat.le_of_ble_eq_true rfl, Nat.le_of_ble_eq_true rfl⟩) (dk_at338 hW) rfl hK hT hW hS rfl hl.1 rfl (Nat.le_of_ble_eq_true rfl) dX1_gives_156 ⟨Nat.zero_le _, Nat.zero_le _⟩ (fun v27 I27 H27 L27 hp27 hW hS => ?_)
              obtain ⟨hF27, hO, hc27⟩ := hp27
              have hF := dkF_call hF hF27 rfl
              obtain ⟨dv27, -⟩ := hc27
              refine lv_imul hx hb dX1_gives_159 ?_
              refine lv_topi (fun v28 ev28 => ?_)
              have dv28 : dkN [(-2000002, -2000002)] v28 := by rw [ev28]; exact dkN_mulL 2 (by decide) (dkN_lit (x := 2) (2) rfl) dv27 rfl
              exact W.iret (v := v28) hx hb hr (fun t ht hW9 => ⟨⟨v28, I27, rfl, ⟨hF, hO, ⟨trivial, (show dkN [(1, 16)] (I27 338 2) from dkN_sub (by rw [hF27 338 2 rfl]; exact f2_338_2) rfl), trivial⟩⟩, dkW_eq ht hW⟩, hS.F ht⟩) hS.2.2 dX1_gives_160
            ·
              exact (dkN_nil (show dkN [] p0 from dkN_ne1 (14) d24 (dkN_lit (x := 14) (14) rfl) (dk_ne c25) rfl)).elim
  ·
    exact (dkN_nil (show dkN [] p2 from dkN_le2 1 (dkN_lit (x := 5) (5) rfl) dp2 (dkc_nle c1) rfl)).elim
set_option maxHeartbeats 4000000 in
set_option maxRecDepth 100000 in
theorem c_X1_gives_8 (l : Launch) (g : dkG) (z : Nat) (I0 : dkI) (p0 : Int32) (p1 : Int32) (p2 : Int32) (dp0 : dkN [(20, 24)] p0) (dp1 : dkN [(0, 5)] p1) (dp2 : dkN [(4, 4)] p2)  (hO : dkOk I0) : Met l yX1_gives wsX1_gives (dkR 2) (dkPc g z [.ref (z + 338), .int p0, .int p1, .int p2] I0) (dkQi g z (fun r I1 => dkF [(338, 338, 2, 2), (339, 339, 0, 15)] I0 I1 ∧ dkOk I1 ∧ ((True ∧ dkN [(1, 16)] (I1 338 2) ∧ True)))) 0 0 (dkA z) := by
  refine Met.ofW (cc := cX1_gives) (maxL := 5) (ret := (some .int)) (by decide) rfl ?_
  intro p e s m args below meth c s₁ B hml hv
  obtain ⟨ha, hW, hK, hT⟩ := hv
  have hx := B.exec
  have hb := B.bytes
  have hr := B.returns
  have hts := atoms_spec (ws := wsX1_gives) B.pre
  have hown : s.vm.findClass RX1 = some m.cls := findClass_of_methodNamed B.named
  have hlocks := B.notSynchronized
  have hS : va_S (dkA z) s.heap s.heap [] := va_S.rf
  have hF : dkF [(338, 338, 2, 2), (339, 339, 0, 15)] I0 I0 := dkF_rf _ _
  have hl := lv_entry ([.ref (z + 338), .int p0, .int p1, .int p2]) (n := 5) (Nat.le_of_ble_eq_true rfl)
  have hgo : entryFrame m args 5 = entryFrame m ([.ref (z + 338), .int p0, .int p1, .int p2] : List Value).toArray 5 := by rw [ha]
  rw [hgo, lg_entry_eq]
  generalize (lg_sl ([.ref (z + 338), .int p0, .int p1, .int p2]) ++ List.replicate (5 - (lg_sl ([.ref (z + 338), .int p0, .int p1, .int p2])).length) Slot.unset).toArray = ls at hl ⊢
  have hl : lv_has ls 5 [(0, .ref (z + 338)), (1, .int p0), (2, .int p1), (3, .int p2)] := hl
  refine lv_iload_n hx hb dX1_gives_0 rfl (lv_at hl 3 rfl) ?_
  refine lv_iconst (v := 5) hx hb dX1_gives_1 (by decide) ?_
  refine lv_icmp_le (tgt := 8) hx hb dX1_gives_2 (by decide) (fun c1 => ?_) (fun c1 => ?_)
  ·
    refine lv_aload_n hx hb dX1_gives_8 rfl (lv_at hl 0 rfl) ?_
    refine lv_iload_n hx hb dX1_gives_9 rfl (lv_at hl 1 rfl) ?_
    refine dk_Vv (As := [.int p0]) (rest := []) ⟨hx, hb, hml, hown, hts⟩ (c_X1_begins_2 l g z I0 p0 dp0 hO) (cwV 1 hts gX1_gives_X1_begins rfl rfl rfl (by decide +kernel) ⟨Nat.le_of_ble_eq_true rfl, Nat.le_of_ble_eq_true rfl⟩) (dk_at338 hW) rfl hK hT hW hS rfl hl.1 rfl (Nat.le_of_ble_eq_true rfl) dX1_gives_10 ⟨Nat.zero_le _, Nat.zero_le _⟩ (fun I2 H2 L2 hp2 hW hS => ?_)
    obtain ⟨hF2, hO, hc2⟩ := hp2
    have hF := dkF_call hF hF2 rfl
    obtain ⟨f2_338_2, -⟩ := hc2
    refine lv_iload_n hx hb dX1_gives_13 rfl (lv_at hl 3 rfl) ?_
    refine lv_iconst (v := 1) hx hb dX1_gives_14 (by decide) ?_
    refine lv_iadd hx hb dX1_gives_15 ?_
    refine lv_topi (fun v3 ev3 => ?_)
    have dv3 : dkN [(5, 5)] v3 := by rw [ev3]; exact dkN_add dp2 (dkN_lit (x := 1) (1) rfl) rfl
    refine lv_istore (lv' := [(4, .int v3), (0, .ref (z + 338)), (1, .int p0), (2, .int p1), (3, .int p2)]) hx hb dX1_gives_16 hl (by decide) rfl (fun ls hl => ?_)
    refine lv_iload_n hx hb dX1_gives_18 rfl (lv_at hl 2 rfl) ?_
    by_cases c4 : p0 = 20
    ·
      have qc4 : p0.toInt = 20 := by rw [c4]; rfl
      have d5 : dkN [(20, 20)] p0 := dkN_lit (20) qc4
      refine lv_tableIn (tgt := 161) hx hb dX1_gives_19 (by rw [qc4]; decide) (by rw [qc4]; decide) (by rw [qc4]; rfl) (by decide) ?_
      refine lv_iload_n hx hb dX1_gives_161 rfl (lv_at hl 3 rfl) ?_
      exact W.iret (v := p1) hx hb hr (fun t ht hW9 => ⟨⟨p1, I2, rfl, ⟨hF, hO, ⟨trivial, (show dkN [(1, 16)] (I2 338 2) from dkN_sub f2_338_2 rfl), trivial⟩⟩, dkW_eq ht hW⟩, hS.F ht⟩) hS.2.2 dX1_gives_162
    ·
      have d6 : dkN [(21, 24)] p0 := dkN_ne1 (20) dp0 (dkN_lit (x := 20) (20) rfl) (dk_ne c4) rfl
      by_cases c7 : p0 = 21
      ·
        have qc7 : p0.toInt = 21 := by rw [c7]; rfl
        have d8 : dkN [(21, 21)] p0 := dkN_lit (21) qc7
        refine lv_tableIn (tgt := 163) hx hb dX1_gives_19 (by rw [qc7]; decide) (by rw [qc7]; decide) (by rw [qc7]; rfl) (by decide) ?_
        refine lv_aload_n hx hb dX1_gives_163 rfl (lv_at hl 1 rfl) ?_
        refine lv_bipush (v := 20) hx hb dX1_gives_164 (by decide) ?_
        refine lv_iload_n hx hb dX1_gives_166 rfl (lv_at hl 3 rfl) ?_
        refine lv_iload hx hb dX1_gives_167 (lv_at hl 0 rfl) ?_
        refine dk_Vi (As := [.int 20, .int p1, .int v3]) (rest := []) ⟨hx, hb, hml, hown, hts⟩ (c_X1_gives_9 l g z I2 20 p1 v3 (dkN_lit (x := 20) (20) rfl) dp1 dv3 hO) (cwV 3 hts gX1_gives_X1_gives rfl rfl rfl (by decide +kernel) ⟨Nat.le_of_ble_eq_true rfl, Nat.le_of_ble_eq_true rfl⟩) (dk_at338 hW) rfl hK hT hW hS rfl hl.1 rfl (Nat.le_of_ble_eq_true rfl) dX1_gives_169 ⟨Nat.zero_le _, Nat.zero_le _⟩ (fun v9 I9 H9 L9 hp9 hW hS => ?_)
        obtain ⟨hF9, hO, ev9, hc9⟩ := hp9
        have hF := dkF_call hF hF9 rfl
        obtain ⟨dv9, f9_338_2, -⟩ := hc9
        rw [ev9]
        refine lv_aload_n hx hb dX1_gives_172 rfl (lv_at hl 1 rfl) ?_
        refine dk_get (k := 338) hx hb hts iX1_gives_1 hown hK (dk_at338 hW) rfl 0 (by decide) (hts (.fieldLink RX1 15 "DogKings$Asks" "now" "LDogKings$Town;") (List.mem_of_getElem? (i := 2) rfl)) rfl dX1_gives_173 ?_
        refine dk_get (k := 25) hx hb hts iX1_gives_4 hown hK (dk_at25 hW) rfl 14 (by decide) (hts (.fieldLink RX1 54 "DogKings$Town" "dogAt" "[I") (List.mem_of_getElem? (i := 4) rfl)) rfl dX1_gives_176 ?_
        refine lv_iload_n hx hb dX1_gives_179 rfl (lv_at hl 3 rfl) ?_
        refine dk_ild (k := 34) hx hb hK (dk_at34 hW) (dkN_in (n := 6) dp1 rfl) dX1_gives_180 ?_
        refine lv_topi (fun v10 ev10 => ?_)
        refine lv_iadd hx hb dX1_gives_181 ?_
        refine lv_topi (fun v11 ev11 => ?_)
        exact W.iret (v := v11) hx hb hr (fun t ht hW9 => ⟨⟨v11, I9, rfl, ⟨hF, hO, ⟨trivial, (show dkN [(1, 16)] (I9 338 2) from dkN_sub f9_338_2 rfl), trivial⟩⟩, dkW_eq ht hW⟩, hS.F ht⟩) hS.2.2 dX1_gives_182
      ·
        have d12 : dkN [(22, 24)] p0 := dkN_ne1 (21) d6 (dkN_lit (x := 21) (21) rfl) (dk_ne c7) rfl
        by_cases c13 : p0 = 22
        ·
          have qc13 : p0.toInt = 22 := by rw [c13]; rfl
          have d14 : dkN [(22, 22)] p0 := dkN_lit (22) qc13
          refine lv_tableIn (tgt := 183) hx hb dX1_gives_19 (by rw [qc13]; decide) (by rw [qc13]; decide) (by rw [qc13]; rfl) (by decide) ?_
          refine lv_aload_n hx hb dX1_gives_183 rfl (lv_at hl 1 rfl) ?_
          refine lv_bipush (v := 21) hx hb dX1_gives_184 (by decide) ?_
          refine lv_iload_n hx hb dX1_gives_186 rfl (lv_at hl 3 rfl) ?_
          refine lv_iload hx hb dX1_gives_187 (lv_at hl 0 rfl) ?_
          refine dk_Vi (As := [.int 21, .int p1, .int v3]) (rest := []) ⟨hx, hb, hml, hown, hts⟩ (c_X1_gives_10 l g z I2 21 p1 v3 (dkN_lit (x := 21) (21) rfl) dp1 dv3 hO) (cwV 3 hts gX1_gives_X1_gives rfl rfl rfl (by decide +kernel) ⟨Nat.le_of_ble_eq_true rfl, Nat.le_of_ble_eq_true rfl⟩) (dk_at338 hW) rfl hK hT hW hS rfl hl.1 rfl (Nat.le_of_ble_eq_true rfl) dX1_gives_189 ⟨Nat.zero_le _, Nat.zero_le _⟩ (fun v15 I15 H15 L15 hp15 hW hS => ?_)
          obtain ⟨hF15, hO, hc15⟩ := hp15
          have hF := dkF_call hF hF15 rfl
          obtain ⟨_, f15_338_2, -⟩ := hc15
          refine lv_sipush (v := 1000) hx hb dX1_gives_192 (by decide) ?_
          refine lv_isub hx hb dX1_gives_195 ?_
          refine lv_topi (fun v16 ev16 => ?_)
          exact W.iret (v := v16) hx hb hr (fun t ht hW9 => ⟨⟨v16, I15, rfl, ⟨hF, hO, ⟨trivial, (show dkN [(1, 16)] (I15 338 2) from dkN_sub f15_338_2 rfl), trivial⟩⟩, dkW_eq ht hW⟩, hS.F ht⟩) hS.2.2 dX1_gives_196
        ·
          have d17 : dkN [(23, 24)] p0 := dkN_ne1 (22) d12 (dkN_lit (x := 22) (22) rfl) (dk_ne c13) rfl
          by_cases c18 : p0 = 23
          ·
            have qc18 : p0.toInt = 23 := by rw [c18]; rfl
            have d19 : dkN [(23, 23)] p0 := dkN_lit (23) qc18
            refine lv_tableIn (tgt := 197) hx hb dX1_gives_19 (by rw [qc18]; decide) (by rw [qc18]; decide) (by rw [qc18]; rfl) (by decide) ?_
            refine lv_aload_n hx hb dX1_gives_197 rfl (lv_at hl 1 rfl) ?_
            refine lv_bipush (v := 20) hx hb dX1_gives_198 (by decide) ?_
            refine lv_iload_n hx hb dX1_gives_200 rfl (lv_at hl 3 rfl) ?_
            refine lv_iload hx hb dX1_gives_201 (lv_at hl 0 rfl) ?_
            refine dk_Vi (As := [.int 20, .int p1, .int v3]) (rest := []) ⟨hx, hb, hml, hown, hts⟩ (c_X1_gives_9 l g z I2 20 p1 v3 (dkN_lit (x := 20) (20) rfl) dp1 dv3 hO) (cwV 3 hts gX1_gives_X1_gives rfl rfl rfl (by decide +kernel) ⟨Nat.le_of_ble_eq_true rfl, Nat.le_of_ble_eq_true rfl⟩) (dk_at338 hW) rfl hK hT hW hS rfl hl.1 rfl (Nat.le_of_ble_eq_true rfl) dX1_gives_203 ⟨Nat.zero_le _, Nat.zero_le _⟩ (fun v20 I20 H20 L20 hp20 hW hS => ?_)
            obtain ⟨hF20, hO, ev20, hc20⟩ := hp20
            have hF := dkF_call hF hF20 rfl
            obtain ⟨dv20, f20_338_2, -⟩ := hc20
            rw [ev20]
            refine lv_aload_n hx hb dX1_gives_206 rfl (lv_at hl 1 rfl) ?_
            refine lv_aload_n hx hb dX1_gives_207 rfl (lv_at hl 1 rfl) ?_
            refine lv_iload_n hx hb dX1_gives_208 rfl (lv_at hl 3 rfl) ?_
            refine dk_Vi (As := [.int p1]) (rest := [.ref (z + 338), .int p1]) ⟨hx, hb, hml, hown, hts⟩ (c_X1_sizeBody_0 l g z I20 p1 dp1 hO) (cwV 1 hts gX1_gives_X1_sizeBody rfl rfl rfl (by decide +kernel) ⟨Nat.le_of_ble_eq_true rfl, Nat.le_of_ble_eq_true rfl⟩) (dk_at338 hW) rfl hK hT hW hS rfl hl.1 rfl (Nat.le_of_ble_eq_true rfl) dX1_gives_209 ⟨Nat.zero_le _, Nat.zero_le _⟩ (fun v21 I21 H21 L21 hp21 hW hS => ?_)
            obtain ⟨hF21, hO, hc21⟩ := hp21
            have hF := dkF_call hF hF21 rfl
            obtain ⟨dv21, -⟩ := hc21
            refine lv_iload_n hx hb dX1_gives_212 rfl (lv_at hl 3 rfl) ?_
            refine lv_iload hx hb dX1_gives_213 (lv_at hl 0 rfl) ?_
            refine dk_Vi (As := [.int v21, .int p1, .int v3]) (rest := [.int p1]) ⟨hx, hb, hml, hown, hts⟩ (c_X1_gives_12 l g z I21 v21 p1 v3 dv21 dp1 dv3 hO) (cwV 3 hts gX1_gives_X1_gives rfl rfl rfl (by decide +kernel) ⟨Nat.le_of_ble_eq_true rfl, Nat.le_of_ble_eq_true rfl⟩) (dk_at338 hW) rfl hK hT hW hS rfl hl.1 rfl (Nat.le_of_ble_eq_true rfl) dX1_gives_215 ⟨Nat.zero_le _, Nat.zero_le _⟩ (fun v22 I22 H22 L22 hp22 hW hS => ?_)
            obtain ⟨hF22, hO, hc22⟩ := hp22
            have hF := dkF_call hF hF22 rfl
            obtain ⟨_, f22_338_2, -⟩ := hc22
            refine lv_isub hx hb dX1_gives_218 ?_
            refine lv_topi (fun v23 ev23 => ?_)
            exact W.iret (v := v23) hx hb hr (fun t ht hW9 => ⟨⟨v23, I22, rfl, ⟨hF, hO, ⟨trivial, (show dkN [(1, 16)] (I22 338 2) from dkN_sub f22_338_2 rfl), trivial⟩⟩, dkW_eq ht hW⟩, hS.F ht⟩) hS.2.2 dX1_gives_219
          ·
            have d24 : dkN [(24, 24)] p0 := dkN_ne1 (23) d17 (dkN_lit (x := 23) (23) rfl) (dk_ne c18) rfl
            by_cases c25 : p0 = 24
            ·
              have qc25 : p0.toInt = 24 := by rw [c25]; rfl
              have d26 : dkN [(24, 24)] p0 := dkN_lit (24) qc25
              refine lv_tableIn (tgt := 220) hx hb dX1_gives_19 (by rw [qc25]; decide) (by rw [qc25]; decide) (by rw [qc25]; rfl) (by decide) ?_
              refine lv_iconst (v := 2) hx hb dX1_gives_220 (by decide) ?_
              refine lv_aload_n hx hb dX1_gives_221 rfl (lv_at hl 1 rfl) ?_
              refine lv_bipush (v := 21) hx hb dX1_gives_222 (by decide) ?_
              refine lv_iload_n hx hb dX1_gives_224 rfl (lv_at hl 3 rfl) ?_
              refine lv_iload hx hb dX1_gives_225 (lv_at hl 0 rfl) ?_
              refine dk_Vi (As := [.int 21, .int p1, .int v3]) (rest := [.int 2]) ⟨hx, hb, hml, hown, hts⟩ (c_X1_gives_10 l g z I2 21 p1 v3 (dkN_lit (x := 21) (21) rfl) dp1 dv3 hO) (cwV 3 hts gX1_gives_X1_gives rfl rfl rfl (by decide +kernel) ⟨Nat.le_of_ble_eq_true rfl, Nat.le_of_ble_eq_true rfl⟩) (dk_at338 hW) rfl hK hT hW hS rfl hl.1 rfl (Nat.le_of_ble_eq_true rfl) dX1_gives_227 ⟨Nat.zero_le _, Nat.zero_le _⟩ (fun v27 I27 H27 L27 hp27 hW hS => ?_)
              obtain ⟨hF27, hO, hc27⟩ := hp27
              have hF := dkF_call hF hF27 rfl
              obtain ⟨_, f27_338_2, -⟩ := hc27
              refine lv_imul hx hb dX1_gives_230 ?_
              refine lv_topi (fun v28 ev28 => ?_)
              exact W.iret (v := v28) hx hb hr (fun t ht hW9 => ⟨⟨v28, I27, rfl, ⟨hF, hO, ⟨trivial, (show dkN [(1, 16)] (I27 338 2) from dkN_sub f27_338_2 rfl), trivial⟩⟩, dkW_eq ht hW⟩, hS.F ht⟩) hS.2.2 dX1_gives_231
            ·
              exact (dkN_nil (show dkN [] p0 from dkN_ne1 (24) d24 (dkN_lit (x := 24) (24) rfl) (dk_ne c25) rfl)).elim
  ·
    exact (dkN_nil (show dkN [] p2 from dkN_le2 1 (dkN_lit (x := 5) (5) rfl) dp2 (dkc_nle c1) rfl)).elim
set_option maxHeartbeats 4000000 in
set_option maxRecDepth 100000 in
theorem c_X1_begins_6 (l : Launch) (g : dkG) (z : Nat) (I0 : dkI) (p0 : Int32) (dp0 : dkN [(11, 11)] p0)  (hO : dkOk I0) : Met l yX1_begins wsX1_begins (dkR 0) (dkPc g z [.ref (z + 338), .int p0] I0) (dkQv g z (fun I1 => dkF [(338, 338, 2, 2), (339, 339, 0, 15)] I0 I1 ∧ dkOk I1 ∧ ((dkN [(1, 16)] (I1 338 2) ∧ True)))) 0 0 (dkA z) := by
  refine Met.ofW (cc := cX1_begins) (maxL := 2) (ret := none) (by decide) rfl ?_
  intro p e s m args below meth c s₁ B hml hv
  obtain ⟨ha, hW, hK, hT⟩ := hv
  have hx := B.exec
  have hb := B.bytes
  have hr := B.returns
  have hts := atoms_spec (ws := wsX1_begins) B.pre
  have hown : s.vm.findClass RX1 = some m.cls := findClass_of_methodNamed B.named
  have hlocks := B.notSynchronized
  have hS : va_S (dkA z) s.heap s.heap [] := va_S.rf
  have hF : dkF [(338, 338, 2, 2), (339, 339, 0, 15)] I0 I0 := dkF_rf _ _
  have hl := lv_entry ([.ref (z + 338), .int p0]) (n := 2) (Nat.le_of_ble_eq_true rfl)
  have hgo : entryFrame m args 2 = entryFrame m ([.ref (z + 338), .int p0] : List Value).toArray 2 := by rw [ha]
  rw [hgo, lg_entry_eq]
  generalize (lg_sl ([.ref (z + 338), .int p0]) ++ List.replicate (2 - (lg_sl ([.ref (z + 338), .int p0])).length) Slot.unset).toArray = ls at hl ⊢
  have hl : lv_has ls 2 [(0, .ref (z + 338)), (1, .int p0)] := hl
  refine lv_aload_n hx hb dX1_begins_0 rfl (lv_at hl 0 rfl) ?_
  refine dk_get (k := 338) hx hb hts iX1_begins_1 hown hK (dk_at338 hW) rfl 2 (by decide) (hts (.fieldLink RX1 19 "DogKings$Asks" "tracedCount" "I") (List.mem_of_getElem? (i := 1) rfl)) rfl dX1_begins_1 ?_
  refine lv_topi (fun v1 ev1 => ?_)
  have dv1 : dkN [(0, 16)] v1 := by rw [ev1]; exact (hO 338 2)
  refine lv_bipush (v := 16) hx hb dX1_begins_4 (by decide) ?_
  refine lv_icmp_ge (tgt := 29) hx hb dX1_begins_6 (by decide) (fun c2 => ?_) (fun c2 => ?_)
  ·
    have d3 : dkN [(16, 16)] v1 := dkN_le2 0 (dkN_lit (x := 16) (16) rfl) dv1 (dkc_le c2) rfl
    have f4 : dkN [(16, 16)] (I0 338 2) := by rw [← ev1]; exact d3
    exact W.vret hx hb hr (fun t ht hW9 => ⟨⟨I0, rfl, ⟨hF, hO, ⟨(show dkN [(1, 16)] (I0 338 2) from dkN_sub f4 rfl), trivial⟩⟩, dkW_eq ht hW⟩, hS.F ht⟩) hS.2.2 dX1_begins_29
  ·
    have d5 : dkN [(0, 15)] v1 := dkN_le1 1 dv1 (dkN_lit (x := 16) (16) rfl) (dkc_nle c2) rfl
    have f6 : dkN [(0, 15)] (I0 338 2) := by rw [← ev1]; exact d5
    refine lv_aload_n hx hb dX1_begins_9 rfl (lv_at hl 0 rfl) ?_
    refine dk_get (k := 338) hx hb hts iX1_begins_1 hown hK (dk_at338 hW) rfl 1 (by decide) (hts (.fieldLink RX1 11 "DogKings$Asks" "traced" "[I") (List.mem_of_getElem? (i := 2) rfl)) rfl dX1_begins_10 ?_
    refine lv_aload_n hx hb dX1_begins_13 rfl (lv_at hl 0 rfl) ?_
    refine dk_get (k := 338) hx hb hts iX1_begins_1 hown hK (dk_at338 hW) rfl 2 (by decide) (hts (.fieldLink RX1 19 "DogKings$Asks" "tracedCount" "I") (List.mem_of_getElem? (i := 1) rfl)) rfl dX1_begins_14 ?_
    refine lv_topi (fun v7 ev7 => ?_)
    have dv7 : dkN [(0, 15)] v7 := by rw [ev7]; exact f6
    refine lv_iload_n hx hb dX1_begins_17 rfl (lv_at hl 1 rfl) ?_
    refine dk_ist (k := 339) hx hb hK hW (fun _ => rfl) (by decide) hS (dkN_in (n := 16) dv7 rfl) dX1_begins_18 (fun I8 H8 L8 eI8 hW hS => ?_)
    have hO := dkO_set hO eI8 (dkN_sub dp0 rfl)
    have hF := dkF_set hF eI8 (dkIn_v dv7 rfl)
    refine lv_aload_n hx hb dX1_begins_19 rfl (lv_at hl 0 rfl) ?_
    refine lv_dup hx hb dX1_begins_20 rfl ?_
    refine dk_get (k := 338) hx hb hts iX1_begins_1 hown hK (dk_at338 hW) rfl 2 (by decide) (hts (.fieldLink RX1 19 "DogKings$Asks" "tracedCount" "I") (List.mem_of_getElem? (i := 1) rfl)) rfl dX1_begins_21 ?_
    refine lv_topi (fun v9 ev9 => ?_)
    have dv9 : dkN [(0, 15)] v9 := by rw [ev9]; exact (by rw [eI8, dkU_n (by decide)]; exact f6)
    refine lv_iconst (v := 1) hx hb dX1_begins_24 (by decide) ?_
    refine lv_iadd hx hb dX1_begins_25 ?_
    refine lv_topi (fun v10 ev10 => ?_)
    have dv10 : dkN [(1, 16)] v10 := by rw [ev10]; exact dkN_add dv9 (dkN_lit (x := 1) (1) rfl) rfl
    refine dk_put (k := 338) hx hb hts iX1_begins_1 tyX1 tyX1_ok nmX1 hown hK hW (dk_at338 hW) hS rfl 2 (by decide) (hts (.fieldLink RX1 19 "DogKings$Asks" "tracedCount" "I") (List.mem_of_getElem? (i := 1) rfl)) rfl rfl (Nat.le_of_ble_eq_true rfl) rfl dX1_begins_26 (fun I11 H11 L11 eI11 hW hS => ?_)
    have eI11 : I11 = dkU I8 338 2 v10 := eI11
    have hO := dkO_set hO eI11 (dkN_sub dv10 rfl)
    have hF := dkF_set hF eI11 rfl
    exact W.vret hx hb hr (fun t ht hW9 => ⟨⟨I11, rfl, ⟨hF, hO, ⟨(show dkN [(1, 16)] (I11 338 2) from dkN_sub (by rw [eI11, dkU_ss]; exact dv10) rfl), trivial⟩⟩, dkW_eq ht hW⟩, hS.F ht⟩) hS.2.2 dX1_begins_29
set_option maxHeartbeats 4000000 in
set_option maxRecDepth 100000 in
theorem c_X1_gives_18 (l : Launch) (g : dkG) (z : Nat) (I0 : dkI) (p0 : Int32) (p1 : Int32) (p2 : Int32) (dp0 : dkN [(10, 10)] p0) (dp1 : dkN [(0, 5)] p1) (dp2 : dkN [(5, 5)] p2)  (hO : dkOk I0) : Met l yX1_gives wsX1_gives (dkR 1) (dkPc g z [.ref (z + 338), .int p0, .int p1, .int p2] I0) (dkQi g z (fun r I1 => dkF [(338, 338, 2, 2), (339, 339, 0, 15)] I0 I1 ∧ dkOk I1 ∧ ((True ∧ dkN [(1, 16)] (I1 338 2) ∧ True)))) 0 0 (dkA z) := by
  refine Met.ofW (cc := cX1_gives) (maxL := 5) (ret := (some .int)) (by decide) rfl ?_
  intro p e s m args below meth c s₁ B hml hv
  obtain ⟨ha, hW, hK, hT⟩ := hv
  have hx := B.exec
  have hb := B.bytes
  have hr := B.returns
  have hts := atoms_spec (ws := wsX1_gives) B.pre
  have hown : s.vm.findClass RX1 = some m.cls := findClass_of_methodNamed B.named
  have hlocks := B.notSynchronized
  have hS : va_S (dkA z) s.heap s.heap [] := va_S.rf
  have hF : dkF [(338, 338, 2, 2), (339, 339, 0, 15)] I0 I0 := dkF_rf _ _
  have hl := lv_entry ([.ref (z + 338), .int p0, .int p1, .int p2]) (n := 5) (Nat.le_of_ble_eq_true rfl)
  have hgo : entryFrame m args 5 = entryFrame m ([.ref (z + 338), .int p0, .int p1, .int p2] : List Value).toArray 5 := by rw [ha]
  rw [hgo, lg_entry_eq]
  generalize (lg_sl ([.ref (z + 338), .int p0, .int p1, .int p2]) ++ List.replicate (5 - (lg_sl ([.ref (z + 338), .int p0, .int p1, .int p2])).length) Slot.unset).toArray = ls at hl ⊢
  have hl : lv_has ls 5 [(0, .ref (z + 338)), (1, .int p0), (2, .int p1), (3, .int p2)] := hl
  refine lv_iload_n hx hb dX1_gives_0 rfl (lv_at hl 3 rfl) ?_
  refine lv_iconst (v := 5) hx hb dX1_gives_1 (by decide) ?_
  refine lv_icmp_le (tgt := 8) hx hb dX1_gives_2 (by decide) (fun c1 => ?_) (fun c1 => ?_)
  ·
    refine lv_aload_n hx hb dX1_gives_8 rfl (lv_at hl 0 rfl) ?_
    refine lv_iload_n hx hb dX1_gives_9 rfl (lv_at hl 1 rfl) ?_
    refine dk_Vv (As := [.int p0]) (rest := []) ⟨hx, hb, hml, hown, hts⟩ (c_X1_begins_1 l g z I0 p0 dp0 hO) (cwV 1 hts gX1_gives_X1_begins rfl rfl rfl (by decide +kernel) ⟨Nat.le_of_ble_eq_true rfl, Nat.le_of_ble_eq_true rfl⟩) (dk_at338 hW) rfl hK hT hW hS rfl hl.1 rfl (Nat.le_of_ble_eq_true rfl) dX1_gives_10 ⟨Nat.zero_le _, Nat.zero_le _⟩ (fun I2 H2 L2 hp2 hW hS => ?_)
    obtain ⟨hF2, hO, hc2⟩ := hp2
    have hF := dkF_call hF hF2 rfl
    obtain ⟨f2_338_2, -⟩ := hc2
    refine lv_iload_n hx hb dX1_gives_13 rfl (lv_at hl 3 rfl) ?_
    refine lv_iconst (v := 1) hx hb dX1_gives_14 (by decide) ?_
    refine lv_iadd hx hb dX1_gives_15 ?_
    refine lv_topi (fun v3 ev3 => ?_)
    have dv3 : dkN [(6, 6)] v3 := by rw [ev3]; exact dkN_add dp2 (dkN_lit (x := 1) (1) rfl) rfl
    refine lv_istore (lv' := [(4, .int v3), (0, .ref (z + 338)), (1, .int p0), (2, .int p1), (3, .int p2)]) hx hb dX1_gives_16 hl (by decide) rfl (fun ls hl => ?_)
    refine lv_iload_n hx hb dX1_gives_18 rfl (lv_at hl 2 rfl) ?_
    by_cases c4 : p0 = 10
    ·
      have qc4 : p0.toInt = 10 := by rw [c4]; rfl
      have d5 : dkN [(10, 10)] p0 := dkN_lit (10) qc4
      refine lv_tableIn (tgt := 92) hx hb dX1_gives_19 (by rw [qc4]; decide) (by rw [qc4]; decide) (by rw [qc4]; rfl) (by decide) ?_
      refine lv_aload_n hx hb dX1_gives_92 rfl (lv_at hl 1 rfl) ?_
      refine dk_get (k := 338) hx hb hts iX1_gives_1 hown hK (dk_at338 hW) rfl 0 (by decide) (hts (.fieldLink RX1 15 "DogKings$Asks" "now" "LDogKings$Town;") (List.mem_of_getElem? (i := 2) rfl)) rfl dX1_gives_93 ?_
      refine dk_get (k := 25) hx hb hts iX1_gives_4 hown hK (dk_at25 hW) rfl 13 (by decide) (hts (.fieldLink RX1 51 "DogKings$Town" "dogHome" "[I") (List.mem_of_getElem? (i := 3) rfl)) rfl dX1_gives_96 ?_
      refine lv_iload_n hx hb dX1_gives_99 rfl (lv_at hl 3 rfl) ?_
      refine dk_ild (k := 33) hx hb hK (dk_at33 hW) (dkN_in (n := 6) dp1 rfl) dX1_gives_100 ?_
      refine lv_topi (fun v6 ev6 => ?_)
      exact W.iret (v := v6) hx hb hr (fun t ht hW9 => ⟨⟨v6, I2, rfl, ⟨hF, hO, ⟨trivial, (show dkN [(1, 16)] (I2 338 2) from dkN_sub f2_338_2 rfl), trivial⟩⟩, dkW_eq ht hW⟩, hS.F ht⟩) hS.2.2 dX1_gives_101
    ·
      exact (dkN_nil (show dkN [] p0 from dkN_ne1 (10) dp0 (dkN_lit (x := 10) (10) rfl) (dk_ne c4) rfl)).elim
  ·
    exact (dkN_nil (show dkN [] p2 from dkN_le2 1 (dkN_lit (x := 5) (5) rfl) dp2 (dkc_nle c1) rfl)).elim
set_option maxHeartbeats 4000000 in
set_option maxRecDepth 100000 in
theorem c_X1_gives_20 (l : Launch) (g : dkG) (z : Nat) (I0 : dkI) (p0 : Int32) (p1 : Int32) (p2 : Int32) (dp0 : dkN [(21, 21)] p0) (dp1 : dkN [(0, 5)] p1) (dp2 : dkN [(6, 6)] p2)  (hO : dkOk I0) : Met l yX1_gives wsX1_gives (dkR 0) (dkPc g z [.ref (z + 338), .int p0, .int p1, .int p2] I0) (dkQi g z (fun r I1 => dkF [] I0 I1 ∧ dkOk I1 ∧ ((dkN [(-1000001, -1000001)] r ∧ True)))) 0 0 (dkA z) := by
  refine Met.ofW (cc := cX1_gives) (maxL := 5) (ret := (some .int)) (by decide) rfl ?_
  intro p e s m args below meth c s₁ B hml hv
  obtain ⟨ha, hW, hK, hT⟩ := hv
  have hx := B.exec
  have hb := B.bytes
  have hr := B.returns
  have hts := atoms_spec (ws := wsX1_gives) B.pre
  have hown : s.vm.findClass RX1 = some m.cls := findClass_of_methodNamed B.named
  have hlocks := B.notSynchronized
  have hS : va_S (dkA z) s.heap s.heap [] := va_S.rf
  have hF : dkF [] I0 I0 := dkF_rf _ _
  have hl := lv_entry ([.ref (z + 338), .int p0, .int p1, .int p2]) (n := 5) (Nat.le_of_ble_eq_true rfl)
  have hgo : entryFrame m args 5 = entryFrame m ([.ref (z + 338), .int p0, .int p1, .int p2] : List Value).toArray 5 := by rw [ha]
  rw [hgo, lg_entry_eq]
  generalize (lg_sl ([.ref (z + 338), .int p0, .int p1, .int p2]) ++ List.replicate (5 - (lg_sl ([.ref (z + 338), .int p0, .int p1, .int p2])).length) Slot.unset).toArray = ls at hl ⊢
  have hl : lv_has ls 5 [(0, .ref (z + 338)), (1, .int p0), (2, .int p1), (3, .int p2)] := hl
  refine lv_iload_n hx hb dX1_gives_0 rfl (lv_at hl 3 rfl) ?_
  refine lv_iconst (v := 5) hx hb dX1_gives_1 (by decide) ?_
  refine lv_icmp_le (tgt := 8) hx hb dX1_gives_2 (by decide) (fun c1 => ?_) (fun c1 => ?_)
  ·
    exact (dkN_nil (show dkN [] p2 from dkN_le1 0 dp2 (dkN_lit (x := 5) (5) rfl) (dkc_le c1) rfl)).elim
  ·
    refine lv_ldc (v := (-1000001)) hx hb hown (hts (.constant RX1 46 (-1000001)) (List.mem_of_getElem? (i := 1) rfl)) dX1_gives_5 ?_
    exact W.iret (v := (-1000001)) hx hb hr (fun t ht hW9 => ⟨⟨(-1000001), I0, rfl, ⟨hF, hO, ⟨dkN_sub (dkN_lit (x := (-1000001)) (-1000001) rfl) rfl, trivial⟩⟩, dkW_eq ht hW⟩, hS.F ht⟩) hS.2.2 dX1_gives_7
set_option maxHeartbeats 4000000 in
set_option maxRecDepth 100000 in
theorem c_X1_gives_21 (l : Launch) (g : dkG) (z : Nat) (I0 : dkI) (p0 : Int32) (p1 : Int32) (p2 : Int32) (dp0 : dkN [(10, 14)] p0) (dp1 : dkN [(0, 5)] p1) (dp2 : dkN [(6, 6)] p2)  (hO : dkOk I0) : Met l yX1_gives wsX1_gives (dkR 0) (dkPc g z [.ref (z + 338), .int p0, .int p1, .int p2] I0) (dkQi g z (fun r I1 => dkF [] I0 I1 ∧ dkOk I1 ∧ ((dkN [(-1000001, -1000001)] r ∧ True)))) 0 0 (dkA z) := by
  refine Met.ofW (cc := cX1_gives) (maxL := 5) (ret := (some .int)) (by decide) rfl ?_
  intro p e s m args below meth c s₁ B hml hv
  obtain ⟨ha, hW, hK, hT⟩ := hv
  have hx := B.exec
  have hb := B.bytes
  have hr := B.returns
  have hts := atoms_spec (ws := wsX1_gives) B.pre
  have hown : s.vm.findClass RX1 = some m.cls := findClass_of_methodNamed B.named
  have hlocks := B.notSynchronized
  have hS : va_S (dkA z) s.heap s.heap [] := va_S.rf
  have hF : dkF [] I0 I0 := dkF_rf _ _
  have hl := lv_entry ([.ref (z + 338), .int p0, .int p1, .int p2]) (n := 5) (Nat.le_of_ble_eq_true rfl)
  have hgo : entryFrame m args 5 = entryFrame m ([.ref (z + 338), .int p0, .int p1, .int p2] : List Value).toArray 5 := by rw [ha]
  rw [hgo, lg_entry_eq]
  generalize (lg_sl ([.ref (z + 338), .int p0, .int p1, .int p2]) ++ List.replicate (5 - (lg_sl ([.ref (z + 338), .int p0, .int p1, .int p2])).length) Slot.unset).toArray = ls at hl ⊢
  have hl : lv_has ls 5 [(0, .ref (z + 338)), (1, .int p0), (2, .int p1), (3, .int p2)] := hl
  refine lv_iload_n hx hb dX1_gives_0 rfl (lv_at hl 3 rfl) ?_
  refine lv_iconst (v := 5) hx hb dX1_gives_1 (by decide) ?_
  refine lv_icmp_le (tgt := 8) hx hb dX1_gives_2 (by decide) (fun c1 => ?_) (fun c1 => ?_)
  ·
    exact (dkN_nil (show dkN [] p2 from dkN_le1 0 dp2 (dkN_lit (x := 5) (5) rfl) (dkc_le c1) rfl)).elim
  ·
    refine lv_ldc (v := (-1000001)) hx hb hown (hts (.constant RX1 46 (-1000001)) (List.mem_of_getElem? (i := 1) rfl)) dX1_gives_5 ?_
    exact W.iret (v := (-1000001)) hx hb hr (fun t ht hW9 => ⟨⟨(-1000001), I0, rfl, ⟨hF, hO, ⟨dkN_sub (dkN_lit (x := (-1000001)) (-1000001) rfl) rfl, trivial⟩⟩, dkW_eq ht hW⟩, hS.F ht⟩) hS.2.2 dX1_gives_7
set_option maxHeartbeats 4000000 in
set_option maxRecDepth 100000 in
theorem c_X1_gives_19 (l : Launch) (g : dkG) (z : Nat) (I0 : dkI) (p0 : Int32) (p1 : Int32) (p2 : Int32) (dp0 : dkN [(20, 24)] p0) (dp1 : dkN [(0, 5)] p1) (dp2 : dkN [(5, 5)] p2)  (hO : dkOk I0) : Met l yX1_gives wsX1_gives (dkR 1) (dkPc g z [.ref (z + 338), .int p0, .int p1, .int p2] I0) (dkQi g z (fun r I1 => dkF [(338, 338, 2, 2), (339, 339, 0, 15)] I0 I1 ∧ dkOk I1 ∧ ((True ∧ dkN [(1, 16)] (I1 338 2) ∧ True)))) 0 0 (dkA z) := by
  refine Met.ofW (cc := cX1_gives) (maxL := 5) (ret := (some .int)) (by decide) rfl ?_
  intro p e s m args below meth c s₁ B hml hv
  obtain ⟨ha, hW, hK, hT⟩ := hv
  have hx := B.exec
  have hb := B.bytes
  have hr := B.returns
  have hts := atoms_spec (ws := wsX1_gives) B.pre
  have hown : s.vm.findClass RX1 = some m.cls := findClass_of_methodNamed B.named
  have hlocks := B.notSynchronized
  have hS : va_S (dkA z) s.heap s.heap [] := va_S.rf
  have hF : dkF [(338, 338, 2, 2), (339, 339, 0, 15)] I0 I0 := dkF_rf _ _
  have hl := lv_entry ([.ref (z + 338), .int p0, .int p1, .int p2]) (n := 5) (Nat.le_of_ble_eq_true rfl)
  have hgo : entryFrame m args 5 = entryFrame m ([.ref (z + 338), .int p0, .int p1, .int p2] : List Value).toArray 5 := by rw [ha]
  rw [hgo, lg_entry_eq]
  generalize (lg_sl ([.ref (z + 338), .int p0, .int p1, .int p2]) ++ List.replicate (5 - (lg_sl ([.ref (z + 338), .int p0, .int p1, .int p2])).length) Slot.unset).toArray = ls at hl ⊢
  have hl : lv_has ls 5 [(0, .ref (z + 338)), (1, .int p0), (2, .int p1), (3, .int p2)] := hl
  refine lv_iload_n hx hb dX1_gives_0 rfl (lv_at hl 3 rfl) ?_
  refine lv_iconst (v := 5) hx hb dX1_gives_1 (by decide) ?_
  refine lv_icmp_le (tgt := 8) hx hb dX1_gives_2 (by decide) (fun c1 => ?_) (fun c1 => ?_)
  ·
    refine lv_aload_n hx hb dX1_gives_8 rfl (lv_at hl 0 rfl) ?_
    refine lv_iload_n hx hb dX1_gives_9 rfl (lv_at hl 1 rfl) ?_
    refine dk_Vv (As := [.int p0]) (rest := []) ⟨hx, hb, hml, hown, hts⟩ (c_X1_begins_2 l g z I0 p0 dp0 hO) (cwV 1 hts gX1_gives_X1_begins rfl rfl rfl (by decide +kernel) ⟨Nat.le_of_ble_eq_true rfl, Nat.le_of_ble_eq_true rfl⟩) (dk_at338 hW) rfl hK hT hW hS rfl hl.1 rfl (Nat.le_of_ble_eq_true rfl) dX1_gives_10 ⟨Nat.zero_le _, Nat.zero_le _⟩ (fun I2 H2 L2 hp2 hW hS => ?_)
    obtain ⟨hF2, hO, hc2⟩ := hp2
    have hF := dkF_call hF hF2 rfl
    obtain ⟨f2_338_2, -⟩ := hc2
    refine lv_iload_n hx hb dX1_gives_13 rfl (lv_at hl 3 rfl) ?_
    refine lv_iconst (v := 1) hx hb dX1_gives_14 (by decide) ?_
    refine lv_iadd hx hb dX1_gives_15 ?_
    refine lv_topi (fun v3 ev3 => ?_)
    have dv3 : dkN [(6, 6)] v3 := by rw [ev3]; exact dkN_add dp2 (dkN_lit (x := 1) (1) rfl) rfl
    refine lv_istore (lv' := [(4, .int v3), (0, .ref (z + 338)), (1, .int p0), (2, .int p1), (3, .int p2)]) hx hb dX1_gives_16 hl (by decide) rfl (fun ls hl => ?_)
    refine lv_iload_n hx hb dX1_gives_18 rfl (lv_at hl 2 rfl) ?_
    by_cases c4 : p0 = 20
    ·
      have qc4 : p0.toInt = 20 := by rw [c4]; rfl
      have d5 : dkN [(20, 20)] p0 := dkN_lit (20) qc4
      refine lv_tableIn (tgt := 161) hx hb dX1_gives_19 (by rw [qc4]; decide) (by rw [qc4]; decide) (by rw [qc4]; rfl) (by decide) ?_
      refine lv_iload_n hx hb dX1_gives_161 rfl (lv_at hl 3 rfl) ?_
      exact W.iret (v := p1) hx hb hr (fun t ht hW9 => ⟨⟨p1, I2, rfl, ⟨hF, hO, ⟨trivial, (show dkN [(1, 16)] (I2 338 2) from dkN_sub f2_338_2 rfl), trivial⟩⟩, dkW_eq ht hW⟩, hS.F ht⟩) hS.2.2 dX1_gives_162
    ·
      have d6 : dkN [(21, 24)] p0 := dkN_ne1 (20) dp0 (dkN_lit (x := 20) (20) rfl) (dk_ne c4) rfl
      by_cases c7 : p0 = 21
      ·
        have qc7 : p0.toInt = 21 := by rw [c7]; rfl
        have d8 : dkN [(21, 21)] p0 := dkN_lit (21) qc7
        refine lv_tableIn (tgt := 163) hx hb dX1_gives_19 (by rw [qc7]; decide) (by rw [qc7]; decide) (by rw [qc7]; rfl) (by decide) ?_
        refine lv_aload_n hx hb dX1_gives_163 rfl (lv_at hl 1 rfl) ?_
        refine lv_bipush (v := 20) hx hb dX1_gives_164 (by decide) ?_
        refine lv_iload_n hx hb dX1_gives_166 rfl (lv_at hl 3 rfl) ?_
        refine lv_iload hx hb dX1_gives_167 (lv_at hl 0 rfl) ?_
        refine dk_Vi (As := [.int 20, .int p1, .int v3]) (rest := []) ⟨hx, hb, hml, hown, hts⟩ (c_X1_gives_11 l g z I2 20 p1 v3 (dkN_lit (x := 20) (20) rfl) dp1 dv3 hO) (cwV 3 hts gX1_gives_X1_gives rfl rfl rfl (by decide +kernel) ⟨Nat.le_of_ble_eq_true rfl, Nat.le_of_ble_eq_true rfl⟩) (dk_at338 hW) rfl hK hT hW hS rfl hl.1 rfl (Nat.le_of_ble_eq_true rfl) dX1_gives_169 ⟨Nat.zero_le _, Nat.zero_le _⟩ (fun v9 I9 H9 L9 hp9 hW hS => ?_)
        obtain ⟨hF9, hO, hc9⟩ := hp9
        have hF := dkF_call hF hF9 rfl
        obtain ⟨dv9, -⟩ := hc9
        refine lv_aload_n hx hb dX1_gives_172 rfl (lv_at hl 1 rfl) ?_
        refine dk_get (k := 338) hx hb hts iX1_gives_1 hown hK (dk_at338 hW) rfl 0 (by decide) (hts (.fieldLink RX1 15 "DogKings$Asks" "now" "LDogKings$Town;") (List.mem_of_getElem? (i := 2) rfl)) rfl dX1_gives_173 ?_
        refine dk_get (k := 25) hx hb hts iX1_gives_4 hown hK (dk_at25 hW) rfl 14 (by decide) (hts (.fieldLink RX1 54 "DogKings$Town" "dogAt" "[I") (List.mem_of_getElem? (i := 4) rfl)) rfl dX1_gives_176 ?_
        refine lv_iload_n hx hb dX1_gives_179 rfl (lv_at hl 3 rfl) ?_
        refine dk_ild (k := 34) hx hb hK (dk_at34 hW) (dkN_in (n := 6) dp1 rfl) dX1_gives_180 ?_
        refine lv_topi (fun v10 ev10 => ?_)
        refine lv_iadd hx hb dX1_gives_181 ?_
        refine lv_topi (fun v11 ev11 => ?_)
        exact W.iret (v := v11) hx hb hr (fun t ht hW9 => ⟨⟨v11, I9, rfl, ⟨hF, hO, ⟨trivial, (show dkN [(1, 16)] (I9 338 2) from dkN_sub (by rw [hF9 338 2 rfl]; exact f2_338_2) rfl), trivial⟩⟩, dkW_eq ht hW⟩, hS.F ht⟩) hS.2.2 dX1_gives_182
      ·
        have d12 : dkN [(22, 24)] p0 := dkN_ne1 (21) d6 (dkN_lit (x := 21) (21) rfl) (dk_ne c7) rfl
        by_cases c13 : p0 = 22
        ·
          have qc13 : p0.toInt = 22 := by rw [c13]; rfl
          have d14 : dkN [(22, 22)] p0 := dkN_lit (22) qc13
          refine lv_tableIn (tgt := 183) hx hb dX1_gives_19 (by rw [qc13]; decide) (by rw [qc13]; decide) (by rw [qc13]; rfl) (by decide) ?_
          refine lv_aload_n hx hb dX1_gives_183 rfl (lv_at hl 1 rfl) ?_
          refine lv_bipush (v := 21) hx hb dX1_gives_184 (by decide) ?_
          refine lv_iload_n hx hb dX1_gives_186 rfl (lv_at hl 3 rfl) ?_
          refine lv_iload hx hb dX1_gives_187 (lv_at hl 0 rfl) ?_
          refine dk_Vi (As := [.int 21, .int p1, .int v3]) (rest := []) ⟨hx, hb, hml, hown, hts⟩ (c_X1_gives_20 l g z I2 21 p1 v3 (dkN_lit (x := 21) (21) rfl) dp1 dv3 hO) (cwV 3 hts gX1_gives_X1_gives rfl rfl rfl (by decide +kernel) ⟨Nat.le_of_ble_eq_true rfl, Nat.le_of_ble_eq_true rfl⟩) (dk_at338 hW) rfl hK hT hW hS rfl hl.1 rfl (Nat.le_of_ble_eq_true rfl) dX1_gives_189 ⟨Nat.zero_le _, Nat.zero_le _⟩ (fun v15 I15 H15 L15 hp15 hW hS => ?_)
          obtain ⟨hF15, hO, hc15⟩ := hp15
          have hF := dkF_call hF hF15 rfl
          obtain ⟨dv15, -⟩ := hc15
          refine lv_sipush (v := 1000) hx hb dX1_gives_192 (by decide) ?_
          refine lv_isub hx hb dX1_gives_195 ?_
          refine lv_topi (fun v16 ev16 => ?_)
          have dv16 : dkN [(-1001001, -1001001)] v16 := by rw [ev16]; exact dkN_subt dv15 (dkN_lit (x := 1000) (1000) rfl) rfl
          exact W.iret (v := v16) hx hb hr (fun t ht hW9 => ⟨⟨v16, I15, rfl, ⟨hF, hO, ⟨trivial, (show dkN [(1, 16)] (I15 338 2) from dkN_sub (by rw [hF15 338 2 rfl]; exact f2_338_2) rfl), trivial⟩⟩, dkW_eq ht hW⟩, hS.F ht⟩) hS.2.2 dX1_gives_196
        ·
          have d17 : dkN [(23, 24)] p0 := dkN_ne1 (22) d12 (dkN_lit (x := 22) (22) rfl) (dk_ne c13) rfl
          by_cases c18 : p0 = 23
          ·
            have qc18 : p0.toInt = 23 := by rw [c18]; rfl
            have d19 : dkN [(23, 23)] p0 := dkN_lit (23) qc18
            refine lv_tableIn (tgt := 197) hx hb dX1_gives_19 (by rw [qc18]; decide) (by rw [qc18]; decide) (by rw [qc18]; rfl) (by decide) ?_
            refine lv_aload_n hx hb dX1_gives_197 rfl (lv_at hl 1 rfl) ?_
            refine lv_bipush (v := 20) hx hb dX1_gives_198 (by decide) ?_
            refine lv_iload_n hx hb dX1_gives_200 rfl (lv_at hl 3 rfl) ?_
            refine lv_iload hx hb dX1_gives_201 (lv_at hl 0 rfl) ?_
            refine dk_Vi (As := [.int 20, .int p1, .int v3]) (rest := []) ⟨hx, hb, hml, hown, hts⟩ (c_X1_gives_11 l g z I2 20 p1 v3 (dkN_lit (x := 20) (20) rfl) dp1 dv3 hO) (cwV 3 hts gX1_gives_X1_gives rfl rfl rfl (by decide +kernel) ⟨Nat.le_of_ble_eq_true rfl, Nat.le_of_ble_eq_true rfl⟩) (dk_at338 hW) rfl hK hT hW hS rfl hl.1 rfl (Nat.le_of_ble_eq_true rfl) dX1_gives_203 ⟨Nat.zero_le _, Nat.zero_le _⟩ (fun v20 I20 H20 L20 hp20 hW hS => ?_)
            obtain ⟨hF20, hO, hc20⟩ := hp20
            have hF := dkF_call hF hF20 rfl
            obtain ⟨dv20, -⟩ := hc20
            refine lv_aload_n hx hb dX1_gives_206 rfl (lv_at hl 1 rfl) ?_
            refine lv_aload_n hx hb dX1_gives_207 rfl (lv_at hl 1 rfl) ?_
            refine lv_iload_n hx hb dX1_gives_208 rfl (lv_at hl 3 rfl) ?_
            refine dk_Vi (As := [.int p1]) (rest := [.ref (z + 338), .int v20]) ⟨hx, hb, hml, hown, hts⟩ (c_X1_sizeBody_0 l g z I20 p1 dp1 hO) (cwV 1 hts gX1_gives_X1_sizeBody rfl rfl rfl (by decide +kernel) ⟨Nat.le_of_ble_eq_true rfl, Nat.le_of_ble_eq_true rfl⟩) (dk_at338 hW) rfl hK hT hW hS rfl hl.1 rfl (Nat.le_of_ble_eq_true rfl) dX1_gives_209 ⟨Nat.zero_le _, Nat.zero_le _⟩ (fun v21 I21 H21 L21 hp21 hW hS => ?_)
            obtain ⟨hF21, hO, hc21⟩ := hp21
            have hF := dkF_call hF hF21 rfl
            obtain ⟨dv21, -⟩ := hc21
            refine lv_iload_n hx hb dX1_gives_212 rfl (lv_at hl 3 rfl) ?_
            refine lv_iload hx hb dX1_gives_213 (lv_at hl 0 rfl) ?_
            refine dk_Vi (As := [.int v21, .int p1, .int v3]) (rest := [.int v20]) ⟨hx, hb, hml, hown, hts⟩ (c_X1_gives_21 l g z I21 v21 p1 v3 dv21 dp1 dv3 hO) (cwV 3 hts gX1_gives_X1_gives rfl rfl rfl (by decide +kernel) ⟨Nat.le_of_ble_eq_true rfl, Nat.le_of_ble_eq_true rfl⟩) (dk_at338 hW) rfl hK hT hW hS rfl hl.1 rfl (Nat.le_of_ble_eq_true rfl) dX1_gives_215 ⟨Nat.zero_le _, Nat.zero_le _⟩ (fun v22 I22 H22 L22 hp22 hW hS => ?_)
            obtain ⟨hF22, hO, hc22⟩ := hp22
            have hF := dkF_call hF hF22 rfl
            obtain ⟨dv22, -⟩ := hc22
            refine lv_isub hx hb dX1_gives_218 ?_
            refine lv_topi (fun v23 ev23 => ?_)
            have dv23 : dkN [(0, 0)] v23 := by rw [ev23]; exact dkN_subt dv20 dv22 rfl
            exact W.iret (v := v23) hx hb hr (fun t ht hW9 => ⟨⟨v23, I22, rfl, ⟨hF, hO, ⟨trivial, (show dkN [(1, 16)] (I22 338 2) from dkN_sub (by rw [hF22 338 2 rfl]; exact (by rw [hF21 338 2 rfl]; exact (by rw [hF20 338 2 rfl]; exact f2_338_2))) rfl), trivial⟩⟩, dkW_eq ht hW⟩, hS.F ht⟩) hS.2.2 dX1_gives_219
          ·
            have d24 : dkN [(24, 24)] p0 := dkN_ne1 (23) d17 (dkN_lit (x := 23) (23) rfl) (dk_ne c18) rfl
            by_cases c25 : p0 = 24
            ·
              have qc25 : p0.toInt = 24 := by rw [c25]; rfl
              have d26 : dkN [(24, 24)] p0 := dkN_lit (24) qc25
              refine lv_tableIn (tgt := 220) hx hb dX1_gives_19 (by rw [qc25]; decide) (by rw [qc25]; decide) (by rw [qc25]; rfl) (by decide) ?_
              refine lv_iconst (v := 2) hx hb dX1_gives_220 (by decide) ?_
              refine lv_aload_n hx hb dX1_gives_221 rfl (lv_at hl 1 rfl) ?_
              refine lv_bipush (v := 21) hx hb dX1_gives_222 (by decide) ?_
              refine lv_iload_n hx hb dX1_gives_224 rfl (lv_at hl 3 rfl) ?_
              refine lv_iload hx hb dX1_gives_225 (lv_at hl 0 rfl) ?_
              refine dk_Vi (As := [.int 21, .int p1, .int v3]) (rest := [.int 2]) ⟨hx, hb, hml, hown, hts⟩ (c_X1_gives_20 l g z I2 21 p1 v3 (dkN_lit (x := 21) (21) rfl) dp1 dv3 hO) (cwV 3 hts gX1_gives_X1_gives rfl rfl rfl (by decide +kernel) ⟨Nat.le_of_ble_eq_true rfl, Nat.le_of_ble_eq_true rfl⟩) (dk_at338 hW) rfl hK hT hW hS rfl hl.1 rfl (Nat.le_of_ble_eq_true rfl) dX1_gives_227 ⟨Nat.zero_le _, Nat.zero_le _⟩ (fun v27 I27 H27 L27 hp27 hW hS => ?_)
              obtain ⟨hF27, hO, hc27⟩ := hp27
              have hF := dkF_call hF hF27 rfl
              obtain ⟨dv27, -⟩ := hc27
              refine lv_imul hx hb dX1_gives_230 ?_
              refine lv_topi (fun v28 ev28 => ?_)
              have dv28 : dkN [(-2000002, -2000002)] v28 := by rw [ev28]; exact dkN_mulL 2 (by decide) (dkN_lit (x := 2) (2) rfl) dv27 rfl
              exact W.iret (v := v28) hx hb hr (fun t ht hW9 => ⟨⟨v28, I27, rfl, ⟨hF, hO, ⟨trivial, (show dkN [(1, 16)] (I27 338 2) from dkN_sub (by rw [hF27 338 2 rfl]; exact f2_338_2) rfl), trivial⟩⟩, dkW_eq ht hW⟩, hS.F ht⟩) hS.2.2 dX1_gives_231
            ·
              exact (dkN_nil (show dkN [] p0 from dkN_ne1 (24) d24 (dkN_lit (x := 24) (24) rfl) (dk_ne c25) rfl)).elim
  ·
    exact (dkN_nil (show dkN [] p2 from dkN_le2 1 (dkN_lit (x := 5) (5) rfl) dp2 (dkc_nle c1) rfl)).elim
set_option maxHeartbeats 4000000 in
set_option maxRecDepth 100000 in
theorem c_X1_gives_17 (l : Launch) (g : dkG) (z : Nat) (I0 : dkI) (p0 : Int32) (p1 : Int32) (p2 : Int32) (dp0 : dkN [(11, 11)] p0) (dp1 : dkN [(0, 5)] p1) (dp2 : dkN [(4, 4)] p2)  (hO : dkOk I0) : Met l yX1_gives wsX1_gives (dkR 2) (dkPc g z [.ref (z + 338), .int p0, .int p1, .int p2] I0) (dkQi g z (fun r I1 => dkF [(338, 338, 2, 2), (339, 339, 0, 15)] I0 I1 ∧ dkOk I1 ∧ ((True ∧ dkN [(1, 16)] (I1 338 2) ∧ True)))) 0 0 (dkA z) := by
  refine Met.ofW (cc := cX1_gives) (maxL := 5) (ret := (some .int)) (by decide) rfl ?_
  intro p e s m args below meth c s₁ B hml hv
  obtain ⟨ha, hW, hK, hT⟩ := hv
  have hx := B.exec
  have hb := B.bytes
  have hr := B.returns
  have hts := atoms_spec (ws := wsX1_gives) B.pre
  have hown : s.vm.findClass RX1 = some m.cls := findClass_of_methodNamed B.named
  have hlocks := B.notSynchronized
  have hS : va_S (dkA z) s.heap s.heap [] := va_S.rf
  have hF : dkF [(338, 338, 2, 2), (339, 339, 0, 15)] I0 I0 := dkF_rf _ _
  have hl := lv_entry ([.ref (z + 338), .int p0, .int p1, .int p2]) (n := 5) (Nat.le_of_ble_eq_true rfl)
  have hgo : entryFrame m args 5 = entryFrame m ([.ref (z + 338), .int p0, .int p1, .int p2] : List Value).toArray 5 := by rw [ha]
  rw [hgo, lg_entry_eq]
  generalize (lg_sl ([.ref (z + 338), .int p0, .int p1, .int p2]) ++ List.replicate (5 - (lg_sl ([.ref (z + 338), .int p0, .int p1, .int p2])).length) Slot.unset).toArray = ls at hl ⊢
  have hl : lv_has ls 5 [(0, .ref (z + 338)), (1, .int p0), (2, .int p1), (3, .int p2)] := hl
  refine lv_iload_n hx hb dX1_gives_0 rfl (lv_at hl 3 rfl) ?_
  refine lv_iconst (v := 5) hx hb dX1_gives_1 (by decide) ?_
  refine lv_icmp_le (tgt := 8) hx hb dX1_gives_2 (by decide) (fun c1 => ?_) (fun c1 => ?_)
  ·
    refine lv_aload_n hx hb dX1_gives_8 rfl (lv_at hl 0 rfl) ?_
    refine lv_iload_n hx hb dX1_gives_9 rfl (lv_at hl 1 rfl) ?_
    refine dk_Vv (As := [.int p0]) (rest := []) ⟨hx, hb, hml, hown, hts⟩ (c_X1_begins_6 l g z I0 p0 dp0 hO) (cwV 1 hts gX1_gives_X1_begins rfl rfl rfl (by decide +kernel) ⟨Nat.le_of_ble_eq_true rfl, Nat.le_of_ble_eq_true rfl⟩) (dk_at338 hW) rfl hK hT hW hS rfl hl.1 rfl (Nat.le_of_ble_eq_true rfl) dX1_gives_10 ⟨Nat.zero_le _, Nat.zero_le _⟩ (fun I2 H2 L2 hp2 hW hS => ?_)
    obtain ⟨hF2, hO, hc2⟩ := hp2
    have hF := dkF_call hF hF2 rfl
    obtain ⟨f2_338_2, -⟩ := hc2
    refine lv_iload_n hx hb dX1_gives_13 rfl (lv_at hl 3 rfl) ?_
    refine lv_iconst (v := 1) hx hb dX1_gives_14 (by decide) ?_
    refine lv_iadd hx hb dX1_gives_15 ?_
    refine lv_topi (fun v3 ev3 => ?_)
    have dv3 : dkN [(5, 5)] v3 := by rw [ev3]; exact dkN_add dp2 (dkN_lit (x := 1) (1) rfl) rfl
    refine lv_istore (lv' := [(4, .int v3), (0, .ref (z + 338)), (1, .int p0), (2, .int p1), (3, .int p2)]) hx hb dX1_gives_16 hl (by decide) rfl (fun ls hl => ?_)
    refine lv_iload_n hx hb dX1_gives_18 rfl (lv_at hl 2 rfl) ?_
    by_cases c4 : p0 = 11
    ·
      have qc4 : p0.toInt = 11 := by rw [c4]; rfl
      have d5 : dkN [(11, 11)] p0 := dkN_lit (11) qc4
      refine lv_tableIn (tgt := 102) hx hb dX1_gives_19 (by rw [qc4]; decide) (by rw [qc4]; decide) (by rw [qc4]; rfl) (by decide) ?_
      refine lv_aload_n hx hb dX1_gives_102 rfl (lv_at hl 1 rfl) ?_
      refine lv_bipush (v := 10) hx hb dX1_gives_103 (by decide) ?_
      refine lv_iload_n hx hb dX1_gives_105 rfl (lv_at hl 3 rfl) ?_
      refine lv_iload hx hb dX1_gives_106 (lv_at hl 0 rfl) ?_
      refine dk_Vi (As := [.int 10, .int p1, .int v3]) (rest := []) ⟨hx, hb, hml, hown, hts⟩ (c_X1_gives_18 l g z I2 10 p1 v3 (dkN_lit (x := 10) (10) rfl) dp1 dv3 hO) (cwV 3 hts gX1_gives_X1_gives rfl rfl rfl (by decide +kernel) ⟨Nat.le_of_ble_eq_true rfl, Nat.le_of_ble_eq_true rfl⟩) (dk_at338 hW) rfl hK hT hW hS rfl hl.1 rfl (Nat.le_of_ble_eq_true rfl) dX1_gives_108 ⟨Nat.zero_le _, Nat.zero_le _⟩ (fun v6 I6 H6 L6 hp6 hW hS => ?_)
      obtain ⟨hF6, hO, hc6⟩ := hp6
      have hF := dkF_call hF hF6 rfl
      obtain ⟨_, f6_338_2, -⟩ := hc6
      refine lv_aload_n hx hb dX1_gives_111 rfl (lv_at hl 1 rfl) ?_
      refine lv_aload_n hx hb dX1_gives_112 rfl (lv_at hl 1 rfl) ?_
      refine lv_iload_n hx hb dX1_gives_113 rfl (lv_at hl 3 rfl) ?_
      refine dk_Vi (As := [.int p1]) (rest := [.ref (z + 338), .int v6]) ⟨hx, hb, hml, hown, hts⟩ (c_X1_markBody_0 l g z I6 p1 dp1 hO) (cwV 1 hts gX1_gives_X1_markBody rfl rfl rfl (by decide +kernel) ⟨Nat.le_of_ble_eq_true rfl, Nat.le_of_ble_eq_true rfl⟩) (dk_at338 hW) rfl hK hT hW hS rfl hl.1 rfl (Nat.le_of_ble_eq_true rfl) dX1_gives_114 ⟨Nat.zero_le _, Nat.zero_le _⟩ (fun v7 I7 H7 L7 hp7 hW hS => ?_)
      obtain ⟨hF7, hO, hc7⟩ := hp7
      have hF := dkF_call hF hF7 rfl
      obtain ⟨dv7, -⟩ := hc7
      refine lv_iload_n hx hb dX1_gives_117 rfl (lv_at hl 3 rfl) ?_
      refine lv_iload hx hb dX1_gives_118 (lv_at hl 0 rfl) ?_
      refine dk_Vi (As := [.int v7, .int p1, .int v3]) (rest := [.int v6]) ⟨hx, hb, hml, hown, hts⟩ (c_X1_gives_19 l g z I7 v7 p1 v3 dv7 dp1 dv3 hO) (cwV 3 hts gX1_gives_X1_gives rfl rfl rfl (by decide +kernel) ⟨Nat.le_of_ble_eq_true rfl, Nat.le_of_ble_eq_true rfl⟩) (dk_at338 hW) rfl hK hT hW hS rfl hl.1 rfl (Nat.le_of_ble_eq_true rfl) dX1_gives_120 ⟨Nat.zero_le _, Nat.zero_le _⟩ (fun v8 I8 H8 L8 hp8 hW hS => ?_)
      obtain ⟨hF8, hO, hc8⟩ := hp8
      have hF := dkF_call hF hF8 rfl
      obtain ⟨_, f8_338_2, -⟩ := hc8
      refine lv_iadd hx hb dX1_gives_123 ?_
      refine lv_topi (fun v9 ev9 => ?_)
      exact W.iret (v := v9) hx hb hr (fun t ht hW9 => ⟨⟨v9, I8, rfl, ⟨hF, hO, ⟨trivial, (show dkN [(1, 16)] (I8 338 2) from dkN_sub f8_338_2 rfl), trivial⟩⟩, dkW_eq ht hW⟩, hS.F ht⟩) hS.2.2 dX1_gives_124
    ·
      exact (dkN_nil (show dkN [] p0 from dkN_ne1 (11) dp0 (dkN_lit (x := 11) (11) rfl) (dk_ne c4) rfl)).elim
  ·
    exact (dkN_nil (show dkN [] p2 from dkN_le2 1 (dkN_lit (x := 5) (5) rfl) dp2 (dkc_nle c1) rfl)).elim
set_option maxHeartbeats 4000000 in
set_option maxRecDepth 100000 in
theorem c_X1_begins_7 (l : Launch) (g : dkG) (z : Nat) (I0 : dkI) (p0 : Int32) (dp0 : dkN [(13, 13)] p0)  (hO : dkOk I0) : Met l yX1_begins wsX1_begins (dkR 0) (dkPc g z [.ref (z + 338), .int p0] I0) (dkQv g z (fun I1 => dkF [(338, 338, 2, 2), (339, 339, 0, 15)] I0 I1 ∧ dkOk I1 ∧ ((dkN [(1, 16)] (I1 338 2) ∧ True)))) 0 0 (dkA z) := by
  refine Met.ofW (cc := cX1_begins) (maxL := 2) (ret := none) (by decide) rfl ?_
  intro p e s m args below meth c s₁ B hml hv
  obtain ⟨ha, hW, hK, hT⟩ := hv
  have hx := B.exec
  have hb := B.bytes
  have hr := B.returns
  have hts := atoms_spec (ws := wsX1_begins) B.pre
  have hown : s.vm.findClass RX1 = some m.cls := findClass_of_methodNamed B.named
  have hlocks := B.notSynchronized
  have hS : va_S (dkA z) s.heap s.heap [] := va_S.rf
  have hF : dkF [(338, 338, 2, 2), (339, 339, 0, 15)] I0 I0 := dkF_rf _ _
  have hl := lv_entry ([.ref (z + 338), .int p0]) (n := 2) (Nat.le_of_ble_eq_true rfl)
  have hgo : entryFrame m args 2 = entryFrame m ([.ref (z + 338), .int p0] : List Value).toArray 2 := by rw [ha]
  rw [hgo, lg_entry_eq]
  generalize (lg_sl ([.ref (z + 338), .int p0]) ++ List.replicate (2 - (lg_sl ([.ref (z + 338), .int p0])).length) Slot.unset).toArray = ls at hl ⊢
  have hl : lv_has ls 2 [(0, .ref (z + 338)), (1, .int p0)] := hl
  refine lv_aload_n hx hb dX1_begins_0 rfl (lv_at hl 0 rfl) ?_
  refine dk_get (k := 338) hx hb hts iX1_begins_1 hown hK (dk_at338 hW) rfl 2 (by decide) (hts (.fieldLink RX1 19 "DogKings$Asks" "tracedCount" "I") (List.mem_of_getElem? (i := 1) rfl)) rfl dX1_begins_1 ?_
  refine lv_topi (fun v1 ev1 => ?_)
  have dv1 : dkN [(0, 16)] v1 := by rw [ev1]; exact (hO 338 2)
  refine lv_bipush (v := 16) hx hb dX1_begins_4 (by decide) ?_
  refine lv_icmp_ge (tgt := 29) hx hb dX1_begins_6 (by decide) (fun c2 => ?_) (fun c2 => ?_)
  ·
    have d3 : dkN [(16, 16)] v1 := dkN_le2 0 (dkN_lit (x := 16) (16) rfl) dv1 (dkc_le c2) rfl
    have f4 : dkN [(16, 16)] (I0 338 2) := by rw [← ev1]; exact d3
    exact W.vret hx hb hr (fun t ht hW9 => ⟨⟨I0, rfl, ⟨hF, hO, ⟨(show dkN [(1, 16)] (I0 338 2) from dkN_sub f4 rfl), trivial⟩⟩, dkW_eq ht hW⟩, hS.F ht⟩) hS.2.2 dX1_begins_29
  ·
    have d5 : dkN [(0, 15)] v1 := dkN_le1 1 dv1 (dkN_lit (x := 16) (16) rfl) (dkc_nle c2) rfl
    have f6 : dkN [(0, 15)] (I0 338 2) := by rw [← ev1]; exact d5
    refine lv_aload_n hx hb dX1_begins_9 rfl (lv_at hl 0 rfl) ?_
    refine dk_get (k := 338) hx hb hts iX1_begins_1 hown hK (dk_at338 hW) rfl 1 (by decide) (hts (.fieldLink RX1 11 "DogKings$Asks" "traced" "[I") (List.mem_of_getElem? (i := 2) rfl)) rfl dX1_begins_10 ?_
    refine lv_aload_n hx hb dX1_begins_13 rfl (lv_at hl 0 rfl) ?_
    refine dk_get (k := 338) hx hb hts iX1_begins_1 hown hK (dk_at338 hW) rfl 2 (by decide) (hts (.fieldLink RX1 19 "DogKings$Asks" "tracedCount" "I") (List.mem_of_getElem? (i := 1) rfl)) rfl dX1_begins_14 ?_
    refine lv_topi (fun v7 ev7 => ?_)
    have dv7 : dkN [(0, 15)] v7 := by rw [ev7]; exact f6
    refine lv_iload_n hx hb dX1_begins_17 rfl (lv_at hl 1 rfl) ?_
    refine dk_ist (k := 339) hx hb hK hW (fun _ => rfl) (by decide) hS (dkN_in (n := 16) dv7 rfl) dX1_begins_18 (fun I8 H8 L8 eI8 hW hS => ?_)
    have hO := dkO_set hO eI8 (dkN_sub dp0 rfl)
    have hF := dkF_set hF eI8 (dkIn_v dv7 rfl)
    refine lv_aload_n hx hb dX1_begins_19 rfl (lv_at hl 0 rfl) ?_
    refine lv_dup hx hb dX1_begins_20 rfl ?_
    refine dk_get (k := 338) hx hb hts iX1_begins_1 hown hK (dk_at338 hW) rfl 2 (by decide) (hts (.fieldLink RX1 19 "DogKings$Asks" "tracedCount" "I") (List.mem_of_getElem? (i := 1) rfl)) rfl dX1_begins_21 ?_
    refine lv_topi (fun v9 ev9 => ?_)
    have dv9 : dkN [(0, 15)] v9 := by rw [ev9]; exact (by rw [eI8, dkU_n (by decide)]; exact f6)
    refine lv_iconst (v := 1) hx hb dX1_begins_24 (by decide) ?_
    refine lv_iadd hx hb dX1_begins_25 ?_
    refine lv_topi (fun v10 ev10 => ?_)
    have dv10 : dkN [(1, 16)] v10 := by rw [ev10]; exact dkN_add dv9 (dkN_lit (x := 1) (1) rfl) rfl
    refine dk_put (k := 338) hx hb hts iX1_begins_1 tyX1 tyX1_ok nmX1 hown hK hW (dk_at338 hW) hS rfl 2 (by decide) (hts (.fieldLink RX1 19 "DogKings$Asks" "tracedCount" "I") (List.mem_of_getElem? (i := 1) rfl)) rfl rfl (Nat.le_of_ble_eq_true rfl) rfl dX1_begins_26 (fun I11 H11 L11 eI11 hW hS => ?_)
    have eI11 : I11 = dkU I8 338 2 v10 := eI11
    have hO := dkO_set hO eI11 (dkN_sub dv10 rfl)
    have hF := dkF_set hF eI11 rfl
    exact W.vret hx hb hr (fun t ht hW9 => ⟨⟨I11, rfl, ⟨hF, hO, ⟨(show dkN [(1, 16)] (I11 338 2) from dkN_sub (by rw [eI11, dkU_ss]; exact dv10) rfl), trivial⟩⟩, dkW_eq ht hW⟩, hS.F ht⟩) hS.2.2 dX1_begins_29
set_option maxHeartbeats 4000000 in
set_option maxRecDepth 100000 in
theorem c_X1_gives_22 (l : Launch) (g : dkG) (z : Nat) (I0 : dkI) (p0 : Int32) (p1 : Int32) (p2 : Int32) (dp0 : dkN [(13, 13)] p0) (dp1 : dkN [(0, 5)] p1) (dp2 : dkN [(4, 4)] p2)  (hO : dkOk I0) : Met l yX1_gives wsX1_gives (dkR 2) (dkPc g z [.ref (z + 338), .int p0, .int p1, .int p2] I0) (dkQi g z (fun r I1 => dkF [(338, 338, 2, 2), (339, 339, 0, 15)] I0 I1 ∧ dkOk I1 ∧ ((True ∧ dkN [(1, 16)] (I1 338 2) ∧ True)))) 0 0 (dkA z) := by
  refine Met.ofW (cc := cX1_gives) (maxL := 5) (ret := (some .int)) (by decide) rfl ?_
  intro p e s m args below meth c s₁ B hml hv
  obtain ⟨ha, hW, hK, hT⟩ := hv
  have hx := B.exec
  have hb := B.bytes
  have hr := B.returns
  have hts := atoms_spec (ws := wsX1_gives) B.pre
  have hown : s.vm.findClass RX1 = some m.cls := findClass_of_methodNamed B.named
  have hlocks := B.notSynchronized
  have hS : va_S (dkA z) s.heap s.heap [] := va_S.rf
  have hF : dkF [(338, 338, 2, 2), (339, 339, 0, 15)] I0 I0 := dkF_rf _ _
  have hl := lv_entry ([.ref (z + 338), .int p0, .int p1, .int p2]) (n := 5) (Nat.le_of_ble_eq_true rfl)
  have hgo : entryFrame m args 5 = entryFrame m ([.ref (z + 338), .int p0, .int p1, .int p2] : List Value).toArray 5 := by rw [ha]
  rw [hgo, lg_entry_eq]
  generalize (lg_sl ([.ref (z + 338), .int p0, .int p1, .int p2]) ++ List.replicate (5 - (lg_sl ([.ref (z + 338), .int p0, .int p1, .int p2])).length) Slot.unset).toArray = ls at hl ⊢
  have hl : lv_has ls 5 [(0, .ref (z + 338)), (1, .int p0), (2, .int p1), (3, .int p2)] := hl
  refine lv_iload_n hx hb dX1_gives_0 rfl (lv_at hl 3 rfl) ?_
  refine lv_iconst (v := 5) hx hb dX1_gives_1 (by decide) ?_
  refine lv_icmp_le (tgt := 8) hx hb dX1_gives_2 (by decide) (fun c1 => ?_) (fun c1 => ?_)
  ·
    refine lv_aload_n hx hb dX1_gives_8 rfl (lv_at hl 0 rfl) ?_
    refine lv_iload_n hx hb dX1_gives_9 rfl (lv_at hl 1 rfl) ?_
    refine dk_Vv (As := [.int p0]) (rest := []) ⟨hx, hb, hml, hown, hts⟩ (c_X1_begins_7 l g z I0 p0 dp0 hO) (cwV 1 hts gX1_gives_X1_begins rfl rfl rfl (by decide +kernel) ⟨Nat.le_of_ble_eq_true rfl, Nat.le_of_ble_eq_true rfl⟩) (dk_at338 hW) rfl hK hT hW hS rfl hl.1 rfl (Nat.le_of_ble_eq_true rfl) dX1_gives_10 ⟨Nat.zero_le _, Nat.zero_le _⟩ (fun I2 H2 L2 hp2 hW hS => ?_)
    obtain ⟨hF2, hO, hc2⟩ := hp2
    have hF := dkF_call hF hF2 rfl
    obtain ⟨f2_338_2, -⟩ := hc2
    refine lv_iload_n hx hb dX1_gives_13 rfl (lv_at hl 3 rfl) ?_
    refine lv_iconst (v := 1) hx hb dX1_gives_14 (by decide) ?_
    refine lv_iadd hx hb dX1_gives_15 ?_
    refine lv_topi (fun v3 ev3 => ?_)
    have dv3 : dkN [(5, 5)] v3 := by rw [ev3]; exact dkN_add dp2 (dkN_lit (x := 1) (1) rfl) rfl
    refine lv_istore (lv' := [(4, .int v3), (0, .ref (z + 338)), (1, .int p0), (2, .int p1), (3, .int p2)]) hx hb dX1_gives_16 hl (by decide) rfl (fun ls hl => ?_)
    refine lv_iload_n hx hb dX1_gives_18 rfl (lv_at hl 2 rfl) ?_
    by_cases c4 : p0 = 13
    ·
      have qc4 : p0.toInt = 13 := by rw [c4]; rfl
      have d5 : dkN [(13, 13)] p0 := dkN_lit (13) qc4
      refine lv_tableIn (tgt := 136) hx hb dX1_gives_19 (by rw [qc4]; decide) (by rw [qc4]; decide) (by rw [qc4]; rfl) (by decide) ?_
      refine lv_aload_n hx hb dX1_gives_136 rfl (lv_at hl 1 rfl) ?_
      refine lv_bipush (v := 10) hx hb dX1_gives_137 (by decide) ?_
      refine lv_iload_n hx hb dX1_gives_139 rfl (lv_at hl 3 rfl) ?_
      refine lv_iload hx hb dX1_gives_140 (lv_at hl 0 rfl) ?_
      refine dk_Vi (As := [.int 10, .int p1, .int v3]) (rest := []) ⟨hx, hb, hml, hown, hts⟩ (c_X1_gives_18 l g z I2 10 p1 v3 (dkN_lit (x := 10) (10) rfl) dp1 dv3 hO) (cwV 3 hts gX1_gives_X1_gives rfl rfl rfl (by decide +kernel) ⟨Nat.le_of_ble_eq_true rfl, Nat.le_of_ble_eq_true rfl⟩) (dk_at338 hW) rfl hK hT hW hS rfl hl.1 rfl (Nat.le_of_ble_eq_true rfl) dX1_gives_142 ⟨Nat.zero_le _, Nat.zero_le _⟩ (fun v6 I6 H6 L6 hp6 hW hS => ?_)
      obtain ⟨hF6, hO, hc6⟩ := hp6
      have hF := dkF_call hF hF6 rfl
      obtain ⟨_, f6_338_2, -⟩ := hc6
      refine lv_bipush (v := 100) hx hb dX1_gives_145 (by decide) ?_
      refine lv_isub hx hb dX1_gives_147 ?_
      refine lv_topi (fun v7 ev7 => ?_)
      exact W.iret (v := v7) hx hb hr (fun t ht hW9 => ⟨⟨v7, I6, rfl, ⟨hF, hO, ⟨trivial, (show dkN [(1, 16)] (I6 338 2) from dkN_sub f6_338_2 rfl), trivial⟩⟩, dkW_eq ht hW⟩, hS.F ht⟩) hS.2.2 dX1_gives_148
    ·
      exact (dkN_nil (show dkN [] p0 from dkN_ne1 (13) dp0 (dkN_lit (x := 13) (13) rfl) (dk_ne c4) rfl)).elim
  ·
    exact (dkN_nil (show dkN [] p2 from dkN_le2 1 (dkN_lit (x := 5) (5) rfl) dp2 (dkc_nle c1) rfl)).elim
set_option maxHeartbeats 4000000 in
set_option maxRecDepth 100000 in
theorem c_X1_gives_6 (l : Launch) (g : dkG) (z : Nat) (I0 : dkI) (p0 : Int32) (p1 : Int32) (p2 : Int32) (dp0 : dkN [(10, 14)] p0) (dp1 : dkN [(0, 5)] p1) (dp2 : dkN [(3, 3)] p2)  (hO : dkOk I0) : Met l yX1_gives wsX1_gives (dkR 3) (dkPc g z [.ref (z + 338), .int p0, .int p1, .int p2] I0) (dkQi g z (fun r I1 => dkF [(338, 338, 2, 2), (339, 339, 0, 15)] I0 I1 ∧ dkOk I1 ∧ ((True ∧ dkN [(1, 16)] (I1 338 2) ∧ True)))) 0 0 (dkA z) := by
  refine Met.ofW (cc := cX1_gives) (maxL := 5) (ret := (some .int)) (by decide) rfl ?_
  intro p e s m args below meth c s₁ B hml hv
  obtain ⟨ha, hW, hK, hT⟩ := hv
  have hx := B.exec
  have hb := B.bytes
  have hr := B.returns
  have hts := atoms_spec (ws := wsX1_gives) B.pre
  have hown : s.vm.findClass RX1 = some m.cls := findClass_of_methodNamed B.named
  have hlocks := B.notSynchronized
  have hS : va_S (dkA z) s.heap s.heap [] := va_S.rf
  have hF : dkF [(338, 338, 2, 2), (339, 339, 0, 15)] I0 I0 := dkF_rf _ _
  have hl := lv_entry ([.ref (z + 338), .int p0, .int p1, .int p2]) (n := 5) (Nat.le_of_ble_eq_true rfl)
  have hgo : entryFrame m args 5 = entryFrame m ([.ref (z + 338), .int p0, .int p1, .int p2] : List Value).toArray 5 := by rw [ha]
  rw [hgo, lg_entry_eq]
  generalize (lg_sl ([.ref (z + 338), .int p0, .int p1, .int p2]) ++ List.replicate (5 - (lg_sl ([.ref (z + 338), .int p0, .int p1, .int p2])).length) Slot.unset).toArray = ls at hl ⊢
  have hl : lv_has ls 5 [(0, .ref (z + 338)), (1, .int p0), (2, .int p1), (3, .int p2)] := hl
  refine lv_iload_n hx hb dX1_gives_0 rfl (lv_at hl 3 rfl) ?_
  refine lv_iconst (v := 5) hx hb dX1_gives_1 (by decide) ?_
  refine lv_icmp_le (tgt := 8) hx hb dX1_gives_2 (by decide) (fun c1 => ?_) (fun c1 => ?_)
  ·
    refine lv_aload_n hx hb dX1_gives_8 rfl (lv_at hl 0 rfl) ?_
    refine lv_iload_n hx hb dX1_gives_9 rfl (lv_at hl 1 rfl) ?_
    refine dk_Vv (As := [.int p0]) (rest := []) ⟨hx, hb, hml, hown, hts⟩ (c_X1_begins_5 l g z I0 p0 dp0 hO) (cwV 1 hts gX1_gives_X1_begins rfl rfl rfl (by decide +kernel) ⟨Nat.le_of_ble_eq_true rfl, Nat.le_of_ble_eq_true rfl⟩) (dk_at338 hW) rfl hK hT hW hS rfl hl.1 rfl (Nat.le_of_ble_eq_true rfl) dX1_gives_10 ⟨Nat.zero_le _, Nat.zero_le _⟩ (fun I2 H2 L2 hp2 hW hS => ?_)
    obtain ⟨hF2, hO, hc2⟩ := hp2
    have hF := dkF_call hF hF2 rfl
    obtain ⟨f2_338_2, -⟩ := hc2
    refine lv_iload_n hx hb dX1_gives_13 rfl (lv_at hl 3 rfl) ?_
    refine lv_iconst (v := 1) hx hb dX1_gives_14 (by decide) ?_
    refine lv_iadd hx hb dX1_gives_15 ?_
    refine lv_topi (fun v3 ev3 => ?_)
    have dv3 : dkN [(4, 4)] v3 := by rw [ev3]; exact dkN_add dp2 (dkN_lit (x := 1) (1) rfl) rfl
    refine lv_istore (lv' := [(4, .int v3), (0, .ref (z + 338)), (1, .int p0), (2, .int p1), (3, .int p2)]) hx hb dX1_gives_16 hl (by decide) rfl (fun ls hl => ?_)
    refine lv_iload_n hx hb dX1_gives_18 rfl (lv_at hl 2 rfl) ?_
    by_cases c4 : p0 = 10
    ·
      have qc4 : p0.toInt = 10 := by rw [c4]; rfl
      have d5 : dkN [(10, 10)] p0 := dkN_lit (10) qc4
      refine lv_tableIn (tgt := 92) hx hb dX1_gives_19 (by rw [qc4]; decide) (by rw [qc4]; decide) (by rw [qc4]; rfl) (by decide) ?_
      refine lv_aload_n hx hb dX1_gives_92 rfl (lv_at hl 1 rfl) ?_
      refine dk_get (k := 338) hx hb hts iX1_gives_1 hown hK (dk_at338 hW) rfl 0 (by decide) (hts (.fieldLink RX1 15 "DogKings$Asks" "now" "LDogKings$Town;") (List.mem_of_getElem? (i := 2) rfl)) rfl dX1_gives_93 ?_
      refine dk_get (k := 25) hx hb hts iX1_gives_4 hown hK (dk_at25 hW) rfl 13 (by decide) (hts (.fieldLink RX1 51 "DogKings$Town" "dogHome" "[I") (List.mem_of_getElem? (i := 3) rfl)) rfl dX1_gives_96 ?_
      refine lv_iload_n hx hb dX1_gives_99 rfl (lv_at hl 3 rfl) ?_
      refine dk_ild (k := 33) hx hb hK (dk_at33 hW) (dkN_in (n := 6) dp1 rfl) dX1_gives_100 ?_
      refine lv_topi (fun v6 ev6 => ?_)
      exact W.iret (v := v6) hx hb hr (fun t ht hW9 => ⟨⟨v6, I2, rfl, ⟨hF, hO, ⟨trivial, (show dkN [(1, 16)] (I2 338 2) from dkN_sub f2_338_2 rfl), trivial⟩⟩, dkW_eq ht hW⟩, hS.F ht⟩) hS.2.2 dX1_gives_101
    ·
      have d7 : dkN [(11, 14)] p0 := dkN_ne1 (10) dp0 (dkN_lit (x := 10) (10) rfl) (dk_ne c4) rfl
      by_cases c8 : p0 = 11
      ·
        have qc8 : p0.toInt = 11 := by rw [c8]; rfl
        have d9 : dkN [(11, 11)] p0 := dkN_lit (11) qc8
        refine lv_tableIn (tgt := 102) hx hb dX1_gives_19 (by rw [qc8]; decide) (by rw [qc8]; decide) (by rw [qc8]; rfl) (by decide) ?_
        refine lv_aload_n hx hb dX1_gives_102 rfl (lv_at hl 1 rfl) ?_
        refine lv_bipush (v := 10) hx hb dX1_gives_103 (by decide) ?_
        refine lv_iload_n hx hb dX1_gives_105 rfl (lv_at hl 3 rfl) ?_
        refine lv_iload hx hb dX1_gives_106 (lv_at hl 0 rfl) ?_
        refine dk_Vi (As := [.int 10, .int p1, .int v3]) (rest := []) ⟨hx, hb, hml, hown, hts⟩ (c_X1_gives_7 l g z I2 10 p1 v3 (dkN_lit (x := 10) (10) rfl) dp1 dv3 hO) (cwV 3 hts gX1_gives_X1_gives rfl rfl rfl (by decide +kernel) ⟨Nat.le_of_ble_eq_true rfl, Nat.le_of_ble_eq_true rfl⟩) (dk_at338 hW) rfl hK hT hW hS rfl hl.1 rfl (Nat.le_of_ble_eq_true rfl) dX1_gives_108 ⟨Nat.zero_le _, Nat.zero_le _⟩ (fun v10 I10 H10 L10 hp10 hW hS => ?_)
        obtain ⟨hF10, hO, hc10⟩ := hp10
        have hF := dkF_call hF hF10 rfl
        obtain ⟨_, f10_338_2, -⟩ := hc10
        refine lv_aload_n hx hb dX1_gives_111 rfl (lv_at hl 1 rfl) ?_
        refine lv_aload_n hx hb dX1_gives_112 rfl (lv_at hl 1 rfl) ?_
        refine lv_iload_n hx hb dX1_gives_113 rfl (lv_at hl 3 rfl) ?_
        refine dk_Vi (As := [.int p1]) (rest := [.ref (z + 338), .int v10]) ⟨hx, hb, hml, hown, hts⟩ (c_X1_markBody_0 l g z I10 p1 dp1 hO) (cwV 1 hts gX1_gives_X1_markBody rfl rfl rfl (by decide +kernel) ⟨Nat.le_of_ble_eq_true rfl, Nat.le_of_ble_eq_true rfl⟩) (dk_at338 hW) rfl hK hT hW hS rfl hl.1 rfl (Nat.le_of_ble_eq_true rfl) dX1_gives_114 ⟨Nat.zero_le _, Nat.zero_le _⟩ (fun v11 I11 H11 L11 hp11 hW hS => ?_)
        obtain ⟨hF11, hO, hc11⟩ := hp11
        have hF := dkF_call hF hF11 rfl
        obtain ⟨dv11, -⟩ := hc11
        refine lv_iload_n hx hb dX1_gives_117 rfl (lv_at hl 3 rfl) ?_
        refine lv_iload hx hb dX1_gives_118 (lv_at hl 0 rfl) ?_
        refine dk_Vi (As := [.int v11, .int p1, .int v3]) (rest := [.int v10]) ⟨hx, hb, hml, hown, hts⟩ (c_X1_gives_8 l g z I11 v11 p1 v3 dv11 dp1 dv3 hO) (cwV 3 hts gX1_gives_X1_gives rfl rfl rfl (by decide +kernel) ⟨Nat.le_of_ble_eq_true rfl, Nat.le_of_ble_eq_true rfl⟩) (dk_at338 hW) rfl hK hT hW hS rfl hl.1 rfl (Nat.le_of_ble_eq_true rfl) dX1_gives_120 ⟨Nat.zero_le _, Nat.zero_le _⟩ (fun v12 I12 H12 L12 hp12 hW hS => ?_)
        obtain ⟨hF12, hO, hc12⟩ := hp12
        have hF := dkF_call hF hF12 rfl
        obtain ⟨_, f12_338_2, -⟩ := hc12
        refine lv_iadd hx hb dX1_gives_123 ?_
        refine lv_topi (fun v13 ev13 => ?_)
        exact W.iret (v := v13) hx hb hr (fun t ht hW9 => ⟨⟨v13, I12, rfl, ⟨hF, hO, ⟨trivial, (show dkN [(1, 16)] (I12 338 2) from dkN_sub f12_338_2 rfl), trivial⟩⟩, dkW_eq ht hW⟩, hS.F ht⟩) hS.2.2 dX1_gives_124
      ·
        have d14 : dkN [(12, 14)] p0 := dkN_ne1 (11) d7 (dkN_lit (x := 11) (11) rfl) (dk_ne c8) rfl
        by_cases c15 : p0 = 12
        ·
          have qc15 : p0.toInt = 12 := by rw [c15]; rfl
          have d16 : dkN [(12, 12)] p0 := dkN_lit (12) qc15
          refine lv_tableIn (tgt := 125) hx hb dX1_gives_19 (by rw [qc15]; decide) (by rw [qc15]; decide) (by rw [qc15]; rfl) (by decide) ?_
          refine lv_aload_n hx hb dX1_gives_125 rfl (lv_at hl 1 rfl) ?_
          refine lv_bipush (v := 11) hx hb dX1_gives_126 (by decide) ?_
          refine lv_iload_n hx hb dX1_gives_128 rfl (lv_at hl 3 rfl) ?_
          refine lv_iload hx hb dX1_gives_129 (lv_at hl 0 rfl) ?_
          refine dk_Vi (As := [.int 11, .int p1, .int v3]) (rest := []) ⟨hx, hb, hml, hown, hts⟩ (c_X1_gives_17 l g z I2 11 p1 v3 (dkN_lit (x := 11) (11) rfl) dp1 dv3 hO) (cwV 3 hts gX1_gives_X1_gives rfl rfl rfl (by decide +kernel) ⟨Nat.le_of_ble_eq_true rfl, Nat.le_of_ble_eq_true rfl⟩) (dk_at338 hW) rfl hK hT hW hS rfl hl.1 rfl (Nat.le_of_ble_eq_true rfl) dX1_gives_131 ⟨Nat.zero_le _, Nat.zero_le _⟩ (fun v17 I17 H17 L17 hp17 hW hS => ?_)
          obtain ⟨hF17, hO, hc17⟩ := hp17
          have hF := dkF_call hF hF17 rfl
          obtain ⟨_, f17_338_2, -⟩ := hc17
          refine lv_ineg hx hb dX1_gives_134 ?_
          refine lv_topi (fun v18 ev18 => ?_)
          exact W.iret (v := v18) hx hb hr (fun t ht hW9 => ⟨⟨v18, I17, rfl, ⟨hF, hO, ⟨trivial, (show dkN [(1, 16)] (I17 338 2) from dkN_sub f17_338_2 rfl), trivial⟩⟩, dkW_eq ht hW⟩, hS.F ht⟩) hS.2.2 dX1_gives_135
        ·
          have d19 : dkN [(13, 14)] p0 := dkN_ne1 (12) d14 (dkN_lit (x := 12) (12) rfl) (dk_ne c15) rfl
          by_cases c20 : p0 = 13
          ·
            have qc20 : p0.toInt = 13 := by rw [c20]; rfl
            have d21 : dkN [(13, 13)] p0 := dkN_lit (13) qc20
            refine lv_tableIn (tgt := 136) hx hb dX1_gives_19 (by rw [qc20]; decide) (by rw [qc20]; decide) (by rw [qc20]; rfl) (by decide) ?_
            refine lv_aload_n hx hb dX1_gives_136 rfl (lv_at hl 1 rfl) ?_
            refine lv_bipush (v := 10) hx hb dX1_gives_137 (by decide) ?_
            refine lv_iload_n hx hb dX1_gives_139 rfl (lv_at hl 3 rfl) ?_
            refine lv_iload hx hb dX1_gives_140 (lv_at hl 0 rfl) ?_
            refine dk_Vi (As := [.int 10, .int p1, .int v3]) (rest := []) ⟨hx, hb, hml, hown, hts⟩ (c_X1_gives_7 l g z I2 10 p1 v3 (dkN_lit (x := 10) (10) rfl) dp1 dv3 hO) (cwV 3 hts gX1_gives_X1_gives rfl rfl rfl (by decide +kernel) ⟨Nat.le_of_ble_eq_true rfl, Nat.le_of_ble_eq_true rfl⟩) (dk_at338 hW) rfl hK hT hW hS rfl hl.1 rfl (Nat.le_of_ble_eq_true rfl) dX1_gives_142 ⟨Nat.zero_le _, Nat.zero_le _⟩ (fun v22 I22 H22 L22 hp22 hW hS => ?_)
            obtain ⟨hF22, hO, hc22⟩ := hp22
            have hF := dkF_call hF hF22 rfl
            obtain ⟨_, f22_338_2, -⟩ := hc22
            refine lv_bipush (v := 100) hx hb dX1_gives_145 (by decide) ?_
            refine lv_isub hx hb dX1_gives_147 ?_
            refine lv_topi (fun v23 ev23 => ?_)
            exact W.iret (v := v23) hx hb hr (fun t ht hW9 => ⟨⟨v23, I22, rfl, ⟨hF, hO, ⟨trivial, (show dkN [(1, 16)] (I22 338 2) from dkN_sub f22_338_2 rfl), trivial⟩⟩, dkW_eq ht hW⟩, hS.F ht⟩) hS.2.2 dX1_gives_148
          ·
            have d24 : dkN [(14, 14)] p0 := dkN_ne1 (13) d19 (dkN_lit (x := 13) (13) rfl) (dk_ne c20) rfl
            by_cases c25 : p0 = 14
            ·
              have qc25 : p0.toInt = 14 := by rw [c25]; rfl
              have d26 : dkN [(14, 14)] p0 := dkN_lit (14) qc25
              refine lv_tableIn (tgt := 149) hx hb dX1_gives_19 (by rw [qc25]; decide) (by rw [qc25]; decide) (by rw [qc25]; rfl) (by decide) ?_
              refine lv_iconst (v := 2) hx hb dX1_gives_149 (by decide) ?_
              refine lv_aload_n hx hb dX1_gives_150 rfl (lv_at hl 1 rfl) ?_
              refine lv_bipush (v := 13) hx hb dX1_gives_151 (by decide) ?_
              refine lv_iload_n hx hb dX1_gives_153 rfl (lv_at hl 3 rfl) ?_
              refine lv_iload hx hb dX1_gives_154 (lv_at hl 0 rfl) ?_
              refine dk_Vi (As := [.int 13, .int p1, .int v3]) (rest := [.int 2]) ⟨hx, hb, hml, hown, hts⟩ (c_X1_gives_22 l g z I2 13 p1 v3 (dkN_lit (x := 13) (13) rfl) dp1 dv3 hO) (cwV 3 hts gX1_gives_X1_gives rfl rfl rfl (by decide +kernel) ⟨Nat.le_of_ble_eq_true rfl, Nat.le_of_ble_eq_true rfl⟩) (dk_at338 hW) rfl hK hT hW hS rfl hl.1 rfl (Nat.le_of_ble_eq_true rfl) dX1_gives_156 ⟨Nat.zero_le _, Nat.zero_le _⟩ (fun v27 I27 H27 L27 hp27 hW hS => ?_)
              obtain ⟨hF27, hO, hc27⟩ := hp27
              have hF := dkF_call hF hF27 rfl
              obtain ⟨_, f27_338_2, -⟩ := hc27
              refine lv_imul hx hb dX1_gives_159 ?_
              refine lv_topi (fun v28 ev28 => ?_)
              exact W.iret (v := v28) hx hb hr (fun t ht hW9 => ⟨⟨v28, I27, rfl, ⟨hF, hO, ⟨trivial, (show dkN [(1, 16)] (I27 338 2) from dkN_sub f27_338_2 rfl), trivial⟩⟩, dkW_eq ht hW⟩, hS.F ht⟩) hS.2.2 dX1_gives_160
            ·
              exact (dkN_nil (show dkN [] p0 from dkN_ne1 (14) d24 (dkN_lit (x := 14) (14) rfl) (dk_ne c25) rfl)).elim
  ·
    exact (dkN_nil (show dkN [] p2 from dkN_le2 1 (dkN_lit (x := 5) (5) rfl) dp2 (dkc_nle c1) rfl)).elim
set_option maxHeartbeats 4000000 in
set_option maxRecDepth 100000 in
theorem c_X1_gives_2 (l : Launch) (g : dkG) (z : Nat) (I0 : dkI) (p0 : Int32) (p1 : Int32) (p2 : Int32) (dp0 : dkN [(20, 24)] p0) (dp1 : dkN [(0, 5)] p1) (dp2 : dkN [(2, 2)] p2)  (hO : dkOk I0) : Met l yX1_gives wsX1_gives (dkR 4) (dkPc g z [.ref (z + 338), .int p0, .int p1, .int p2] I0) (dkQi g z (fun r I1 => dkF [(338, 338, 2, 2), (339, 339, 0, 15)] I0 I1 ∧ dkOk I1 ∧ ((True ∧ dkN [(1, 16)] (I1 338 2) ∧ True)))) 0 0 (dkA z) := by
  refine Met.ofW (cc := cX1_gives) (maxL := 5) (ret := (some .int)) (by decide) rfl ?_
  intro p e s m args below meth c s₁ B hml hv
  obtain ⟨ha, hW, hK, hT⟩ := hv
  have hx := B.exec
  have hb := B.bytes
  have hr := B.returns
  have hts := atoms_spec (ws := wsX1_gives) B.pre
  have hown : s.vm.findClass RX1 = some m.cls := findClass_of_methodNamed B.named
  have hlocks := B.notSynchronized
  have hS : va_S (dkA z) s.heap s.heap [] := va_S.rf
  have hF : dkF [(338, 338, 2, 2), (339, 339, 0, 15)] I0 I0 := dkF_rf _ _
  have hl := lv_entry ([.ref (z + 338), .int p0, .int p1, .int p2]) (n := 5) (Nat.le_of_ble_eq_true rfl)
  have hgo : entryFrame m args 5 = entryFrame m ([.ref (z + 338), .int p0, .int p1, .int p2] : List Value).toArray 5 := by rw [ha]
  rw [hgo, lg_entry_eq]
  generalize (lg_sl ([.ref (z + 338), .int p0, .int p1, .int p2]) ++ List.replicate (5 - (lg_sl ([.ref (z + 338), .int p0, .int p1, .int p2])).length) Slot.unset).toArray = ls at hl ⊢
  have hl : lv_has ls 5 [(0, .ref (z + 338)), (1, .int p0), (2, .int p1), (3, .int p2)] := hl
  refine lv_iload_n hx hb dX1_gives_0 rfl (lv_at hl 3 rfl) ?_
  refine lv_iconst (v := 5) hx hb dX1_gives_1 (by decide) ?_
  refine lv_icmp_le (tgt := 8) hx hb dX1_gives_2 (by decide) (fun c1 => ?_) (fun c1 => ?_)
  ·
    refine lv_aload_n hx hb dX1_gives_8 rfl (lv_at hl 0 rfl) ?_
    refine lv_iload_n hx hb dX1_gives_9 rfl (lv_at hl 1 rfl) ?_
    refine dk_Vv (As := [.int p0]) (rest := []) ⟨hx, hb, hml, hown, hts⟩ (c_X1_begins_2 l g z I0 p0 dp0 hO) (cwV 1 hts gX1_gives_X1_begins rfl rfl rfl (by decide +kernel) ⟨Nat.le_of_ble_eq_true rfl, Nat.le_of_ble_eq_true rfl⟩) (dk_at338 hW) rfl hK hT hW hS rfl hl.1 rfl (Nat.le_of_ble_eq_true rfl) dX1_gives_10 ⟨Nat.zero_le _, Nat.zero_le _⟩ (fun I2 H2 L2 hp2 hW hS => ?_)
    obtain ⟨hF2, hO, hc2⟩ := hp2
    have hF := dkF_call hF hF2 rfl
    obtain ⟨f2_338_2, -⟩ := hc2
    refine lv_iload_n hx hb dX1_gives_13 rfl (lv_at hl 3 rfl) ?_
    refine lv_iconst (v := 1) hx hb dX1_gives_14 (by decide) ?_
    refine lv_iadd hx hb dX1_gives_15 ?_
    refine lv_topi (fun v3 ev3 => ?_)
    have dv3 : dkN [(3, 3)] v3 := by rw [ev3]; exact dkN_add dp2 (dkN_lit (x := 1) (1) rfl) rfl
    refine lv_istore (lv' := [(4, .int v3), (0, .ref (z + 338)), (1, .int p0), (2, .int p1), (3, .int p2)]) hx hb dX1_gives_16 hl (by decide) rfl (fun ls hl => ?_)
    refine lv_iload_n hx hb dX1_gives_18 rfl (lv_at hl 2 rfl) ?_
    by_cases c4 : p0 = 20
    ·
      have qc4 : p0.toInt = 20 := by rw [c4]; rfl
      have d5 : dkN [(20, 20)] p0 := dkN_lit (20) qc4
      refine lv_tableIn (tgt := 161) hx hb dX1_gives_19 (by rw [qc4]; decide) (by rw [qc4]; decide) (by rw [qc4]; rfl) (by decide) ?_
      refine lv_iload_n hx hb dX1_gives_161 rfl (lv_at hl 3 rfl) ?_
      exact W.iret (v := p1) hx hb hr (fun t ht hW9 => ⟨⟨p1, I2, rfl, ⟨hF, hO, ⟨trivial, (show dkN [(1, 16)] (I2 338 2) from dkN_sub f2_338_2 rfl), trivial⟩⟩, dkW_eq ht hW⟩, hS.F ht⟩) hS.2.2 dX1_gives_162
    ·
      have d6 : dkN [(21, 24)] p0 := dkN_ne1 (20) dp0 (dkN_lit (x := 20) (20) rfl) (dk_ne c4) rfl
      by_cases c7 : p0 = 21
      ·
        have qc7 : p0.toInt = 21 := by rw [c7]; rfl
        have d8 : dkN [(21, 21)] p0 := dkN_lit (21) qc7
        refine lv_tableIn (tgt := 163) hx hb dX1_gives_19 (by rw [qc7]; decide) (by rw [qc7]; decide) (by rw [qc7]; rfl) (by decide) ?_
        refine lv_aload_n hx hb dX1_gives_163 rfl (lv_at hl 1 rfl) ?_
        refine lv_bipush (v := 20) hx hb dX1_gives_164 (by decide) ?_
        refine lv_iload_n hx hb dX1_gives_166 rfl (lv_at hl 3 rfl) ?_
        refine lv_iload hx hb dX1_gives_167 (lv_at hl 0 rfl) ?_
        refine dk_Vi (As := [.int 20, .int p1, .int v3]) (rest := []) ⟨hx, hb, hml, hown, hts⟩ (c_X1_gives_3 l g z I2 20 p1 v3 (dkN_lit (x := 20) (20) rfl) dp1 dv3 hO) (cwV 3 hts gX1_gives_X1_gives rfl rfl rfl (by decide +kernel) ⟨Nat.le_of_ble_eq_true rfl, Nat.le_of_ble_eq_true rfl⟩) (dk_at338 hW) rfl hK hT hW hS rfl hl.1 rfl (Nat.le_of_ble_eq_true rfl) dX1_gives_169 ⟨Nat.zero_le _, Nat.zero_le _⟩ (fun v9 I9 H9 L9 hp9 hW hS => ?_)
        obtain ⟨hF9, hO, ev9, hc9⟩ := hp9
        have hF := dkF_call hF hF9 rfl
        obtain ⟨dv9, f9_338_2, -⟩ := hc9
        rw [ev9]
        refine lv_aload_n hx hb dX1_gives_172 rfl (lv_at hl 1 rfl) ?_
        refine dk_get (k := 338) hx hb hts iX1_gives_1 hown hK (dk_at338 hW) rfl 0 (by decide) (hts (.fieldLink RX1 15 "DogKings$Asks" "now" "LDogKings$Town;") (List.mem_of_getElem? (i := 2) rfl)) rfl dX1_gives_173 ?_
        refine dk_get (k := 25) hx hb hts iX1_gives_4 hown hK (dk_at25 hW) rfl 14 (by decide) (hts (.fieldLink RX1 54 "DogKings$Town" "dogAt" "[I") (List.mem_of_getElem? (i := 4) rfl)) rfl dX1_gives_176 ?_
        refine lv_iload_n hx hb dX1_gives_179 rfl (lv_at hl 3 rfl) ?_
        refine dk_ild (k := 34) hx hb hK (dk_at34 hW) (dkN_in (n := 6) dp1 rfl) dX1_gives_180 ?_
        refine lv_topi (fun v10 ev10 => ?_)
        refine lv_iadd hx hb dX1_gives_181 ?_
        refine lv_topi (fun v11 ev11 => ?_)
        exact W.iret (v := v11) hx hb hr (fun t ht hW9 => ⟨⟨v11, I9, rfl, ⟨hF, hO, ⟨trivial, (show dkN [(1, 16)] (I9 338 2) from dkN_sub f9_338_2 rfl), trivial⟩⟩, dkW_eq ht hW⟩, hS.F ht⟩) hS.2.2 dX1_gives_182
      ·
        have d12 : dkN [(22, 24)] p0 := dkN_ne1 (21) d6 (dkN_lit (x := 21) (21) rfl) (dk_ne c7) rfl
        by_cases c13 : p0 = 22
        ·
          have qc13 : p0.toInt = 22 := by rw [c13]; rfl
          have d14 : dkN [(22, 22)] p0 := dkN_lit (22) qc13
          refine lv_tableIn (tgt := 183) hx hb dX1_gives_19 (by rw [qc13]; decide) (by rw [qc13]; decide) (by rw [qc13]; rfl) (by decide) ?_
          refine lv_aload_n hx hb dX1_gives_183 rfl (lv_at hl 1 rfl) ?_
          refine lv_bipush (v := 21) hx hb dX1_gives_184 (by decide) ?_
          refine lv_iload_n hx hb dX1_gives_186 rfl (lv_at hl 3 rfl) ?_
          refine lv_iload hx hb dX1_gives_187 (lv_at hl 0 rfl) ?_
          refine dk_Vi (As := [.int 21, .int p1, .int v3]) (rest := []) ⟨hx, hb, hml, hown, hts⟩ (c_X1_gives_4 l g z I2 21 p1 v3 (dkN_lit (x := 21) (21) rfl) dp1 dv3 hO) (cwV 3 hts gX1_gives_X1_gives rfl rfl rfl (by decide +kernel) ⟨Nat.le_of_ble_eq_true rfl, Nat.le_of_ble_eq_true rfl⟩) (dk_at338 hW) rfl hK hT hW hS rfl hl.1 rfl (Nat.le_of_ble_eq_true rfl) dX1_gives_189 ⟨Nat.zero_le _, Nat.zero_le _⟩ (fun v15 I15 H15 L15 hp15 hW hS => ?_)
          obtain ⟨hF15, hO, hc15⟩ := hp15
          have hF := dkF_call hF hF15 rfl
          obtain ⟨_, f15_338_2, -⟩ := hc15
          refine lv_sipush (v := 1000) hx hb dX1_gives_192 (by decide) ?_
          refine lv_isub hx hb dX1_gives_195 ?_
          refine lv_topi (fun v16 ev16 => ?_)
          exact W.iret (v := v16) hx hb hr (fun t ht hW9 => ⟨⟨v16, I15, rfl, ⟨hF, hO, ⟨trivial, (show dkN [(1, 16)] (I15 338 2) from dkN_sub f15_338_2 rfl), trivial⟩⟩, dkW_eq ht hW⟩, hS.F ht⟩) hS.2.2 dX1_gives_196
        ·
          have d17 : dkN [(23, 24)] p0 := dkN_ne1 (22) d12 (dkN_lit (x := 22) (22) rfl) (dk_ne c13) rfl
          by_cases c18 : p0 = 23
          ·
            have qc18 : p0.toInt = 23 := by rw [c18]; rfl
            have d19 : dkN [(23, 23)] p0 := dkN_lit (23) qc18
            refine lv_tableIn (tgt := 197) hx hb dX1_gives_19 (by rw [qc18]; decide) (by rw [qc18]; decide) (by rw [qc18]; rfl) (by decide) ?_
            refine lv_aload_n hx hb dX1_gives_197 rfl (lv_at hl 1 rfl) ?_
            refine lv_bipush (v := 20) hx hb dX1_gives_198 (by decide) ?_
            refine lv_iload_n hx hb dX1_gives_200 rfl (lv_at hl 3 rfl) ?_
            refine lv_iload hx hb dX1_gives_201 (lv_at hl 0 rfl) ?_
            refine dk_Vi (As := [.int 20, .int p1, .int v3]) (rest := []) ⟨hx, hb, hml, hown, hts⟩ (c_X1_gives_3 l g z I2 20 p1 v3 (dkN_lit (x := 20) (20) rfl) dp1 dv3 hO) (cwV 3 hts gX1_gives_X1_gives rfl rfl rfl (by decide +kernel) ⟨Nat.le_of_ble_eq_true rfl, Nat.le_of_ble_eq_true rfl⟩) (dk_at338 hW) rfl hK hT hW hS rfl hl.1 rfl (Nat.le_of_ble_eq_true rfl) dX1_gives_203 ⟨Nat.zero_le _, Nat.zero_le _⟩ (fun v20 I20 H20 L20 hp20 hW hS => ?_)
            obtain ⟨hF20, hO, ev20, hc20⟩ := hp20
            have hF := dkF_call hF hF20 rfl
            obtain ⟨dv20, f20_338_2, -⟩ := hc20
            rw [ev20]
            refine lv_aload_n hx hb dX1_gives_206 rfl (lv_at hl 1 rfl) ?_
            refine lv_aload_n hx hb dX1_gives_207 rfl (lv_at hl 1 rfl) ?_
            refine lv_iload_n hx hb dX1_gives_208 rfl (lv_at hl 3 rfl) ?_
            refine dk_Vi (As := [.int p1]) (rest := [.ref (z + 338), .int p1]) ⟨hx, hb, hml, hown, hts⟩ (c_X1_sizeBody_0 l g z I20 p1 dp1 hO) (cwV 1 hts gX1_gives_X1_sizeBody rfl rfl rfl (by decide +kernel) ⟨Nat.le_of_ble_eq_true rfl, Nat.le_of_ble_eq_true rfl⟩) (dk_at338 hW) rfl hK hT hW hS rfl hl.1 rfl (Nat.le_of_ble_eq_true rfl) dX1_gives_209 ⟨Nat.zero_le _, Nat.zero_le _⟩ (fun v21 I21 H21 L21 hp21 hW hS => ?_)
            obtain ⟨hF21, hO, hc21⟩ := hp21
            have hF := dkF_call hF hF21 rfl
            obtain ⟨dv21, -⟩ := hc21
            refine lv_iload_n hx hb dX1_gives_212 rfl (lv_at hl 3 rfl) ?_
            refine lv_iload hx hb dX1_gives_213 (lv_at hl 0 rfl) ?_
            refine dk_Vi (As := [.int v21, .int p1, .int v3]) (rest := [.int p1]) ⟨hx, hb, hml, hown, hts⟩ (c_X1_gives_6 l g z I21 v21 p1 v3 dv21 dp1 dv3 hO) (cwV 3 hts gX1_gives_X1_gives rfl rfl rfl (by decide +kernel) ⟨Nat.le_of_ble_eq_true rfl, Nat.le_of_ble_eq_true rfl⟩) (dk_at338 hW) rfl hK hT hW hS rfl hl.1 rfl (Nat.le_of_ble_eq_true rfl) dX1_gives_215 ⟨Nat.zero_le _, Nat.zero_le _⟩ (fun v22 I22 H22 L22 hp22 hW hS => ?_)
            obtain ⟨hF22, hO, hc22⟩ := hp22
            have hF := dkF_call hF hF22 rfl
            obtain ⟨_, f22_338_2, -⟩ := hc22
            refine lv_isub hx hb dX1_gives_218 ?_
            refine lv_topi (fun v23 ev23 => ?_)
            exact W.iret (v := v23) hx hb hr (fun t ht hW9 => ⟨⟨v23, I22, rfl, ⟨hF, hO, ⟨trivial, (show dkN [(1, 16)] (I22 338 2) from dkN_sub f22_338_2 rfl), trivial⟩⟩, dkW_eq ht hW⟩, hS.F ht⟩) hS.2.2 dX1_gives_219
          ·
            have d24 : dkN [(24, 24)] p0 := dkN_ne1 (23) d17 (dkN_lit (x := 23) (23) rfl) (dk_ne c18) rfl
            by_cases c25 : p0 = 24
            ·
              have qc25 : p0.toInt = 24 := by rw [c25]; rfl
              have d26 : dkN [(24, 24)] p0 := dkN_lit (24) qc25
              refine lv_tableIn (tgt := 220) hx hb dX1_gives_19 (by rw [qc25]; decide) (by rw [qc25]; decide) (by rw [qc25]; rfl) (by decide) ?_
              refine lv_iconst (v := 2) hx hb dX1_gives_220 (by decide) ?_
              refine lv_aload_n hx hb dX1_gives_221 rfl (lv_at hl 1 rfl) ?_
              refine lv_bipush (v := 21) hx hb dX1_gives_222 (by decide) ?_
              refine lv_iload_n hx hb dX1_gives_224 rfl (lv_at hl 3 rfl) ?_
              refine lv_iload hx hb dX1_gives_225 (lv_at hl 0 rfl) ?_
              refine dk_Vi (As := [.int 21, .int p1, .int v3]) (rest := [.int 2]) ⟨hx, hb, hml, hown, hts⟩ (c_X1_gives_4 l g z I2 21 p1 v3 (dkN_lit (x := 21) (21) rfl) dp1 dv3 hO) (cwV 3 hts gX1_gives_X1_gives rfl rfl rfl (by decide +kernel) ⟨Nat.le_of_ble_eq_true rfl, Nat.le_of_ble_eq_true rfl⟩) (dk_at338 hW) rfl hK hT hW hS rfl hl.1 rfl (Nat.le_of_ble_eq_true rfl) dX1_gives_227 ⟨Nat.zero_le _, Nat.zero_le _⟩ (fun v27 I27 H27 L27 hp27 hW hS => ?_)
              obtain ⟨hF27, hO, hc27⟩ := hp27
              have hF := dkF_call hF hF27 rfl
              obtain ⟨_, f27_338_2, -⟩ := hc27
              refine lv_imul hx hb dX1_gives_230 ?_
              refine lv_topi (fun v28 ev28 => ?_)
              exact W.iret (v := v28) hx hb hr (fun t ht hW9 => ⟨⟨v28, I27, rfl, ⟨hF, hO, ⟨trivial, (show dkN [(1, 16)] (I27 338 2) from dkN_sub f27_338_2 rfl), trivial⟩⟩, dkW_eq ht hW⟩, hS.F ht⟩) hS.2.2 dX1_gives_231
            ·
              exact (dkN_nil (show dkN [] p0 from dkN_ne1 (24) d24 (dkN_lit (x := 24) (24) rfl) (dk_ne c25) rfl)).elim
  ·
    exact (dkN_nil (show dkN [] p2 from dkN_le2 1 (dkN_lit (x := 5) (5) rfl) dp2 (dkc_nle c1) rfl)).elim
set_option maxHeartbeats 4000000 in
set_option maxRecDepth 100000 in
theorem c_X1_gives_24 (l : Launch) (g : dkG) (z : Nat) (I0 : dkI) (p0 : Int32) (p1 : Int32) (p2 : Int32) (dp0 : dkN [(10, 10)] p0) (dp1 : dkN [(0, 5)] p1) (dp2 : dkN [(3, 3)] p2)  (hO : dkOk I0) : Met l yX1_gives wsX1_gives (dkR 1) (dkPc g z [.ref (z + 338), .int p0, .int p1, .int p2] I0) (dkQi g z (fun r I1 => dkF [(338, 338, 2, 2), (339, 339, 0, 15)] I0 I1 ∧ dkOk I1 ∧ ((True ∧ dkN [(1, 16)] (I1 338 2) ∧ True)))) 0 0 (dkA z) := by
  refine Met.ofW (cc := cX1_gives) (maxL := 5) (ret := (some .int)) (by decide) rfl ?_
  intro p e s m args below meth c s₁ B hml hv
  obtain ⟨ha, hW, hK, hT⟩ := hv
  have hx := B.exec
  have hb := B.bytes
  have hr := B.returns
  have hts := atoms_spec (ws := wsX1_gives) B.pre
  have hown : s.vm.findClass RX1 = some m.cls := findClass_of_methodNamed B.named
  have hlocks := B.notSynchronized
  have hS : va_S (dkA z) s.heap s.heap [] := va_S.rf
  have hF : dkF [(338, 338, 2, 2), (339, 339, 0, 15)] I0 I0 := dkF_rf _ _
  have hl := lv_entry ([.ref (z + 338), .int p0, .int p1, .int p2]) (n := 5) (Nat.le_of_ble_eq_true rfl)
  have hgo : entryFrame m args 5 = entryFrame m ([.ref (z + 338), .int p0, .int p1, .int p2] : List Value).toArray 5 := by rw [ha]
  rw [hgo, lg_entry_eq]
  generalize (lg_sl ([.ref (z + 338), .int p0, .int p1, .int p2]) ++ List.replicate (5 - (lg_sl ([.ref (z + 338), .int p0, .int p1, .int p2])).length) Slot.unset).toArray = ls at hl ⊢
  have hl : lv_has ls 5 [(0, .ref (z + 338)), (1, .int p0), (2, .int p1), (3, .int p2)] := hl
  refine lv_iload_n hx hb dX1_gives_0 rfl (lv_at hl 3 rfl) ?_
  refine lv_iconst (v := 5) hx hb dX1_gives_1 (by decide) ?_
  refine lv_icmp_le (tgt := 8) hx hb dX1_gives_2 (by decide) (fun c1 => ?_) (fun c1 => ?_)
  ·
    refine lv_aload_n hx hb dX1_gives_8 rfl (lv_at hl 0 rfl) ?_
    refine lv_iload_n hx hb dX1_gives_9 rfl (lv_at hl 1 rfl) ?_
    refine dk_Vv (As := [.int p0]) (rest := []) ⟨hx, hb, hml, hown, hts⟩ (c_X1_begins_1 l g z I0 p0 dp0 hO) (cwV 1 hts gX1_gives_X1_begins rfl rfl rfl (by decide +kernel) ⟨Nat.le_of_ble_eq_true rfl, Nat.le_of_ble_eq_true rfl⟩) (dk_at338 hW) rfl hK hT hW hS rfl hl.1 rfl (Nat.le_of_ble_eq_true rfl) dX1_gives_10 ⟨Nat.zero_le _, Nat.zero_le _⟩ (fun I2 H2 L2 hp2 hW hS => ?_)
    obtain ⟨hF2, hO, hc2⟩ := hp2
    have hF := dkF_call hF hF2 rfl
    obtain ⟨f2_338_2, -⟩ := hc2
    refine lv_iload_n hx hb dX1_gives_13 rfl (lv_at hl 3 rfl) ?_
    refine lv_iconst (v := 1) hx hb dX1_gives_14 (by decide) ?_
    refine lv_iadd hx hb dX1_gives_15 ?_
    refine lv_topi (fun v3 ev3 => ?_)
    have dv3 : dkN [(4, 4)] v3 := by rw [ev3]; exact dkN_add dp2 (dkN_lit (x := 1) (1) rfl) rfl
    refine lv_istore (lv' := [(4, .int v3), (0, .ref (z + 338)), (1, .int p0), (2, .int p1), (3, .int p2)]) hx hb dX1_gives_16 hl (by decide) rfl (fun ls hl => ?_)
    refine lv_iload_n hx hb dX1_gives_18 rfl (lv_at hl 2 rfl) ?_
    by_cases c4 : p0 = 10
    ·
      have qc4 : p0.toInt = 10 := by rw [c4]; rfl
      have d5 : dkN [(10, 10)] p0 := dkN_lit (10) qc4
      refine lv_tableIn (tgt := 92) hx hb dX1_gives_19 (by rw [qc4]; decide) (by rw [qc4]; decide) (by rw [qc4]; rfl) (by decide) ?_
      refine lv_aload_n hx hb dX1_gives_92 rfl (lv_at hl 1 rfl) ?_
      refine dk_get (k := 338) hx hb hts iX1_gives_1 hown hK (dk_at338 hW) rfl 0 (by decide) (hts (.fieldLink RX1 15 "DogKings$Asks" "now" "LDogKings$Town;") (List.mem_of_getElem? (i := 2) rfl)) rfl dX1_gives_93 ?_
      refine dk_get (k := 25) hx hb hts iX1_gives_4 hown hK (dk_at25 hW) rfl 13 (by decide) (hts (.fieldLink RX1 51 "DogKings$Town" "dogHome" "[I") (List.mem_of_getElem? (i := 3) rfl)) rfl dX1_gives_96 ?_
      refine lv_iload_n hx hb dX1_gives_99 rfl (lv_at hl 3 rfl) ?_
      refine dk_ild (k := 33) hx hb hK (dk_at33 hW) (dkN_in (n := 6) dp1 rfl) dX1_gives_100 ?_
      refine lv_topi (fun v6 ev6 => ?_)
      exact W.iret (v := v6) hx hb hr (fun t ht hW9 => ⟨⟨v6, I2, rfl, ⟨hF, hO, ⟨trivial, (show dkN [(1, 16)] (I2 338 2) from dkN_sub f2_338_2 rfl), trivial⟩⟩, dkW_eq ht hW⟩, hS.F ht⟩) hS.2.2 dX1_gives_101
    ·
      exact (dkN_nil (show dkN [] p0 from dkN_ne1 (10) dp0 (dkN_lit (x := 10) (10) rfl) (dk_ne c4) rfl)).elim
  ·
    exact (dkN_nil (show dkN [] p2 from dkN_le2 1 (dkN_lit (x := 5) (5) rfl) dp2 (dkc_nle c1) rfl)).elim
