set_option maxHeartbeats 4000000 in
set_option maxRecDepth 100000 in
theorem c_X5_power_1 (l : Launch) (g : dkG) (z : Nat) (I0 : dkI) (p0 : Int32) (p1 : Int32) (dp0 : dkN [(0, 10)] p0) (dp1 : dkN [(-63, 6)] p1)  (hO : dkOk I0) : Met l yX5_power wsX5_power (dkR 0) (dkPc g z [.int p0, .int p1] I0) (dkQi g z (fun r I1 => dkF [] I0 I1 ∧ dkOk I1 ∧ ((True ∧ True)))) 0 0 (dkA z) := by
  refine Met.ofW (cc := cX5_power) (maxL := 4) (ret := (some .int)) (by decide) rfl ?_
  intro p e s m args below meth c s₁ B hml hv
  obtain ⟨ha, hW, hK, hT⟩ := hv
  have hx := B.exec
  have hb := B.bytes
  have hr := B.returns
  have hts := atoms_spec (ws := wsX5_power) B.pre
  have hown : s.vm.findClass RX5 = some m.cls := findClass_of_methodNamed B.named
  have hlocks := B.notSynchronized
  have hS : va_S (dkA z) s.heap s.heap [] := va_S.rf
  have hF : dkF [] I0 I0 := dkF_rf _ _
  have hl := lv_entry ([.int p0, .int p1]) (n := 4) (Nat.le_of_ble_eq_true rfl)
  have hgo : entryFrame m args 4 = entryFrame m ([.int p0, .int p1] : List Value).toArray 4 := by rw [ha]
  rw [hgo, lg_entry_eq]
  generalize (lg_sl ([.int p0, .int p1]) ++ List.replicate (4 - (lg_sl ([.int p0, .int p1])).length) Slot.unset).toArray = ls at hl ⊢
  have hl : lv_has ls 4 [(0, .int p0), (1, .int p1)] := hl
  have C4 : ∀ (n : Nat), ∀ (I : dkI) (H : Heap) (locs : List Loc) (ls : Array Slot) (x4_2 : Int32) (x4_3 : Int32), (6 - x4_3.toInt).toNat < n → dkW g z I H → va_S (dkA z) s.heap H locs → dkF [] I0 I → dkOk I → dkN [(0, 6)] x4_3 → lv_has ls 4 [(0, .int p0), (1, .int p1), (2, .int x4_2), (3, .int x4_3)] → W p l e (headSpec wsX5_power (dkR 0)).room s m args below meth c H locs 0 0 (MQ below (dkQi g z (fun r I1 => dkF [] I0 I1 ∧ dkOk I1 ∧ ((True ∧ True)))) args s 0 0 (dkA z)) (F0 m 4 ls []) := by
    intro n
    induction n with
    | zero => intro I H locs ls x4_2 x4_3 hn; exact absurd hn (Nat.not_lt_zero _)
    | succ n ih4 =>
      intro I4_ H locs ls x4_2 x4_3 hn4 hW hS hF_4 hO k4_1 hl
      have hF := hF_4
      refine lv_iload_n hx hb dX5_power_4 rfl (lv_at hl 3 rfl) ?_
      refine lv_iload_n hx hb dX5_power_5 rfl (lv_at hl 1 rfl) ?_
      refine lv_icmp_ge (tgt := 19) hx hb dX5_power_6 (by decide) (fun c1 => ?_) (fun c1 => ?_)
      ·
        refine lv_iload_n hx hb dX5_power_19 rfl (lv_at hl 2 rfl) ?_
        exact W.iret (v := x4_2) hx hb hr (fun t ht hW9 => ⟨⟨x4_2, I4_, rfl, ⟨hF, hO, ⟨trivial, trivial⟩⟩, dkW_eq ht hW⟩, hS.F ht⟩) hS.2.2 dX5_power_20
      ·
        have d2 : dkN [(1, 6)] p1 := dkN_le2 1 k4_1 dp1 (dkc_nle c1) rfl
        have d3 : dkN [(0, 5)] x4_3 := dkN_le1 1 k4_1 dp1 (dkc_nle c1) rfl
        refine lv_iload_n hx hb dX5_power_9 rfl (lv_at hl 2 rfl) ?_
        refine lv_iload_n hx hb dX5_power_10 rfl (lv_at hl 0 rfl) ?_
        refine lv_imul hx hb dX5_power_11 ?_
        refine lv_topi (fun v4 ev4 => ?_)
        refine lv_istore_n (lv' := [(2, .int v4), (0, .int p0), (1, .int p1), (3, .int x4_3)]) hx hb dX5_power_12 rfl hl (by decide) rfl (fun ls hl => ?_)
        obtain ⟨v5, ev5⟩ : ∃ y : Int32, y = x4_3 + 1 := ⟨_, rfl⟩
        have dv5 : dkN [(1, 6)] v5 := by rw [ev5]; exact dkN_add d3 (dkN_lit (x := 1) (1) rfl) rfl
        refine lv_iinc (v := v5) (lv' := [(3, .int v5), (2, .int v4), (0, .int p0), (1, .int p1)]) hx hb dX5_power_13 hl (k := 3) rfl (by rw [ev5]; rfl) (by decide) rfl (fun ls hl => ?_)
        refine lv_goto (tgt := 4) hx hb dX5_power_16 (by decide) ?_
        exact ih4 I4_ _ _ ls v4 v5 (dk_near hn4 (by rw [ev5]; exact dk_inc d3 rfl) (dkN_lt d3 rfl)) hW hS hF hO (dkN_sub dv5 rfl) (lv_sub hl [2, 3, 1, 0] rfl)
  refine lv_iconst (v := 1) hx hb dX5_power_0 (by decide) ?_
  refine lv_istore_n (lv' := [(2, .int 1), (0, .int p0), (1, .int p1)]) hx hb dX5_power_1 rfl hl (by decide) rfl (fun ls hl => ?_)
  refine lv_iconst (v := 0) hx hb dX5_power_2 (by decide) ?_
  refine lv_istore_n (lv' := [(3, .int 0), (2, .int 1), (0, .int p0), (1, .int p1)]) hx hb dX5_power_3 rfl hl (by decide) rfl (fun ls hl => ?_)
  exact C4 _ I0 _ _ ls 1 0 (Nat.lt_succ_self _) hW hS hF hO (dkN_sub (dkN_lit (x := 0) (0) rfl) rfl) (lv_sub hl [2, 3, 1, 0] rfl)
set_option maxHeartbeats 4000000 in
set_option maxRecDepth 100000 in
theorem c_X3_kingWhileAsleep_0 (l : Launch) (g : dkG) (z : Nat) (I0 : dkI) (p0 : Int32)  (hO : dkOk I0) : Met l yX3_kingWhileAsleep wsX3_kingWhileAsleep (dkR 5) (dkPc g z [.ref (z + 325), .int p0] I0) (dkQi g z (fun r I1 => dkF [(326, 326, 0, 4), (326, 326, 11, 11), (326, 326, 15, 17), (327, 327, 0, 4), (328, 328, 0, 4), (329, 329, 0, 4), (330, 330, 0, 4), (331, 331, 0, 4), (332, 332, 0, 4), (333, 333, 0, 5), (334, 334, 0, 5), (335, 335, 0, 5), (336, 336, 0, 8)] I0 I1 ∧ dkOk I1 ∧ ((dkN [(-1000000, -1000000), (0, 4)] r ∧ True)))) 0 0 (dkA z) := by
  refine Met.ofW (cc := cX3_kingWhileAsleep) (maxL := 2) (ret := (some .int)) (by decide) rfl ?_
  intro p e s m args below meth c s₁ B hml hv
  obtain ⟨ha, hW, hK, hT⟩ := hv
  have hx := B.exec
  have hb := B.bytes
  have hr := B.returns
  have hts := atoms_spec (ws := wsX3_kingWhileAsleep) B.pre
  have hown : s.vm.findClass RX3 = some m.cls := findClass_of_methodNamed B.named
  have hlocks := B.notSynchronized
  have hS : va_S (dkA z) s.heap s.heap [] := va_S.rf
  have hF : dkF [(326, 326, 0, 4), (326, 326, 11, 11), (326, 326, 15, 17), (327, 327, 0, 4), (328, 328, 0, 4), (329, 329, 0, 4), (330, 330, 0, 4), (331, 331, 0, 4), (332, 332, 0, 4), (333, 333, 0, 5), (334, 334, 0, 5), (335, 335, 0, 5), (336, 336, 0, 8)] I0 I0 := dkF_rf _ _
  have hl := lv_entry ([.ref (z + 325), .int p0]) (n := 2) (Nat.le_of_ble_eq_true rfl)
  have hgo : entryFrame m args 2 = entryFrame m ([.ref (z + 325), .int p0] : List Value).toArray 2 := by rw [ha]
  rw [hgo, lg_entry_eq]
  generalize (lg_sl ([.ref (z + 325), .int p0]) ++ List.replicate (2 - (lg_sl ([.ref (z + 325), .int p0])).length) Slot.unset).toArray = ls at hl ⊢
  have hl : lv_has ls 2 [(0, .ref (z + 325)), (1, .int p0)] := hl
  refine lv_aload_n hx hb dX3_kingWhileAsleep_0 rfl (lv_at hl 0 rfl) ?_
  refine dk_get (k := 325) hx hb hts iX3_kingWhileAsleep_3 hown hK (dk_at325 hW) rfl 1 (by decide) (hts (.fieldLink RX3 12 "DogKings$Seer" "then" "LDogKings$Town;") (List.mem_of_getElem? (i := 1) rfl)) rfl dX3_kingWhileAsleep_1 ?_
  refine lv_aload_n hx hb dX3_kingWhileAsleep_4 rfl (lv_at hl 0 rfl) ?_
  refine dk_get (k := 325) hx hb hts iX3_kingWhileAsleep_3 hown hK (dk_at325 hW) rfl 0 (by decide) (hts (.fieldLink RX3 22 "DogKings$Seer" "now" "LDogKings$Town;") (List.mem_of_getElem? (i := 2) rfl)) rfl dX3_kingWhileAsleep_5 ?_
  refine dk_Vv (As := [.ref (z + 25)]) (rest := []) ⟨hx, hb, hml, hown, hts⟩ (c_X4_become_0 l g z I0 (326) (by unfold dkT; omega) (25) (by unfold dkT; omega) hO) (cwV 1 hts gX3_kingWhileAsleep_X4_become rfl rfl rfl (by decide +kernel) ⟨Nat.le_of_ble_eq_true rfl, Nat.le_of_ble_eq_true rfl⟩) (dk_at326 hW) rfl hK hT hW hS rfl hl.1 rfl (Nat.le_of_ble_eq_true rfl) dX3_kingWhileAsleep_8 ⟨Nat.zero_le _, Nat.zero_le _⟩ (fun I1 H1 L1 hp1 hW hS => ?_)
  obtain ⟨hF1, hO, hc1⟩ := hp1
  have hF := dkF_call hF hF1 rfl
  refine lv_aload_n hx hb dX3_kingWhileAsleep_11 rfl (lv_at hl 0 rfl) ?_
  refine dk_get (k := 325) hx hb hts iX3_kingWhileAsleep_3 hown hK (dk_at325 hW) rfl 1 (by decide) (hts (.fieldLink RX3 12 "DogKings$Seer" "then" "LDogKings$Town;") (List.mem_of_getElem? (i := 1) rfl)) rfl dX3_kingWhileAsleep_12 ?_
  refine lv_iload_n hx hb dX3_kingWhileAsleep_15 rfl (lv_at hl 1 rfl) ?_
  refine dk_put (k := 326) hx hb hts iX3_kingWhileAsleep_4 tyX4 tyX4_ok nmX4 hown hK hW (dk_at326 hW) hS rfl 16 (by decide) (hts (.fieldLink RX3 132 "DogKings$Town" "dogsAsleep" "I") (List.mem_of_getElem? (i := 3) rfl)) rfl rfl (Nat.le_of_ble_eq_true rfl) rfl dX3_kingWhileAsleep_16 (fun I2 H2 L2 eI2 hW hS => ?_)
  have eI2 : I2 = dkU I1 326 16 p0 := eI2
  have hO := dkO_set hO eI2 (dkN_sub (dkN_top p0) rfl)
  have hF := dkF_set hF eI2 rfl
  refine lv_aload_n hx hb dX3_kingWhileAsleep_19 rfl (lv_at hl 0 rfl) ?_
  refine dk_get (k := 325) hx hb hts iX3_kingWhileAsleep_3 hown hK (dk_at325 hW) rfl 1 (by decide) (hts (.fieldLink RX3 12 "DogKings$Seer" "then" "LDogKings$Town;") (List.mem_of_getElem? (i := 1) rfl)) rfl dX3_kingWhileAsleep_20 ?_
  refine dk_Vv (As := []) (rest := []) ⟨hx, hb, hml, hown, hts⟩ (c_X4_runToBell_0 l g z I2 (326) (by unfold dkT; omega) hO) (cwV 0 hts gX3_kingWhileAsleep_X4_runToBell rfl rfl rfl (by decide +kernel) ⟨Nat.le_of_ble_eq_true rfl, Nat.le_of_ble_eq_true rfl⟩) (dk_at326 hW) rfl hK hT hW hS rfl hl.1 rfl (Nat.le_of_ble_eq_true rfl) dX3_kingWhileAsleep_23 ⟨Nat.zero_le _, Nat.zero_le _⟩ (fun I3 H3 L3 hp3 hW hS => ?_)
  obtain ⟨hF3, hO, hc3⟩ := hp3
  have hF := dkF_call hF hF3 rfl
  refine lv_aload_n hx hb dX3_kingWhileAsleep_26 rfl (lv_at hl 0 rfl) ?_
  refine dk_get (k := 325) hx hb hts iX3_kingWhileAsleep_3 hown hK (dk_at325 hW) rfl 1 (by decide) (hts (.fieldLink RX3 12 "DogKings$Seer" "then" "LDogKings$Town;") (List.mem_of_getElem? (i := 1) rfl)) rfl dX3_kingWhileAsleep_27 ?_
  refine dk_Vi (As := []) (rest := []) ⟨hx, hb, hml, hown, hts⟩ (c_X4_kingAtBell_0 l g z I3 (326) (by unfold dkT; omega) hO) (cwV 0 hts gX3_kingWhileAsleep_X4_kingAtBell rfl rfl rfl (by decide +kernel) ⟨Nat.le_of_ble_eq_true rfl, Nat.le_of_ble_eq_true rfl⟩) (dk_at326 hW) rfl hK hT hW hS rfl hl.1 rfl (Nat.le_of_ble_eq_true rfl) dX3_kingWhileAsleep_30 ⟨Nat.zero_le _, Nat.zero_le _⟩ (fun v4 I4 H4 L4 hp4 hW hS => ?_)
  obtain ⟨hF4, hO, hc4⟩ := hp4
  have hF := dkF_call hF hF4 rfl
  obtain ⟨dv4, -⟩ := hc4
  exact W.iret (v := v4) hx hb hr (fun t ht hW9 => ⟨⟨v4, I4, rfl, ⟨hF, hO, ⟨dkN_sub dv4 rfl, trivial⟩⟩, dkW_eq ht hW⟩, hS.F ht⟩) hS.2.2 dX3_kingWhileAsleep_33
set_option maxHeartbeats 4000000 in
set_option maxRecDepth 100000 in
theorem c_X3_chancesAsleep_0 (l : Launch) (g : dkG) (z : Nat) (I0 : dkI) (p0 : Int32) (p1 : Int32) (dp0 : dkN [(0, 4)] p0) (dp1 : dkN [(0, 10)] p1)  (hO : dkOk I0) : Met l yX3_chancesAsleep wsX3_chancesAsleep (dkR 6) (dkPc g z [.ref (z + 325), .int p0, .int p1] I0) (dkQi g z (fun r I1 => dkF [(326, 326, 0, 4), (326, 326, 11, 11), (326, 326, 15, 17), (327, 327, 0, 4), (328, 328, 0, 4), (329, 329, 0, 4), (330, 330, 0, 4), (331, 331, 0, 4), (332, 332, 0, 4), (333, 333, 0, 5), (334, 334, 0, 5), (335, 335, 0, 5), (336, 336, 0, 8)] I0 I1 ∧ dkOk I1 ∧ ((True ∧ True)))) 0 0 (dkA z) := by
  refine Met.ofW (cc := cX3_chancesAsleep) (maxL := 7) (ret := (some .int)) (by decide) rfl ?_
  intro p e s m args below meth c s₁ B hml hv
  obtain ⟨ha, hW, hK, hT⟩ := hv
  have hx := B.exec
  have hb := B.bytes
  have hr := B.returns
  have hts := atoms_spec (ws := wsX3_chancesAsleep) B.pre
  have hown : s.vm.findClass RX3 = some m.cls := findClass_of_methodNamed B.named
  have hlocks := B.notSynchronized
  have hS : va_S (dkA z) s.heap s.heap [] := va_S.rf
  have hF : dkF [(326, 326, 0, 4), (326, 326, 11, 11), (326, 326, 15, 17), (327, 327, 0, 4), (328, 328, 0, 4), (329, 329, 0, 4), (330, 330, 0, 4), (331, 331, 0, 4), (332, 332, 0, 4), (333, 333, 0, 5), (334, 334, 0, 5), (335, 335, 0, 5), (336, 336, 0, 8)] I0 I0 := dkF_rf _ _
  have hl := lv_entry ([.ref (z + 325), .int p0, .int p1]) (n := 7) (Nat.le_of_ble_eq_true rfl)
  have hgo : entryFrame m args 7 = entryFrame m ([.ref (z + 325), .int p0, .int p1] : List Value).toArray 7 := by rw [ha]
  rw [hgo, lg_entry_eq]
  generalize (lg_sl ([.ref (z + 325), .int p0, .int p1]) ++ List.replicate (7 - (lg_sl ([.ref (z + 325), .int p0, .int p1])).length) Slot.unset).toArray = ls at hl ⊢
  have hl : lv_has ls 7 [(0, .ref (z + 325)), (1, .int p0), (2, .int p1)] := hl
  have C5 : ∀ (n : Nat), ∀ (I : dkI) (H : Heap) (locs : List Loc) (ls : Array Slot) (x5_3 : Int32) (x5_4 : Int32), (90 - x5_4.toInt).toNat < n → dkW g z I H → va_S (dkA z) s.heap H locs → dkF [(326, 326, 0, 4), (326, 326, 11, 11), (326, 326, 15, 17), (327, 327, 0, 4), (328, 328, 0, 4), (329, 329, 0, 4), (330, 330, 0, 4), (331, 331, 0, 4), (332, 332, 0, 4), (333, 333, 0, 5), (334, 334, 0, 5), (335, 335, 0, 5), (336, 336, 0, 8)] I0 I → dkOk I → dkN [(0, 90)] x5_4 → lv_has ls 7 [(0, .ref (z + 325)), (1, .int p0), (2, .int p1), (3, .int x5_3), (4, .int x5_4)] → W p l e (headSpec wsX3_chancesAsleep (dkR 6)).room s m args below meth c H locs 0 0 (MQ below (dkQi g z (fun r I1 => dkF [(326, 326, 0, 4), (326, 326, 11, 11), (326, 326, 15, 17), (327, 327, 0, 4), (328, 328, 0, 4), (329, 329, 0, 4), (330, 330, 0, 4), (331, 331, 0, 4), (332, 332, 0, 4), (333, 333, 0, 5), (334, 334, 0, 5), (335, 335, 0, 5), (336, 336, 0, 8)] I0 I1 ∧ dkOk I1 ∧ ((True ∧ True)))) args s 0 0 (dkA z)) (F0 m 5 ls []) := by
    intro n
    induction n with
    | zero => intro I H locs ls x5_3 x5_4 hn; exact absurd hn (Nat.not_lt_zero _)
    | succ n ih5 =>
      intro I5_ H locs ls x5_3 x5_4 hn5 hW hS hF_5 hO k5_1 hl
      have hF := hF_5
      have C73 : ∀ (I : dkI) (H : Heap) (locs : List Loc) (ls : Array Slot) (x73_3 : Int32) (x73_5 : Int32) (x73_6 : Int32), dkW g z I H → va_S (dkA z) s.heap H locs → dkF [(326, 326, 0, 4), (326, 326, 11, 11), (326, 326, 15, 17), (327, 327, 0, 4), (328, 328, 0, 4), (329, 329, 0, 4), (330, 330, 0, 4), (331, 331, 0, 4), (332, 332, 0, 4), (333, 333, 0, 5), (334, 334, 0, 5), (335, 335, 0, 5), (336, 336, 0, 8)] I0 I → dkOk I → dkN [(0, 63)] x73_5 → dkN [(0, 63)] x5_4 → lv_has ls 7 [(0, .ref (z + 325)), (1, .int p0), (2, .int p1), (3, .int x73_3), (4, .int x5_4), (5, .int x73_5), (6, .int x73_6)] → W p l e (headSpec wsX3_chancesAsleep (dkR 6)).room s m args below meth c H locs 0 0 (MQ below (dkQi g z (fun r I1 => dkF [(326, 326, 0, 4), (326, 326, 11, 11), (326, 326, 15, 17), (327, 327, 0, 4), (328, 328, 0, 4), (329, 329, 0, 4), (330, 330, 0, 4), (331, 331, 0, 4), (332, 332, 0, 4), (333, 333, 0, 5), (334, 334, 0, 5), (335, 335, 0, 5), (336, 336, 0, 8)] I0 I1 ∧ dkOk I1 ∧ ((True ∧ True)))) args s 0 0 (dkA z)) (F0 m 73 ls []) := by
        intro I73_ H locs ls x73_3 x73_5 x73_6 hW hS hF_73 hO k73_1 r73_0 hl
        have hF := hF_73
        obtain ⟨v1, ev1⟩ : ∃ y : Int32, y = x5_4 + 1 := ⟨_, rfl⟩
        have dv1 : dkN [(1, 64)] v1 := by rw [ev1]; exact dkN_add r73_0 (dkN_lit (x := 1) (1) rfl) rfl
        refine lv_iinc (v := v1) (lv' := [(4, .int v1), (0, .ref (z + 325)), (1, .int p0), (2, .int p1), (3, .int x73_3), (5, .int x73_5), (6, .int x73_6)]) hx hb dX3_chancesAsleep_73 hl (k := 4) rfl (by rw [ev1]; rfl) (by decide) rfl (fun ls hl => ?_)
        refine lv_goto (tgt := 5) hx hb dX3_chancesAsleep_76 (by decide) ?_
        exact ih5 I73_ _ _ ls x73_3 v1 (dk_near hn5 (by rw [ev1]; exact dk_inc r73_0 rfl) (dkN_lt r73_0 rfl)) hW hS hF hO (dkN_sub dv1 rfl) (lv_sub hl [1, 2, 3, 4, 0] rfl)
      refine lv_iload hx hb dX3_chancesAsleep_5 (lv_at hl 4 rfl) ?_
      refine lv_aload_n hx hb dX3_chancesAsleep_7 rfl (lv_at hl 0 rfl) ?_
      refine dk_get (k := 325) hx hb hts iX3_chancesAsleep_3 hown hK (dk_at325 hW) rfl 0 (by decide) (hts (.fieldLink RX3 22 "DogKings$Seer" "now" "LDogKings$Town;") (List.mem_of_getElem? (i := 1) rfl)) rfl dX3_chancesAsleep_8 ?_
      refine dk_get (k := 25) hx hb hts iX3_chancesAsleep_4 hown hK (dk_at25 hW) rfl 11 (by decide) (hts (.fieldLink RX3 107 "DogKings$Town" "dogs" "I") (List.mem_of_getElem? (i := 2) rfl)) rfl dX3_chancesAsleep_11 ?_
      refine lv_topi (fun v2 ev2 => ?_)
      have dv2 : dkN [(0, 6)] v2 := by rw [ev2]; exact (hO 25 11)
      refine dk_SiN (As := [.int v2]) (rest := [.int x5_4]) ⟨hx, hb, hml, hown, hts⟩ (c_X5_setOfAll_2 l g z I5_ v2 dv2 hO) ⟨va_cnB 1 hts gX3_chancesAsleep_X5_setOfAll_n65 rfl rfl rfl (hK.2.1 (RX3, 65, yX5_setOfAll) (by decide)) (hts (.initialized RX5) (List.mem_of_getElem? (i := 4) rfl)) (by decide +kernel) ⟨Nat.le_of_ble_eq_true rfl, Nat.le_of_ble_eq_true rfl⟩, (hts (.static yX5_setOfAll) (List.mem_of_getElem? (i := 3) rfl)), trivial⟩ hK hT hW hS rfl hl.1 rfl (Nat.le_of_ble_eq_true rfl) dX3_chancesAsleep_14 ⟨Nat.zero_le _, Nat.zero_le _⟩ (fun v3 I3 H3 L3 hp3 hW hS => ?_)
      obtain ⟨hF3, hO, hc3⟩ := hp3
      have hF := dkF_call hF hF3 rfl
      obtain ⟨dv3, -⟩ := hc3
      refine lv_icmp_gt (tgt := 79) hx hb dX3_chancesAsleep_17 (by decide) (fun c4 => ?_) (fun c4 => ?_)
      ·
        have d5 : dkN [(1, 90)] x5_4 := dkN_le2 1 dv3 k5_1 (dkc_lt c4) rfl
        refine lv_iload_n hx hb dX3_chancesAsleep_79 rfl (lv_at hl 3 rfl) ?_
        exact W.iret (v := x5_3) hx hb hr (fun t ht hW9 => ⟨⟨x5_3, I3, rfl, ⟨hF, hO, ⟨trivial, trivial⟩⟩, dkW_eq ht hW⟩, hS.F ht⟩) hS.2.2 dX3_chancesAsleep_80
      ·
        have d6 : dkN [(0, 63)] x5_4 := dkN_le1 0 k5_1 dv3 (dkc_nlt c4) rfl
        refine lv_iload hx hb dX3_chancesAsleep_20 (lv_at hl 4 rfl) ?_
        refine dk_Si (As := [.int x5_4]) (rest := []) ⟨hx, hb, hml, hown, hts⟩ (c_J6_bitCount_0f7a4_0 l g z I3 x5_4 hO) (va_cwS 1 hts gX3_chancesAsleep_J6_bitCount_0f7a4 rfl rfl rfl (by decide +kernel) ⟨Nat.le_of_ble_eq_true rfl, Nat.le_of_ble_eq_true rfl⟩) hK hT hW hS rfl hl.1 rfl (Nat.le_of_ble_eq_true rfl) dX3_chancesAsleep_22 ⟨Nat.zero_le _, Nat.zero_le _⟩ (fun v7 I7 H7 L7 hp7 hW hS => ?_)
        obtain ⟨hF7, hO, hc7⟩ := hp7
        have hF := dkF_call hF hF7 rfl
        obtain ⟨dv7, -⟩ := hc7
        refine lv_istore (lv' := [(5, .int v7), (0, .ref (z + 325)), (1, .int p0), (2, .int p1), (3, .int x5_3), (4, .int x5_4)]) hx hb dX3_chancesAsleep_25 hl (by decide) rfl (fun ls hl => ?_)
        refine lv_iload_n hx hb dX3_chancesAsleep_27 rfl (lv_at hl 3 rfl) ?_
        refine lv_iload hx hb dX3_chancesAsleep_28 (lv_at hl 0 rfl) ?_
        refine dk_SiN (As := [.int p1, .int v7]) (rest := []) ⟨hx, hb, hml, hown, hts⟩ (c_X5_power_0 l g z I7 p1 v7 dp1 dv7 hO) ⟨va_cnB 2 hts gX3_chancesAsleep_X5_power_n126 rfl rfl rfl (hK.2.1 (RX3, 126, yX5_power) (by decide)) (hts (.initialized RX5) (List.mem_of_getElem? (i := 4) rfl)) (by decide +kernel) ⟨Nat.le_of_ble_eq_true rfl, Nat.le_of_ble_eq_true rfl⟩, (hts (.static yX5_power) (List.mem_of_getElem? (i := 13) rfl)), trivial⟩ hK hT hW hS rfl hl.1 rfl (Nat.le_of_ble_eq_true rfl) dX3_chancesAsleep_30 ⟨Nat.zero_le _, Nat.zero_le _⟩ (fun v8 I8 H8 L8 hp8 hW hS => ?_)
        obtain ⟨hF8, hO, hc8⟩ := hp8
        have hF := dkF_call hF hF8 rfl
        obtain ⟨_, -⟩ := hc8
        refine lv_bipush (v := 10) hx hb dX3_chancesAsleep_33 (by decide) ?_
        refine lv_iload_n hx hb dX3_chancesAsleep_35 rfl (lv_at hl 3 rfl) ?_
        refine lv_isub hx hb dX3_chancesAsleep_36 ?_
        refine lv_topi (fun v9 ev9 => ?_)
        have dv9 : dkN [(0, 10)] v9 := by rw [ev9]; exact dkN_subt (dkN_lit (x := 10) (10) rfl) dp1 rfl
        refine lv_aload_n hx hb dX3_chancesAsleep_37 rfl (lv_at hl 1 rfl) ?_
        refine dk_get (k := 325) hx hb hts iX3_chancesAsleep_3 hown hK (dk_at325 hW) rfl 0 (by decide) (hts (.fieldLink RX3 22 "DogKings$Seer" "now" "LDogKings$Town;") (List.mem_of_getElem? (i := 1) rfl)) rfl dX3_chancesAsleep_38 ?_
        refine dk_get (k := 25) hx hb hts iX3_chancesAsleep_4 hown hK (dk_at25 hW) rfl 11 (by decide) (hts (.fieldLink RX3 107 "DogKings$Town" "dogs" "I") (List.mem_of_getElem? (i := 2) rfl)) rfl dX3_chancesAsleep_41 ?_
        refine lv_topi (fun v10 ev10 => ?_)
        have dv10 : dkN [(0, 6)] v10 := by rw [ev10]; exact (hO 25 11)
        refine lv_iload hx hb dX3_chancesAsleep_44 (lv_at hl 0 rfl) ?_
        refine lv_isub hx hb dX3_chancesAsleep_46 ?_
        refine lv_topi (fun v11 ev11 => ?_)
        have dv11 : dkN [(-63, 6)] v11 := by rw [ev11]; exact dkN_subt dv10 dv7 rfl
        refine dk_SiN (As := [.int v9, .int v11]) (rest := [.int v8]) ⟨hx, hb, hml, hown, hts⟩ (c_X5_power_1 l g z I8 v9 v11 dv9 dv11 hO) ⟨va_cnB 2 hts gX3_chancesAsleep_X5_power_n126 rfl rfl rfl (hK.2.1 (RX3, 126, yX5_power) (by decide)) (hts (.initialized RX5) (List.mem_of_getElem? (i := 4) rfl)) (by decide +kernel) ⟨Nat.le_of_ble_eq_true rfl, Nat.le_of_ble_eq_true rfl⟩, (hts (.static yX5_power) (List.mem_of_getElem? (i := 13) rfl)), trivial⟩ hK hT hW hS rfl hl.1 rfl (Nat.le_of_ble_eq_true rfl) dX3_chancesAsleep_47 ⟨Nat.zero_le _, Nat.zero_le _⟩ (fun v12 I12 H12 L12 hp12 hW hS => ?_)
        obtain ⟨hF12, hO, hc12⟩ := hp12
        have hF := dkF_call hF hF12 rfl
        obtain ⟨_, -⟩ := hc12
        refine lv_imul hx hb dX3_chancesAsleep_50 ?_
        refine lv_topi (fun v13 ev13 => ?_)
        refine lv_istore (lv' := [(6, .int v13), (5, .int v7), (0, .ref (z + 325)), (1, .int p0), (2, .int p1), (3, .int x5_3), (4, .int x5_4)]) hx hb dX3_chancesAsleep_51 hl (by decide) rfl (fun ls hl => ?_)
        refine lv_iload hx hb dX3_chancesAsleep_53 (lv_at hl 0 rfl) ?_
        refine lv_if_le (tgt := 73) hx hb dX3_chancesAsleep_55 (by decide) (fun c14 => ?_) (fun c14 => ?_)
        ·
          have d15 : dkN [(-2147483648, 0)] v13 := dkN_le1 0 (dkN_top v13) (dkN_lit (x := 0) (0) rfl) (dkc_le c14) rfl
          exact C73 I12 _ _ ls x5_3 v7 v13 hW hS hF hO (dkN_sub dv7 rfl) (dkN_sub d6 rfl) (lv_sub hl [2, 3, 4, 5, 6, 1, 0] rfl)
        ·
          have d16 : dkN [(1, 2147483647)] v13 := dkN_le2 1 (dkN_lit (x := 0) (0) rfl) (dkN_top v13) (dkc_nle c14) rfl
          refine lv_aload_n hx hb dX3_chancesAsleep_58 rfl (lv_at hl 2 rfl) ?_
          refine lv_iload hx hb dX3_chancesAsleep_59 (lv_at hl 6 rfl) ?_
          refine dk_Vi (As := [.int x5_4]) (rest := []) ⟨hx, hb, hml, hown, hts⟩ (c_X3_kingWhileAsleep_0 l g z I12 x5_4 hO) (cwV 1 hts gX3_chancesAsleep_X3_kingWhileAsleep rfl rfl rfl (by decide +kernel) ⟨Nat.le_of_ble_eq_true rfl, Nat.le_of_ble_eq_true rfl⟩) (dk_at325 hW) rfl hK hT hW hS rfl hl.1 rfl (Nat.le_of_ble_eq_true rfl) dX3_chancesAsleep_61 ⟨Nat.zero_le _, Nat.zero_le _⟩ (fun v17 I17 H17 L17 hp17 hW hS => ?_)
          obtain ⟨hF17, hO, hc17⟩ := hp17
          have hF := dkF_call hF hF17 rfl
          obtain ⟨dv17, -⟩ := hc17
          refine lv_iload_n hx hb dX3_chancesAsleep_64 rfl (lv_at hl 3 rfl) ?_
          refine lv_icmp_ne (tgt := 73) hx hb dX3_chancesAsleep_65 (by decide) (fun c18 => ?_) (fun c18 => ?_)
          ·
            exact C73 I17 _ _ ls x5_3 v7 v13 hW hS hF hO (dkN_sub dv7 rfl) (dkN_sub d6 rfl) (lv_sub hl [2, 3, 4, 5, 6, 1, 0] rfl)
          ·
            have d19 : dkN [(0, 4)] v17 := dkN_eq1 dv17 dp0 (congrArg Int32.toInt c18) rfl
            refine lv_iload_n hx hb dX3_chancesAsleep_68 rfl (lv_at hl 5 rfl) ?_
            refine lv_iload hx hb dX3_chancesAsleep_69 (lv_at hl 0 rfl) ?_
            refine lv_iadd hx hb dX3_chancesAsleep_71 ?_
            refine lv_topi (fun v20 ev20 => ?_)
            refine lv_istore_n (lv' := [(3, .int v20), (6, .int v13), (5, .int v7), (0, .ref (z + 325)), (1, .int p0), (2, .int p1), (4, .int x5_4)]) hx hb dX3_chancesAsleep_72 rfl hl (by decide) rfl (fun ls hl => ?_)
            exact C73 I17 _ _ ls v20 v7 v13 hW hS hF hO (dkN_sub dv7 rfl) (dkN_sub d6 rfl) (lv_sub hl [3, 4, 5, 0, 6, 2, 1] rfl)
  refine lv_iconst (v := 0) hx hb dX3_chancesAsleep_0 (by decide) ?_
  refine lv_istore_n (lv' := [(3, .int 0), (0, .ref (z + 325)), (1, .int p0), (2, .int p1)]) hx hb dX3_chancesAsleep_1 rfl hl (by decide) rfl (fun ls hl => ?_)
  refine lv_iconst (v := 0) hx hb dX3_chancesAsleep_2 (by decide) ?_
  refine lv_istore (lv' := [(4, .int 0), (3, .int 0), (0, .ref (z + 325)), (1, .int p0), (2, .int p1)]) hx hb dX3_chancesAsleep_3 hl (by decide) rfl (fun ls hl => ?_)
  exact C5 _ I0 _ _ ls 0 0 (Nat.lt_succ_self _) hW hS hF hO (dkN_sub (dkN_lit (x := 0) (0) rfl) rfl) (lv_sub hl [2, 3, 4, 1, 0] rfl)
set_option maxHeartbeats 4000000 in
set_option maxRecDepth 100000 in
theorem c_X5_power_2 (l : Launch) (g : dkG) (z : Nat) (I0 : dkI) (p0 : Int32) (p1 : Int32) (dp0 : dkN [(10, 10)] p0) (dp1 : dkN [(0, 6)] p1)  (hO : dkOk I0) : Met l yX5_power wsX5_power (dkR 0) (dkPc g z [.int p0, .int p1] I0) (dkQi g z (fun r I1 => dkF [] I0 I1 ∧ dkOk I1 ∧ ((True ∧ True)))) 0 0 (dkA z) := by
  refine Met.ofW (cc := cX5_power) (maxL := 4) (ret := (some .int)) (by decide) rfl ?_
  intro p e s m args below meth c s₁ B hml hv
  obtain ⟨ha, hW, hK, hT⟩ := hv
  have hx := B.exec
  have hb := B.bytes
  have hr := B.returns
  have hts := atoms_spec (ws := wsX5_power) B.pre
  have hown : s.vm.findClass RX5 = some m.cls := findClass_of_methodNamed B.named
  have hlocks := B.notSynchronized
  have hS : va_S (dkA z) s.heap s.heap [] := va_S.rf
  have hF : dkF [] I0 I0 := dkF_rf _ _
  have hl := lv_entry ([.int p0, .int p1]) (n := 4) (Nat.le_of_ble_eq_true rfl)
  have hgo : entryFrame m args 4 = entryFrame m ([.int p0, .int p1] : List Value).toArray 4 := by rw [ha]
  rw [hgo, lg_entry_eq]
  generalize (lg_sl ([.int p0, .int p1]) ++ List.replicate (4 - (lg_sl ([.int p0, .int p1])).length) Slot.unset).toArray = ls at hl ⊢
  have hl : lv_has ls 4 [(0, .int p0), (1, .int p1)] := hl
  have C4 : ∀ (n : Nat), ∀ (I : dkI) (H : Heap) (locs : List Loc) (ls : Array Slot) (x4_2 : Int32) (x4_3 : Int32), (6 - x4_3.toInt).toNat < n → dkW g z I H → va_S (dkA z) s.heap H locs → dkF [] I0 I → dkOk I → dkN [(0, 6)] x4_3 → lv_has ls 4 [(0, .int p0), (1, .int p1), (2, .int x4_2), (3, .int x4_3)] → W p l e (headSpec wsX5_power (dkR 0)).room s m args below meth c H locs 0 0 (MQ below (dkQi g z (fun r I1 => dkF [] I0 I1 ∧ dkOk I1 ∧ ((True ∧ True)))) args s 0 0 (dkA z)) (F0 m 4 ls []) := by
    intro n
    induction n with
    | zero => intro I H locs ls x4_2 x4_3 hn; exact absurd hn (Nat.not_lt_zero _)
    | succ n ih4 =>
      intro I4_ H locs ls x4_2 x4_3 hn4 hW hS hF_4 hO k4_1 hl
      have hF := hF_4
      refine lv_iload_n hx hb dX5_power_4 rfl (lv_at hl 3 rfl) ?_
      refine lv_iload_n hx hb dX5_power_5 rfl (lv_at hl 1 rfl) ?_
      refine lv_icmp_ge (tgt := 19) hx hb dX5_power_6 (by decide) (fun c1 => ?_) (fun c1 => ?_)
      ·
        refine lv_iload_n hx hb dX5_power_19 rfl (lv_at hl 2 rfl) ?_
        exact W.iret (v := x4_2) hx hb hr (fun t ht hW9 => ⟨⟨x4_2, I4_, rfl, ⟨hF, hO, ⟨trivial, trivial⟩⟩, dkW_eq ht hW⟩, hS.F ht⟩) hS.2.2 dX5_power_20
      ·
        have d2 : dkN [(1, 6)] p1 := dkN_le2 1 k4_1 dp1 (dkc_nle c1) rfl
        have d3 : dkN [(0, 5)] x4_3 := dkN_le1 1 k4_1 dp1 (dkc_nle c1) rfl
        refine lv_iload_n hx hb dX5_power_9 rfl (lv_at hl 2 rfl) ?_
        refine lv_iload_n hx hb dX5_power_10 rfl (lv_at hl 0 rfl) ?_
        refine lv_imul hx hb dX5_power_11 ?_
        refine lv_topi (fun v4 ev4 => ?_)
        refine lv_istore_n (lv' := [(2, .int v4), (0, .int p0), (1, .int p1), (3, .int x4_3)]) hx hb dX5_power_12 rfl hl (by decide) rfl (fun ls hl => ?_)
        obtain ⟨v5, ev5⟩ : ∃ y : Int32, y = x4_3 + 1 := ⟨_, rfl⟩
        have dv5 : dkN [(1, 6)] v5 := by rw [ev5]; exact dkN_add d3 (dkN_lit (x := 1) (1) rfl) rfl
        refine lv_iinc (v := v5) (lv' := [(3, .int v5), (2, .int v4), (0, .int p0), (1, .int p1)]) hx hb dX5_power_13 hl (k := 3) rfl (by rw [ev5]; rfl) (by decide) rfl (fun ls hl => ?_)
        refine lv_goto (tgt := 4) hx hb dX5_power_16 (by decide) ?_
        exact ih4 I4_ _ _ ls v4 v5 (dk_near hn4 (by rw [ev5]; exact dk_inc d3 rfl) (dkN_lt d3 rfl)) hW hS hF hO (dkN_sub dv5 rfl) (lv_sub hl [2, 3, 1, 0] rfl)
  refine lv_iconst (v := 1) hx hb dX5_power_0 (by decide) ?_
  refine lv_istore_n (lv' := [(2, .int 1), (0, .int p0), (1, .int p1)]) hx hb dX5_power_1 rfl hl (by decide) rfl (fun ls hl => ?_)
  refine lv_iconst (v := 0) hx hb dX5_power_2 (by decide) ?_
  refine lv_istore_n (lv' := [(3, .int 0), (2, .int 1), (0, .int p0), (1, .int p1)]) hx hb dX5_power_3 rfl hl (by decide) rfl (fun ls hl => ?_)
  exact C4 _ I0 _ _ ls 1 0 (Nat.lt_succ_self _) hW hS hF hO (dkN_sub (dkN_lit (x := 0) (0) rfl) rfl) (lv_sub hl [2, 3, 1, 0] rfl)
set_option maxHeartbeats 4000000 in
set_option maxRecDepth 100000 in
theorem c_X5_commonDivisor_0 (l : Launch) (g : dkG) (z : Nat) (I0 : dkI) (p0 : Int32) (p1 : Int32)  (hO : dkOk I0) : Met l yX5_commonDivisor wsX5_commonDivisor (dkR 0) (dkPc g z [.int p0, .int p1] I0) (dkQi g z (fun r I1 => dkF [] I0 I1 ∧ dkOk I1 ∧ ((True ∧ True)))) 0 0 (dkA z) := by
  refine Met.ofW (cc := cX5_commonDivisor) (maxL := 4) (ret := (some .int)) (by decide) rfl ?_
  intro p e s m args below meth c s₁ B hml hv
  obtain ⟨ha, hW, hK, hT⟩ := hv
  have hx := B.exec
  have hb := B.bytes
  have hr := B.returns
  have hts := atoms_spec (ws := wsX5_commonDivisor) B.pre
  have hown : s.vm.findClass RX5 = some m.cls := findClass_of_methodNamed B.named
  have hlocks := B.notSynchronized
  have hS : va_S (dkA z) s.heap s.heap [] := va_S.rf
  have hF : dkF [] I0 I0 := dkF_rf _ _
  have hl := lv_entry ([.int p0, .int p1]) (n := 4) (Nat.le_of_ble_eq_true rfl)
  have hgo : entryFrame m args 4 = entryFrame m ([.int p0, .int p1] : List Value).toArray 4 := by rw [ha]
  rw [hgo, lg_entry_eq]
  generalize (lg_sl ([.int p0, .int p1]) ++ List.replicate (4 - (lg_sl ([.int p0, .int p1])).length) Slot.unset).toArray = ls at hl ⊢
  have hl : lv_has ls 4 [(0, .int p0), (1, .int p1)] := hl
  have C2 : ∀ (n : Nat), ∀ (I : dkI) (H : Heap) (locs : List Loc) (ls : Array Slot) (x2_0 : Int32) (x2_1 : Int32) (x2_2 : Int32), (50 - x2_2.toInt).toNat < n → dkW g z I H → va_S (dkA z) s.heap H locs → dkF [] I0 I → dkOk I → dkN [(0, 50)] x2_2 → lv_has ls 4 [(0, .int x2_0), (1, .int x2_1), (2, .int x2_2)] → W p l e (headSpec wsX5_commonDivisor (dkR 0)).room s m args below meth c H locs 0 0 (MQ below (dkQi g z (fun r I1 => dkF [] I0 I1 ∧ dkOk I1 ∧ ((True ∧ True)))) args s 0 0 (dkA z)) (F0 m 2 ls []) := by
    intro n
    induction n with
    | zero => intro I H locs ls x2_0 x2_1 x2_2 hn; exact absurd hn (Nat.not_lt_zero _)
    | succ n ih2 =>
      intro I2_ H locs ls x2_0 x2_1 x2_2 hn2 hW hS hF_2 hO k2_2 hl
      have hF := hF_2
      refine lv_iload_n hx hb dX5_commonDivisor_2 rfl (lv_at hl 2 rfl) ?_
      refine lv_bipush (v := 50) hx hb dX5_commonDivisor_3 (by decide) ?_
      refine lv_icmp_ge (tgt := 26) hx hb dX5_commonDivisor_5 (by decide) (fun c1 => ?_) (fun c1 => ?_)
      ·
        have d2 : dkN [(50, 50)] x2_2 := dkN_le2 0 (dkN_lit (x := 50) (50) rfl) k2_2 (dkc_le c1) rfl
        refine lv_iload_n hx hb dX5_commonDivisor_26 rfl (lv_at hl 0 rfl) ?_
        exact W.iret (v := x2_0) hx hb hr (fun t ht hW9 => ⟨⟨x2_0, I2_, rfl, ⟨hF, hO, ⟨trivial, trivial⟩⟩, dkW_eq ht hW⟩, hS.F ht⟩) hS.2.2 dX5_commonDivisor_27
      ·
        have d3 : dkN [(0, 49)] x2_2 := dkN_le1 1 k2_2 (dkN_lit (x := 50) (50) rfl) (dkc_nle c1) rfl
        refine lv_iload_n hx hb dX5_commonDivisor_8 rfl (lv_at hl 1 rfl) ?_
        refine lv_if_eq (tgt := 26) hx hb dX5_commonDivisor_9 (by decide) (fun c4 => ?_) (fun c4 => ?_)
        ·
          have d5 : dkN [(0, 0)] x2_1 := dkN_eq1 (dkN_top x2_1) (dkN_lit (x := 0) (0) rfl) (congrArg Int32.toInt c4) rfl
          refine lv_iload_n hx hb dX5_commonDivisor_26 rfl (lv_at hl 0 rfl) ?_
          exact W.iret (v := x2_0) hx hb hr (fun t ht hW9 => ⟨⟨x2_0, I2_, rfl, ⟨hF, hO, ⟨trivial, trivial⟩⟩, dkW_eq ht hW⟩, hS.F ht⟩) hS.2.2 dX5_commonDivisor_27
        ·
          have d6 : dkN [(-2147483648, -1), (1, 2147483647)] x2_1 := dkN_ne1 (0) (dkN_top x2_1) (dkN_lit (x := 0) (0) rfl) (dk_ne c4) rfl
          refine lv_iload_n hx hb dX5_commonDivisor_12 rfl (lv_at hl 0 rfl) ?_
          refine lv_iload_n hx hb dX5_commonDivisor_13 rfl (lv_at hl 1 rfl) ?_
          refine lv_irem hx hb dX5_commonDivisor_14 (dkN_ne0 d6 rfl) ?_
          refine lv_topi (fun v7 ev7 => ?_)
          refine lv_istore_n (lv' := [(3, .int v7), (0, .int x2_0), (1, .int x2_1), (2, .int x2_2)]) hx hb dX5_commonDivisor_15 rfl hl (by decide) rfl (fun ls hl => ?_)
          refine lv_iload_n hx hb dX5_commonDivisor_16 rfl (lv_at hl 2 rfl) ?_
          refine lv_istore_n (lv' := [(0, .int x2_1), (3, .int v7), (1, .int x2_1), (2, .int x2_2)]) hx hb dX5_commonDivisor_17 rfl hl (by decide) rfl (fun ls hl => ?_)
          refine lv_iload_n hx hb dX5_commonDivisor_18 rfl (lv_at hl 1 rfl) ?_
          refine lv_istore_n (lv' := [(1, .int v7), (0, .int x2_1), (3, .int v7), (2, .int x2_2)]) hx hb dX5_commonDivisor_19 rfl hl (by decide) rfl (fun ls hl => ?_)
          obtain ⟨v8, ev8⟩ : ∃ y : Int32, y = x2_2 + 1 := ⟨_, rfl⟩
          have dv8 : dkN [(1, 50)] v8 := by rw [ev8]; exact dkN_add d3 (dkN_lit (x := 1) (1) rfl) rfl
          refine lv_iinc (v := v8) (lv' := [(2, .int v8), (1, .int v7), (0, .int x2_1), (3, .int v7)]) hx hb dX5_commonDivisor_20 hl (k := 3) rfl (by rw [ev8]; rfl) (by decide) rfl (fun ls hl => ?_)
          refine lv_goto (tgt := 2) hx hb dX5_commonDivisor_23 (by decide) ?_
          exact ih2 I2_ _ _ ls x2_1 v7 v8 (dk_near hn2 (by rw [ev8]; exact dk_inc d3 rfl) (dkN_lt d3 rfl)) hW hS hF hO (dkN_sub dv8 rfl) (lv_sub hl [2, 1, 0] rfl)
  refine lv_iconst (v := 0) hx hb dX5_commonDivisor_0 (by decide) ?_
  refine lv_istore_n (lv' := [(2, .int 0), (0, .int p0), (1, .int p1)]) hx hb dX5_commonDivisor_1 rfl hl (by decide) rfl (fun ls hl => ?_)
  exact C2 _ I0 _ _ ls p0 p1 0 (Nat.lt_succ_self _) hW hS hF hO (dkN_sub (dkN_lit (x := 0) (0) rfl) rfl) (lv_sub hl [1, 2, 0] rfl)
set_option maxHeartbeats 4000000 in
set_option maxRecDepth 100000 in
theorem c_X5_asleep_0 (l : Launch) (g : dkG) (z : Nat) (I0 : dkI) (p0 : Int32) (p1 : Int32) (p2 : Int32)  (hO : dkOk I0) : Met l yX5_asleep wsX5_asleep (dkR 7) (dkPc g z [.ref (z + 0), .int p0, .int p1, .int p2] I0) (dkQi g z (fun r I1 => dkF [(326, 326, 0, 4), (326, 326, 11, 11), (326, 326, 15, 17), (327, 327, 0, 4), (328, 328, 0, 4), (329, 329, 0, 4), (330, 330, 0, 4), (331, 331, 0, 4), (332, 332, 0, 4), (333, 333, 0, 5), (334, 334, 0, 5), (335, 335, 0, 5), (336, 336, 0, 8)] I0 I1 ∧ dkOk I1 ∧ ((True ∧ True)))) 0 0 (dkA z) := by
  refine Met.ofW (cc := cX5_asleep) (maxL := 7) (ret := (some .int)) (by decide) rfl ?_
  intro p e s m args below meth c s₁ B hml hv
  obtain ⟨ha, hW, hK, hT⟩ := hv
  have hx := B.exec
  have hb := B.bytes
  have hr := B.returns
  have hts := atoms_spec (ws := wsX5_asleep) B.pre
  have hown : s.vm.findClass RX5 = some m.cls := findClass_of_methodNamed B.named
  have hlocks := B.notSynchronized
  have hS : va_S (dkA z) s.heap s.heap [] := va_S.rf
  have hF : dkF [(326, 326, 0, 4), (326, 326, 11, 11), (326, 326, 15, 17), (327, 327, 0, 4), (328, 328, 0, 4), (329, 329, 0, 4), (330, 330, 0, 4), (331, 331, 0, 4), (332, 332, 0, 4), (333, 333, 0, 5), (334, 334, 0, 5), (335, 335, 0, 5), (336, 336, 0, 8)] I0 I0 := dkF_rf _ _
  have hl := lv_entry ([.ref (z + 0), .int p0, .int p1, .int p2]) (n := 7) (Nat.le_of_ble_eq_true rfl)
  have hgo : entryFrame m args 7 = entryFrame m ([.ref (z + 0), .int p0, .int p1, .int p2] : List Value).toArray 7 := by rw [ha]
  rw [hgo, lg_entry_eq]
  generalize (lg_sl ([.ref (z + 0), .int p0, .int p1, .int p2]) ++ List.replicate (7 - (lg_sl ([.ref (z + 0), .int p0, .int p1, .int p2])).length) Slot.unset).toArray = ls at hl ⊢
  have hl : lv_has ls 7 [(0, .ref (z + 0)), (1, .int p0), (2, .int p1), (3, .int p2)] := hl
  refine lv_aload_n hx hb dX5_asleep_0 rfl (lv_at hl 0 rfl) ?_
  refine lv_iload_n hx hb dX5_asleep_1 rfl (lv_at hl 1 rfl) ?_
  refine dk_Vi (As := [.int p0]) (rest := []) ⟨hx, hb, hml, hown, hts⟩ (c_X5_isPerson_0 l g z I0 p0 hO) (cwV 1 hts gX5_asleep_X5_isPerson rfl rfl rfl (by decide +kernel) ⟨Nat.le_of_ble_eq_true rfl, Nat.le_of_ble_eq_true rfl⟩) (dk_at0 hW) rfl hK hT hW hS rfl hl.1 rfl (Nat.le_of_ble_eq_true rfl) dX5_asleep_2 ⟨Nat.zero_le _, Nat.zero_le _⟩ (fun v1 I1 H1 L1 hp1 hW hS => ?_)
  obtain ⟨hF1, hO, hc1⟩ := hp1
  have hF := dkF_call hF hF1 rfl
  rcases hc1 with ⟨dv1, -⟩ | hc1
  ·
    refine lv_if_eq (tgt := 25) hx hb dX5_asleep_5 (by decide) (fun c2 => ?_) (fun c2 => ?_)
    ·
      refine lv_ldc (v := (-1000001)) hx hb hown (hts (.constant RX5 70 (-1000001)) (List.mem_of_getElem? (i := 1) rfl)) dX5_asleep_25 ?_
      exact W.iret (v := (-1000001)) hx hb hr (fun t ht hW9 => ⟨⟨(-1000001), I1, rfl, ⟨hF, hO, ⟨trivial, trivial⟩⟩, dkW_eq ht hW⟩, hS.F ht⟩) hS.2.2 dX5_asleep_27
    ·
      exact (dkN_nil (show dkN [] v1 from dkN_ne1 (0) dv1 (dkN_lit (x := 0) (0) rfl) (dk_ne c2) rfl)).elim
  ·
    obtain ⟨dv1, a1_0, f1_25_4, -⟩ := hc1
    have d3 : dkN [(0, 4)] p0 := dkN_eq1 (dkN_top p0) a1_0 rfl rfl
    refine lv_if_eq (tgt := 25) hx hb dX5_asleep_5 (by decide) (fun c4 => ?_) (fun c4 => ?_)
    ·
      exact (dkN_nil (show dkN [] v1 from dkN_eq1 dv1 (dkN_lit (x := 0) (0) rfl) (congrArg Int32.toInt c4) rfl)).elim
    ·
      refine lv_iload_n hx hb dX5_asleep_8 rfl (lv_at hl 2 rfl) ?_
      refine lv_bipush (v := 10) hx hb dX5_asleep_9 (by decide) ?_
      refine dk_Si (As := [.int p1, .int 10]) (rest := []) ⟨hx, hb, hml, hown, hts⟩ (c_X5_isUpTo_6 l g z I1 p1 10 (dkN_lit (x := 10) (10) rfl) hO) (va_cwS 2 hts gX5_asleep_X5_isUpTo rfl rfl rfl (by decide +kernel) ⟨Nat.le_of_ble_eq_true rfl, Nat.le_of_ble_eq_true rfl⟩) hK hT hW hS rfl hl.1 rfl (Nat.le_of_ble_eq_true rfl) dX5_asleep_11 ⟨Nat.zero_le _, Nat.zero_le _⟩ (fun v5 I5 H5 L5 hp5 hW hS => ?_)
      obtain ⟨hF5, hO, hc5⟩ := hp5
      have hF := dkF_call hF hF5 rfl
      rcases hc5 with ⟨dv5, a5_0, -⟩ | hc5
      ·
        have d6 : dkN [(-2147483648, -1), (11, 2147483647)] p1 := dkN_eq1 (dkN_top p1) a5_0 rfl rfl
        refine lv_if_eq (tgt := 25) hx hb dX5_asleep_14 (by decide) (fun c7 => ?_) (fun c7 => ?_)
        ·
          refine lv_ldc (v := (-1000001)) hx hb hown (hts (.constant RX5 70 (-1000001)) (List.mem_of_getElem? (i := 1) rfl)) dX5_asleep_25 ?_
          exact W.iret (v := (-1000001)) hx hb hr (fun t ht hW9 => ⟨⟨(-1000001), I5, rfl, ⟨hF, hO, ⟨trivial, trivial⟩⟩, dkW_eq ht hW⟩, hS.F ht⟩) hS.2.2 dX5_asleep_27
        ·
          exact (dkN_nil (show dkN [] v5 from dkN_ne1 (0) dv5 (dkN_lit (x := 0) (0) rfl) (dk_ne c7) rfl)).elim
      ·
        obtain ⟨dv5, a5_0, -⟩ := hc5
        have d8 : dkN [(0, 10)] p1 := dkN_eq1 (dkN_top p1) a5_0 rfl rfl
        refine lv_if_eq (tgt := 25) hx hb dX5_asleep_14 (by decide) (fun c9 => ?_) (fun c9 => ?_)
        ·
          exact (dkN_nil (show dkN [] v5 from dkN_eq1 dv5 (dkN_lit (x := 0) (0) rfl) (congrArg Int32.toInt c9) rfl)).elim
        ·
          refine lv_iload_n hx hb dX5_asleep_17 rfl (lv_at hl 3 rfl) ?_
          refine lv_iconst (v := 1) hx hb dX5_asleep_18 (by decide) ?_
          refine dk_Si (As := [.int p2, .int 1]) (rest := []) ⟨hx, hb, hml, hown, hts⟩ (c_X5_isUpTo_5 l g z I5 p2 1 (dkN_lit (x := 1) (1) rfl) hO) (va_cwS 2 hts gX5_asleep_X5_isUpTo rfl rfl rfl (by decide +kernel) ⟨Nat.le_of_ble_eq_true rfl, Nat.le_of_ble_eq_true rfl⟩) hK hT hW hS rfl hl.1 rfl (Nat.le_of_ble_eq_true rfl) dX5_asleep_19 ⟨Nat.zero_le _, Nat.zero_le _⟩ (fun v10 I10 H10 L10 hp10 hW hS => ?_)
          obtain ⟨hF10, hO, hc10⟩ := hp10
          have hF := dkF_call hF hF10 rfl
          rcases hc10 with ⟨dv10, a10_0, -⟩ | hc10
          ·
            have d11 : dkN [(-2147483648, -1), (2, 2147483647)] p2 := dkN_eq1 (dkN_top p2) a10_0 rfl rfl
            refine lv_if_ne (tgt := 28) hx hb dX5_asleep_22 (by decide) (fun c12 => ?_) (fun c12 => ?_)
            ·
              exact (dkN_nil (show dkN [] v10 from dkN_ne1 (0) dv10 (dkN_lit (x := 0) (0) rfl) (dk_ne c12) rfl)).elim
            ·
              refine lv_ldc (v := (-1000001)) hx hb hown (hts (.constant RX5 70 (-1000001)) (List.mem_of_getElem? (i := 1) rfl)) dX5_asleep_25 ?_
              exact W.iret (v := (-1000001)) hx hb hr (fun t ht hW9 => ⟨⟨(-1000001), I10, rfl, ⟨hF, hO, ⟨trivial, trivial⟩⟩, dkW_eq ht hW⟩, hS.F ht⟩) hS.2.2 dX5_asleep_27
          ·
            obtain ⟨dv10, a10_0, -⟩ := hc10
            have d13 : dkN [(0, 1)] p2 := dkN_eq1 (dkN_top p2) a10_0 rfl rfl
            refine lv_if_ne (tgt := 28) hx hb dX5_asleep_22 (by decide) (fun c14 => ?_) (fun c14 => ?_)
            ·
              refine lv_aload_n hx hb dX5_asleep_28 rfl (lv_at hl 0 rfl) ?_
              refine dk_get (k := 0) hx hb hts iX5_asleep_5 hown hK (dk_at0 hW) rfl 8 (by decide) (hts (.fieldLink RX5 51 "DogKings" "seer" "LDogKings$Seer;") (List.mem_of_getElem? (i := 2) rfl)) rfl dX5_asleep_29 ?_
              refine lv_iload_n hx hb dX5_asleep_32 rfl (lv_at hl 1 rfl) ?_
              refine lv_iload_n hx hb dX5_asleep_33 rfl (lv_at hl 2 rfl) ?_
              refine dk_Vi (As := [.int p0, .int p1]) (rest := []) ⟨hx, hb, hml, hown, hts⟩ (c_X3_chancesAsleep_0 l g z I10 p0 p1 d3 d8 hO) (cwV 2 hts gX5_asleep_X3_chancesAsleep rfl rfl rfl (by decide +kernel) ⟨Nat.le_of_ble_eq_true rfl, Nat.le_of_ble_eq_true rfl⟩) (dk_at325 hW) rfl hK hT hW hS rfl hl.1 rfl (Nat.le_of_ble_eq_true rfl) dX5_asleep_34 ⟨Nat.zero_le _, Nat.zero_le _⟩ (fun v15 I15 H15 L15 hp15 hW hS => ?_)
              obtain ⟨hF15, hO, hc15⟩ := hp15
              have hF := dkF_call hF hF15 rfl
              obtain ⟨_, -⟩ := hc15
              refine lv_istore (lv' := [(4, .int v15), (0, .ref (z + 0)), (1, .int p0), (2, .int p1), (3, .int p2)]) hx hb dX5_asleep_37 hl (by decide) rfl (fun ls hl => ?_)
              refine lv_bipush (v := 10) hx hb dX5_asleep_39 (by decide) ?_
              refine lv_aload_n hx hb dX5_asleep_41 rfl (lv_at hl 1 rfl) ?_
              refine dk_get (k := 0) hx hb hts iX5_asleep_5 hown hK (dk_at0 hW) rfl 5 (by decide) (hts (.fieldLink RX5 31 "DogKings" "now" "LDogKings$Town;") (List.mem_of_getElem? (i := 3) rfl)) rfl dX5_asleep_42 ?_
              refine dk_get (k := 25) hx hb hts iX5_asleep_4 hown hK (dk_at25 hW) rfl 11 (by decide) (hts (.fieldLink RX5 120 "DogKings$Town" "dogs" "I") (List.mem_of_getElem? (i := 4) rfl)) rfl dX5_asleep_45 ?_
              refine lv_topi (fun v16 ev16 => ?_)
              have dv16 : dkN [(0, 6)] v16 := by rw [ev16]; exact (hO 25 11)
              refine dk_Si (As := [.int 10, .int v16]) (rest := []) ⟨hx, hb, hml, hown, hts⟩ (c_X5_power_2 l g z I15 10 v16 (dkN_lit (x := 10) (10) rfl) dv16 hO) (va_cwS 2 hts gX5_asleep_X5_power rfl rfl rfl (by decide +kernel) ⟨Nat.le_of_ble_eq_true rfl, Nat.le_of_ble_eq_true rfl⟩) hK hT hW hS rfl hl.1 rfl (Nat.le_of_ble_eq_true rfl) dX5_asleep_48 ⟨Nat.zero_le _, Nat.zero_le _⟩ (fun v17 I17 H17 L17 hp17 hW hS => ?_)
              obtain ⟨hF17, hO, hc17⟩ := hp17
              have hF := dkF_call hF hF17 rfl
              obtain ⟨_, -⟩ := hc17
              refine lv_istore (lv' := [(5, .int v17), (4, .int v15), (0, .ref (z + 0)), (1, .int p0), (2, .int p1), (3, .int p2)]) hx hb dX5_asleep_51 hl (by decide) rfl (fun ls hl => ?_)
              refine lv_iconst (v := 1) hx hb dX5_asleep_53 (by decide) ?_
              refine lv_iload hx hb dX5_asleep_54 (lv_at hl 1 rfl) ?_
              refine lv_iload hx hb dX5_asleep_56 (lv_at hl 0 rfl) ?_
              refine dk_Si (As := [.int v15, .int v17]) (rest := [.int 1]) ⟨hx, hb, hml, hown, hts⟩ (c_X5_commonDivisor_0 l g z I17 v15 v17 hO) (va_cwS 2 hts gX5_asleep_X5_commonDivisor rfl rfl rfl (by decide +kernel) ⟨Nat.le_of_ble_eq_true rfl, Nat.le_of_ble_eq_true rfl⟩) hK hT hW hS rfl hl.1 rfl (Nat.le_of_ble_eq_true rfl) dX5_asleep_58 ⟨Nat.zero_le _, Nat.zero_le _⟩ (fun v18 I18 H18 L18 hp18 hW hS => ?_)
              obtain ⟨hF18, hO, hc18⟩ := hp18
              have hF := dkF_call hF hF18 rfl
              obtain ⟨_, -⟩ := hc18
              refine va_mmax hx hb (by rw [hml]; exact hl.1.symm) hown (hts (.methodLink RX5 243 Lib.Math.max.name) (List.mem_of_getElem? (i := 5) rfl)) (hts (.static Lib.Math.max.name) (List.mem_of_getElem? (i := 6) rfl)) (hts (.initialized "java/lang/Math") (List.mem_of_getElem? (i := 7) rfl)) (hts (.code Lib.Math.max.name Lib.Math.max.code 2 (some .int)) (List.mem_of_getElem? (i := 8) rfl)) (Nat.le_of_ble_eq_true rfl) (Nat.le_of_ble_eq_true rfl) (Nat.zero_le _) (Nat.zero_le _) dX5_asleep_61 ?_
              refine lv_topi (fun v19 ev19 => ?_)
              have dv19 : dkN [(1, 2147483647)] v19 := by rw [ev19]; exact dkN_max (dkN_lit (x := 1) (1) rfl) (dkN_top v18) rfl
              refine lv_istore (lv' := [(6, .int v19), (5, .int v17), (4, .int v15), (0, .ref (z + 0)), (1, .int p0), (2, .int p1), (3, .int p2)]) hx hb dX5_asleep_64 hl (by decide) rfl (fun ls hl => ?_)
              refine lv_iload_n hx hb dX5_asleep_66 rfl (lv_at hl 6 rfl) ?_
              refine lv_if_ne (tgt := 75) hx hb dX5_asleep_67 (by decide) (fun c20 => ?_) (fun c20 => ?_)
              ·
                have d21 : dkN [(1, 1)] p2 := dkN_ne1 (0) d13 (dkN_lit (x := 0) (0) rfl) (dk_ne c20) rfl
                refine lv_iload hx hb dX5_asleep_75 (lv_at hl 1 rfl) ?_
                refine lv_iload hx hb dX5_asleep_77 (lv_at hl 0 rfl) ?_
                refine lv_idiv hx hb dX5_asleep_79 (dkN_ne0 dv19 rfl) ?_
                refine lv_topi (fun v22 ev22 => ?_)
                exact W.iret (v := v22) hx hb hr (fun t ht hW9 => ⟨⟨v22, I18, rfl, ⟨hF, hO, ⟨trivial, trivial⟩⟩, dkW_eq ht hW⟩, hS.F ht⟩) hS.2.2 dX5_asleep_80
              ·
                have d23 : dkN [(0, 0)] p2 := dkN_eq1 d13 (dkN_lit (x := 0) (0) rfl) (congrArg Int32.toInt c20) rfl
                refine lv_iload hx hb dX5_asleep_70 (lv_at hl 2 rfl) ?_
                refine lv_goto (tgt := 77) hx hb dX5_asleep_72 (by decide) ?_
                refine lv_iload hx hb dX5_asleep_77 (lv_at hl 0 rfl) ?_
                refine lv_idiv hx hb dX5_asleep_79 (dkN_ne0 dv19 rfl) ?_
                refine lv_topi (fun v24 ev24 => ?_)
                exact W.iret (v := v24) hx hb hr (fun t ht hW9 => ⟨⟨v24, I18, rfl, ⟨hF, hO, ⟨trivial, trivial⟩⟩, dkW_eq ht hW⟩, hS.F ht⟩) hS.2.2 dX5_asleep_80
            ·
              exact (dkN_nil (show dkN [] v10 from dkN_eq1 dv10 (dkN_lit (x := 0) (0) rfl) (congrArg Int32.toInt c14) rfl)).elim
set_option maxHeartbeats 4000000 in
set_option maxRecDepth 100000 in
theorem c_X6_in_18 (l : Launch) (g : dkG) (z : Nat) (I0 : dkI) (p0 : Int32) (p1 : Int32) (p2 : Int32) (dp1 : dkN [(0, 0)] p1) (dp2 : dkN [(10, 10)] p2)  (hO : dkOk I0) : Met l yX6_in wsX6_in (dkR 0) (dkPc g z [.int p0, .int p1, .int p2] I0) (dkQi g z (fun r I1 => dkF [] I0 I1 ∧ dkOk I1 ∧ ((dkN [(0, 0)] r ∧ dkN [(-2147483648, -1), (11, 2147483647)] p0 ∧ True) ∨ (dkN [(1, 1)] r ∧ dkN [(0, 10)] p0 ∧ True)))) 0 0 (dkA z) := by
  refine Met.ofW (cc := cX6_in) (maxL := 3) (ret := (some .boolean)) (by decide) rfl ?_
  intro p e s m args below meth c s₁ B hml hv
  obtain ⟨ha, hW, hK, hT⟩ := hv
  have hx := B.exec
  have hb := B.bytes
  have hr := B.returns
  have hts := atoms_spec (ws := wsX6_in) B.pre
  have hown : s.vm.findClass RX6 = some m.cls := findClass_of_methodNamed B.named
  have hlocks := B.notSynchronized
  have hS : va_S (dkA z) s.heap s.heap [] := va_S.rf
  have hF : dkF [] I0 I0 := dkF_rf _ _
  have hl := lv_entry ([.int p0, .int p1, .int p2]) (n := 3) (Nat.le_of_ble_eq_true rfl)
  have hgo : entryFrame m args 3 = entryFrame m ([.int p0, .int p1, .int p2] : List Value).toArray 3 := by rw [ha]
  rw [hgo, lg_entry_eq]
  generalize (lg_sl ([.int p0, .int p1, .int p2]) ++ List.replicate (3 - (lg_sl ([.int p0, .int p1, .int p2])).length) Slot.unset).toArray = ls at hl ⊢
  have hl : lv_has ls 3 [(0, .int p0), (1, .int p1), (2, .int p2)] := hl
  refine lv_iload_n hx hb dX6_in_0 rfl (lv_at hl 0 rfl) ?_
  refine lv_iload_n hx hb dX6_in_1 rfl (lv_at hl 1 rfl) ?_
  refine lv_icmp_lt (tgt := 14) hx hb dX6_in_2 (by decide) (fun c1 => ?_) (fun c1 => ?_)
  ·
    have d2 : dkN [(-2147483648, -1)] p0 := dkN_le1 1 (dkN_top p0) dp1 (dkc_lt c1) rfl
    refine lv_iconst (v := 0) hx hb dX6_in_14 (by decide) ?_
    exact W.zret (v := 0) (ty := .boolean) hx hb hr rfl (fun t ht hW9 => ⟨⟨0, I0, rfl, ⟨hF, hO, Or.inl ⟨dkN_sub (dkN_lit (x := 0) (0) rfl) rfl, dkN_sub d2 rfl, trivial⟩⟩, dkW_eq ht hW⟩, hS.F ht⟩) hS.2.2 dX6_in_15
  ·
    have d3 : dkN [(0, 2147483647)] p0 := dkN_le2 0 dp1 (dkN_top p0) (dkc_nlt c1) rfl
    refine lv_iload_n hx hb dX6_in_5 rfl (lv_at hl 0 rfl) ?_
    refine lv_iload_n hx hb dX6_in_6 rfl (lv_at hl 2 rfl) ?_
    refine lv_icmp_gt (tgt := 14) hx hb dX6_in_7 (by decide) (fun c4 => ?_) (fun c4 => ?_)
    ·
      have d5 : dkN [(11, 2147483647)] p0 := dkN_le2 1 dp2 d3 (dkc_lt c4) rfl
      refine lv_iconst (v := 0) hx hb dX6_in_14 (by decide) ?_
      exact W.zret (v := 0) (ty := .boolean) hx hb hr rfl (fun t ht hW9 => ⟨⟨0, I0, rfl, ⟨hF, hO, Or.inl ⟨dkN_sub (dkN_lit (x := 0) (0) rfl) rfl, dkN_sub d5 rfl, trivial⟩⟩, dkW_eq ht hW⟩, hS.F ht⟩) hS.2.2 dX6_in_15
    ·
      have d6 : dkN [(0, 10)] p0 := dkN_le1 0 d3 dp2 (dkc_nlt c4) rfl
      refine lv_iconst (v := 1) hx hb dX6_in_10 (by decide) ?_
      refine lv_goto (tgt := 15) hx hb dX6_in_11 (by decide) ?_
      exact W.zret (v := 1) (ty := .boolean) hx hb hr rfl (fun t ht hW9 => ⟨⟨1, I0, rfl, ⟨hF, hO, Or.inr (⟨dkN_sub (dkN_lit (x := 1) (1) rfl) rfl, dkN_sub d6 rfl, trivial⟩)⟩, dkW_eq ht hW⟩, hS.F ht⟩) hS.2.2 dX6_in_15
set_option maxHeartbeats 4000000 in
set_option maxRecDepth 100000 in
theorem c_X6_asleep_0 (l : Launch) (g : dkG) (z : Nat) (I0 : dkI) (p0 : Int32) (p1 : Int32) (p2 : Int32)  (hO : dkOk I0) : Met l yX6_asleep wsX6_asleep (dkR 7) (dkPc g z [.ref (z + 340), .int p0, .int p1, .int p2] I0) (dkQi g z (fun r I1 => dkF [(340, 340, 20, 22), (348, 348, 0, 53)] I0 I1 ∧ dkOk I1 ∧ ((True ∧ True)))) 0 0 (dkA z) := by
  refine Met.ofW (cc := cX6_asleep) (maxL := 9) (ret := (some .int)) (by decide) rfl ?_
  intro p e s m args below meth c s₁ B hml hv
  obtain ⟨ha, hW, hK, hT⟩ := hv
  have hx := B.exec
  have hb := B.bytes
  have hr := B.returns
  have hts := atoms_spec (ws := wsX6_asleep) B.pre
  have hown : s.vm.findClass RX6 = some m.cls := findClass_of_methodNamed B.named
  have hlocks := B.notSynchronized
  have hS : va_S (dkA z) s.heap s.heap [] := va_S.rf
  have hF : dkF [(340, 340, 20, 22), (348, 348, 0, 53)] I0 I0 := dkF_rf _ _
  have hl := lv_entry ([.ref (z + 340), .int p0, .int p1, .int p2]) (n := 9) (Nat.le_of_ble_eq_true rfl)
  have hgo : entryFrame m args 9 = entryFrame m ([.ref (z + 340), .int p0, .int p1, .int p2] : List Value).toArray 9 := by rw [ha]
  rw [hgo, lg_entry_eq]
  generalize (lg_sl ([.ref (z + 340), .int p0, .int p1, .int p2]) ++ List.replicate (9 - (lg_sl ([.ref (z + 340), .int p0, .int p1, .int p2])).length) Slot.unset).toArray = ls at hl ⊢
  have hl : lv_has ls 9 [(0, .ref (z + 340)), (1, .int p0), (2, .int p1), (3, .int p2)] := hl
  have C168 : ∀ (n : Nat), ∀ (I : dkI) (H : Heap) (locs : List Loc) (ls : Array Slot) (x168_4 : Int32) (x168_5 : Int32) (x168_6 : Int32) (x168_7 : Int32) (x168_8 : Int32), x168_7.toInt.natAbs < n → dkW g z I H → va_S (dkA z) s.heap H locs → dkF [(340, 340, 20, 22), (348, 348, 0, 53)] I0 I → dkOk I → dkN [(1, 1), (10, 10), (100, 100), (1000, 1000), (10000, 2147483647)] x168_5 → dkN [(-2147483648, -1), (1, 2147483647)] x168_6 → dkN [(0, 4)] p0 → dkN [(0, 10)] p1 → dkN [(0, 1)] p2 → lv_has ls 9 [(0, .ref (z + 340)), (1, .int p0), (2, .int p1), (3, .int p2), (4, .int x168_4), (5, .int x168_5), (6, .int x168_6), (7, .int x168_7), (8, .int x168_8)] → W p l e (headSpec wsX6_asleep (dkR 7)).room s m args below meth c H locs 0 0 (MQ below (dkQi g z (fun r I1 => dkF [(340, 340, 20, 22), (348, 348, 0, 53)] I0 I1 ∧ dkOk I1 ∧ ((True ∧ True)))) args s 0 0 (dkA z)) (F0 m 168 ls []) := by
    intro n
    induction n with
    | zero => intro I H locs ls x168_4 x168_5 x168_6 x168_7 x168_8 hn; exact absurd hn (Nat.not_lt_zero _)
    | succ n ih168 =>
      intro I168_ H locs ls x168_4 x168_5 x168_6 x168_7 x168_8 hn168 hW hS hF_168 hO k168_1 k168_2 r168_0 r168_1 r168_2 hl
      have hF := hF_168
      refine lv_iload hx hb dX6_asleep_168 (lv_at hl 7 rfl) ?_
      refine lv_if_eq (tgt := 191) hx hb dX6_asleep_170 (by decide) (fun c1 => ?_) (fun c1 => ?_)
      ·
        have d2 : dkN [(0, 0)] x168_7 := dkN_eq1 (dkN_top x168_7) (dkN_lit (x := 0) (0) rfl) (congrArg Int32.toInt c1) rfl
        refine lv_iload_n hx hb dX6_asleep_191 rfl (lv_at hl 3 rfl) ?_
        refine lv_if_ne (tgt := 200) hx hb dX6_asleep_192 (by decide) (fun c3 => ?_) (fun c3 => ?_)
        ·
          have d4 : dkN [(1, 1)] p2 := dkN_ne1 (0) r168_2 (dkN_lit (x := 0) (0) rfl) (dk_ne c3) rfl
          refine lv_iload hx hb dX6_asleep_200 (lv_at hl 5 rfl) ?_
          refine lv_iload hx hb dX6_asleep_202 (lv_at hl 6 rfl) ?_
          refine lv_idiv hx hb dX6_asleep_204 (dkN_ne0 k168_2 rfl) ?_
          refine lv_topi (fun v5 ev5 => ?_)
          exact W.iret (v := v5) hx hb hr (fun t ht hW9 => ⟨⟨v5, I168_, rfl, ⟨hF, hO, ⟨trivial, trivial⟩⟩, dkW_eq ht hW⟩, hS.F ht⟩) hS.2.2 dX6_asleep_205
        ·
          have d6 : dkN [(0, 0)] p2 := dkN_eq1 r168_2 (dkN_lit (x := 0) (0) rfl) (congrArg Int32.toInt c3) rfl
          refine lv_iload hx hb dX6_asleep_195 (lv_at hl 4 rfl) ?_
          refine lv_goto (tgt := 202) hx hb dX6_asleep_197 (by decide) ?_
          refine lv_iload hx hb dX6_asleep_202 (lv_at hl 6 rfl) ?_
          refine lv_idiv hx hb dX6_asleep_204 (dkN_ne0 k168_2 rfl) ?_
          refine lv_topi (fun v7 ev7 => ?_)
          exact W.iret (v := v7) hx hb hr (fun t ht hW9 => ⟨⟨v7, I168_, rfl, ⟨hF, hO, ⟨trivial, trivial⟩⟩, dkW_eq ht hW⟩, hS.F ht⟩) hS.2.2 dX6_asleep_205
      ·
        have d8 : dkN [(-2147483648, -1), (1, 2147483647)] x168_7 := dkN_ne1 (0) (dkN_top x168_7) (dkN_lit (x := 0) (0) rfl) (dk_ne c1) rfl
        refine lv_iload hx hb dX6_asleep_173 (lv_at hl 6 rfl) ?_
        refine lv_iload hx hb dX6_asleep_175 (lv_at hl 7 rfl) ?_
        refine lv_irem hx hb dX6_asleep_177 (dkN_ne0 d8 rfl) ?_
        refine lv_topi (fun v9 ev9 => ?_)
        refine lv_istore (lv' := [(8, .int v9), (0, .ref (z + 340)), (1, .int p0), (2, .int p1), (3, .int p2), (4, .int x168_4), (5, .int x168_5), (6, .int x168_6), (7, .int x168_7)]) hx hb dX6_asleep_178 hl (by decide) rfl (fun ls hl => ?_)
        refine lv_iload hx hb dX6_asleep_180 (lv_at hl 8 rfl) ?_
        refine lv_istore (lv' := [(6, .int x168_7), (8, .int v9), (0, .ref (z + 340)), (1, .int p0), (2, .int p1), (3, .int p2), (4, .int x168_4), (5, .int x168_5), (7, .int x168_7)]) hx hb dX6_asleep_182 hl (by decide) rfl (fun ls hl => ?_)
        refine lv_iload hx hb dX6_asleep_184 (lv_at hl 1 rfl) ?_
        refine lv_istore (lv' := [(7, .int v9), (6, .int x168_7), (8, .int v9), (0, .ref (z + 340)), (1, .int p0), (2, .int p1), (3, .int p2), (4, .int x168_4), (5, .int x168_5)]) hx hb dX6_asleep_186 hl (by decide) rfl (fun ls hl => ?_)
        refine lv_goto (tgt := 168) hx hb dX6_asleep_188 (by decide) ?_
        exact ih168 I168_ _ _ ls x168_4 x168_5 x168_7 v9 v9 (dk_nearG hn168 ev9 (dkN_ne0 d8 rfl)) hW hS hF hO (dkN_sub k168_1 rfl) (dkN_sub d8 rfl) (dkN_sub r168_0 rfl) (dkN_sub r168_1 rfl) (dkN_sub r168_2 rfl) (lv_sub hl [3, 4, 5, 6, 7, 8, 1, 0, 2] rfl)
  have C66 : ∀ (n : Nat), ∀ (I : dkI) (H : Heap) (locs : List Loc) (ls : Array Slot) (x66_4 : Int32) (x66_5 : Int32) (x66_6 : Int32), (2147483647 - x66_6.toInt).toNat < n → dkW g z I H → va_S (dkA z) s.heap H locs → dkF [(340, 340, 20, 22), (348, 348, 0, 53)] I0 I → dkOk I → dkN [(1, 1), (10, 10), (100, 100), (1000, 1000), (10000, 2147483647)] x66_5 → dkN [(0, 2147483647)] x66_6 → dkN [(0, 4)] p0 → dkN [(0, 10)] p1 → dkN [(0, 1)] p2 → lv_has ls 9 [(0, .ref (z + 340)), (1, .int p0), (2, .int p1), (3, .int p2), (4, .int x66_4), (5, .int x66_5), (6, .int x66_6)] → W p l e (headSpec wsX6_asleep (dkR 7)).room s m args below meth c H locs 0 0 (MQ below (dkQi g z (fun r I1 => dkF [(340, 340, 20, 22), (348, 348, 0, 53)] I0 I1 ∧ dkOk I1 ∧ ((True ∧ True)))) args s 0 0 (dkA z)) (F0 m 66 ls []) := by
    intro n
    induction n with
    | zero => intro I H locs ls x66_4 x66_5 x66_6 hn; exact absurd hn (Nat.not_lt_zero _)
    | succ n ih66 =>
      intro I66_ H locs ls x66_4 x66_5 x66_6 hn66 hW hS hF_66 hO k66_1 k66_2 r66_0 r66_1 r66_2 hl
      have hF := hF_66
      have C151 : ∀ (I : dkI) (H : Heap) (locs : List Loc) (ls : Array Slot) (x151_7 : Int32) (x151_8 : Int32) (x151_s0 : Int32), dkW g z I H → va_S (dkA z) s.heap H locs → dkF [(340, 340, 20, 22), (348, 348, 0, 53)] I0 I → dkOk I → dkN [(0, 6)] x151_8 → dkN [(0, 4)] p0 → dkN [(0, 10)] p1 → dkN [(0, 1)] p2 → dkN [(1, 1), (10, 10), (100, 100), (1000, 1000), (10000, 2147483647)] x66_5 → dkN [(0, 90)] x66_6 → dkN [(0, 0)] (I 340 20) → dkN [(0, 0)] (I 340 22) → dkN [(0, 2147483647)] (I 348 3) → lv_has ls 9 [(0, .ref (z + 340)), (1, .int p0), (2, .int p1), (3, .int p2), (4, .int x66_4), (5, .int x66_5), (6, .int x66_6), (7, .int x151_7), (8, .int x151_8)] → W p l e (headSpec wsX6_asleep (dkR 7)).room s m args below meth c H locs 0 0 (MQ below (dkQi g z (fun r I1 => dkF [(340, 340, 20, 22), (348, 348, 0, 53)] I0 I1 ∧ dkOk I1 ∧ ((True ∧ True)))) args s 0 0 (dkA z)) (F0 m 151 ls [.int x151_s0, .int x66_4]) := by
        intro I151_ H locs ls x151_7 x151_8 x151_s0 hW hS hF_151 hO k151_1 r151_0 r151_1 r151_2 r151_3 r151_4 f151_0 f151_1 f151_2 hl
        have hF := hF_151
        refine lv_iadd hx hb dX6_asleep_151 ?_
        refine lv_topi (fun v10 ev10 => ?_)
        refine lv_istore (lv' := [(4, .int v10), (0, .ref (z + 340)), (1, .int p0), (2, .int p1), (3, .int p2), (5, .int x66_5), (6, .int x66_6), (7, .int x151_7), (8, .int x151_8)]) hx hb dX6_asleep_152 hl (by decide) rfl (fun ls hl => ?_)
        obtain ⟨v11, ev11⟩ : ∃ y : Int32, y = x66_6 + 1 := ⟨_, rfl⟩
        have dv11 : dkN [(1, 91)] v11 := by rw [ev11]; exact dkN_add r151_4 (dkN_lit (x := 1) (1) rfl) rfl
        refine lv_iinc (v := v11) (lv' := [(6, .int v11), (4, .int v10), (0, .ref (z + 340)), (1, .int p0), (2, .int p1), (3, .int p2), (5, .int x66_5), (7, .int x151_7), (8, .int x151_8)]) hx hb dX6_asleep_154 hl (k := 6) rfl (by rw [ev11]; rfl) (by decide) rfl (fun ls hl => ?_)
        refine lv_goto (tgt := 66) hx hb dX6_asleep_157 (by decide) ?_
        exact ih66 I151_ _ _ ls v10 x66_5 v11 (dk_near hn66 (by rw [ev11]; exact dk_inc r151_4 rfl) (dkN_lt r151_4 rfl)) hW hS hF hO (dkN_sub r151_3 rfl) (dkN_sub dv11 rfl) (dkN_sub r151_0 rfl) (dkN_sub r151_1 rfl) (dkN_sub r151_2 rfl) (lv_sub hl [2, 3, 4, 5, 1, 6, 0] rfl)
      have C85 : ∀ (n : Nat), ∀ (I : dkI) (H : Heap) (locs : List Loc) (ls : Array Slot) (x85_7 : Int32) (x85_8 : Int32), (6 - x85_8.toInt).toNat < n → dkW g z I H → va_S (dkA z) s.heap H locs → dkF [(340, 340, 20, 22), (348, 348, 0, 53)] I0 I → dkOk I → dkN [(0, 6)] x85_8 → dkN [(0, 4)] p0 → dkN [(0, 10)] p1 → dkN [(0, 1)] p2 → dkN [(1, 1), (10, 10), (100, 100), (1000, 1000), (10000, 2147483647)] x66_5 → dkN [(0, 90)] x66_6 → lv_has ls 9 [(0, .ref (z + 340)), (1, .int p0), (2, .int p1), (3, .int p2), (4, .int x66_4), (5, .int x66_5), (6, .int x66_6), (7, .int x85_7), (8, .int x85_8)] → W p l e (headSpec wsX6_asleep (dkR 7)).room s m args below meth c H locs 0 0 (MQ below (dkQi g z (fun r I1 => dkF [(340, 340, 20, 22), (348, 348, 0, 53)] I0 I1 ∧ dkOk I1 ∧ ((True ∧ True)))) args s 0 0 (dkA z)) (F0 m 85 ls []) := by
        intro n
        induction n with
        | zero => intro I H locs ls x85_7 x85_8 hn; exact absurd hn (Nat.not_lt_zero _)
        | succ n ih85 =>
          intro I85_ H locs ls x85_7 x85_8 hn85 hW hS hF_85 hO k85_1 r85_0 r85_1 r85_2 r85_3 r85_4 hl
          have hF := hF_85
          have C116 : ∀ (I : dkI) (H : Heap) (locs : List Loc) (ls : Array Slot) (x116_s0 : Int32), dkW g z I H → va_S (dkA z) s.heap H locs → dkF [(340, 340, 20, 22), (348, 348, 0, 53)] I0 I → dkOk I → dkN [(0, 10)] x116_s0 → dkN [(0, 4)] p0 → dkN [(0, 10)] p1 → dkN [(0, 1)] p2 → dkN [(1, 1), (10, 10), (100, 100), (1000, 1000), (10000, 2147483647)] x66_5 → dkN [(0, 90)] x66_6 → dkN [(0, 5)] x85_8 → dkN [(1, 6)] (I 346 5) → lv_has ls 9 [(0, .ref (z + 340)), (1, .int p0), (2, .int p1), (3, .int p2), (4, .int x66_4), (5, .int x66_5), (6, .int x66_6), (7, .int x85_7), (8, .int x85_8)] → W p l e (headSpec wsX6_asleep (dkR 7)).room s m args below meth c H locs 0 0 (MQ below (dkQi g z (fun r I1 => dkF [(340, 340, 20, 22), (348, 348, 0, 53)] I0 I1 ∧ dkOk I1 ∧ ((True ∧ True)))) args s 0 0 (dkA z)) (F0 m 116 ls [.int x116_s0, .int x85_7]) := by
            intro I116_ H locs ls x116_s0 hW hS hF_116 hO k116_0 r116_0 r116_1 r116_2 r116_3 r116_4 r116_5 f116_0 hl
            have hF := hF_116
            refine lv_imul hx hb dX6_asleep_116 ?_
            refine lv_topi (fun v12 ev12 => ?_)
            refine lv_istore (lv' := [(7, .int v12), (0, .ref (z + 340)), (1, .int p0), (2, .int p1), (3, .int p2), (4, .int x66_4), (5, .int x66_5), (6, .int x66_6), (8, .int x85_8)]) hx hb dX6_asleep_117 hl (by decide) rfl (fun ls hl => ?_)
            obtain ⟨v13, ev13⟩ : ∃ y : Int32, y = x85_8 + 1 := ⟨_, rfl⟩
            have dv13 : dkN [(1, 6)] v13 := by rw [ev13]; exact dkN_add r116_5 (dkN_lit (x := 1) (1) rfl) rfl
            refine lv_iinc (v := v13) (lv' := [(8, .int v13), (7, .int v12), (0, .ref (z + 340)), (1, .int p0), (2, .int p1), (3, .int p2), (4, .int x66_4), (5, .int x66_5), (6, .int x66_6)]) hx hb dX6_asleep_119 hl (k := 8) rfl (by rw [ev13]; rfl) (by decide) rfl (fun ls hl => ?_)
            refine lv_goto (tgt := 85) hx hb dX6_asleep_122 (by decide) ?_
            exact ih85 I116_ _ _ ls v12 v13 (dk_near hn85 (by rw [ev13]; exact dk_inc r116_5 rfl) (dkN_lt r116_5 rfl)) hW hS hF hO (dkN_sub dv13 rfl) (dkN_sub r116_0 rfl) (dkN_sub r116_1 rfl) (dkN_sub r116_2 rfl) (dkN_sub r116_3 rfl) (dkN_sub r116_4 rfl) (lv_sub hl [2, 3, 4, 5, 6, 7, 8, 1, 0] rfl)
          refine lv_iload hx hb dX6_asleep_85 (lv_at hl 8 rfl) ?_
          refine lv_aload_n hx hb dX6_asleep_87 rfl (lv_at hl 0 rfl) ?_
          refine dk_get (k := 340) hx hb hts iX6_asleep_6 hown hK (dk_at340 hW) rfl 13 (by decide) (hts (.fieldLink RX6 25 "DogKingsModel" "now" "[I") (List.mem_of_getElem? (i := 2) rfl)) rfl dX6_asleep_88 ?_
          refine lv_iconst (v := 5) hx hb dX6_asleep_91 (by decide) ?_
          refine dk_ild (k := 346) hx hb hK (dk_at346 hW) (dkN_in (n := 54) (dkN_lit (x := 5) (5) rfl) rfl) dX6_asleep_92 ?_
          refine lv_topi (fun v14 ev14 => ?_)
          have ev14 : v14 = I85_ 346 5 := ev14
          have dv14 : dkN [(0, 6)] v14 := by rw [ev14]; exact (show dkN [(0, 6)] (I85_ 346 5) from (hO 346 5))
          refine lv_icmp_ge (tgt := 125) hx hb dX6_asleep_93 (by decide) (fun c15 => ?_) (fun c15 => ?_)
          ·
            refine lv_aload_n hx hb dX6_asleep_125 rfl (lv_at hl 0 rfl) ?_
            refine dk_Vv (As := []) (rest := []) ⟨hx, hb, hml, hown, hts⟩ (c_X6_tries_0 l g z I85_ hO) (cwV 0 hts gX6_asleep_X6_tries rfl rfl rfl (by decide +kernel) ⟨Nat.le_of_ble_eq_true rfl, Nat.le_of_ble_eq_true rfl⟩) (dk_at340 hW) rfl hK hT hW hS rfl hl.1 rfl (Nat.le_of_ble_eq_true rfl) dX6_asleep_126 ⟨Nat.zero_le _, Nat.zero_le _⟩ (fun I16 H16 L16 hp16 hW hS => ?_)
            obtain ⟨hF16, hO, hc16⟩ := hp16
            have hF := dkF_call hF hF16 rfl
            obtain ⟨f16_340_20, f16_340_21, f16_340_22, -⟩ := hc16
            refine lv_aload_n hx hb dX6_asleep_129 rfl (lv_at hl 0 rfl) ?_
            refine lv_iload hx hb dX6_asleep_130 (lv_at hl 6 rfl) ?_
            refine dk_put (k := 340) hx hb hts iX6_asleep_6 tyX6 tyX6_ok nmX6 hown hK hW (dk_at340 hW) hS rfl 21 (by decide) (hts (.fieldLink RX6 212 "DogKingsModel" "asleep" "I") (List.mem_of_getElem? (i := 3) rfl)) rfl rfl (Nat.le_of_ble_eq_true rfl) rfl dX6_asleep_132 (fun I17 H17 L17 eI17 hW hS => ?_)
            have eI17 : I17 = dkU I16 340 21 x66_6 := eI17
            have hO := dkO_set hO eI17 (dkN_sub r85_4 rfl)
            have hF := dkF_set hF eI17 rfl
            refine lv_iload hx hb dX6_asleep_135 (lv_at hl 4 rfl) ?_
            refine lv_aload_n hx hb dX6_asleep_137 rfl (lv_at hl 0 rfl) ?_
            refine dk_Vi (As := []) (rest := [.int x66_4]) ⟨hx, hb, hml, hown, hts⟩ (c_X6_nextKing_0 l g z I17 hO) (cwV 0 hts gX6_asleep_X6_nextKing rfl rfl rfl (by decide +kernel) ⟨Nat.le_of_ble_eq_true rfl, Nat.le_of_ble_eq_true rfl⟩) (dk_at340 hW) rfl hK hT hW hS rfl hl.1 rfl (Nat.le_of_ble_eq_true rfl) dX6_asleep_138 ⟨Nat.zero_le _, Nat.zero_le _⟩ (fun v18 I18 H18 L18 hp18 hW hS => ?_)
            obtain ⟨hF18, hO, hc18⟩ := hp18
            have hF := dkF_call hF hF18 rfl
            obtain ⟨dv18, f18_348_3, -⟩ := hc18
            refine lv_iload_n hx hb dX6_asleep_141 rfl (lv_at hl 1 rfl) ?_
            refine lv_icmp_ne (tgt := 150) hx hb dX6_asleep_142 (by decide) (fun c19 => ?_) (fun c19 => ?_)
            ·
              refine lv_iconst (v := 0) hx hb dX6_asleep_150 (by decide) ?_
              exact C151 I18 _ _ ls x85_7 x85_8 0 hW hS hF hO (dkN_sub k85_1 rfl) (dkN_sub r85_0 rfl) (dkN_sub r85_1 rfl) (dkN_sub r85_2 rfl) (dkN_sub r85_3 rfl) (dkN_sub r85_4 rfl) (show dkN [(0, 0)] (I18 340 20) from dkN_sub (by rw [hF18 340 20 rfl]; exact (by rw [eI17, dkU_sn (by decide)]; exact f16_340_20)) rfl) (show dkN [(0, 0)] (I18 340 22) from dkN_sub (by rw [hF18 340 22 rfl]; exact (by rw [eI17, dkU_sn (by decide)]; exact f16_340_22)) rfl) (show dkN [(0, 2147483647)] (I18 348 3) from dkN_sub f18_348_3 rfl) (lv_sub hl [0, 1, 2, 3, 4, 5, 6, 7, 8] rfl)
            ·
              have d20 : dkN [(0, 4)] v18 := dkN_eq1 dv18 r85_0 (congrArg Int32.toInt c19) rfl
              refine lv_iload hx hb dX6_asleep_145 (lv_at hl 7 rfl) ?_
              refine lv_goto (tgt := 151) hx hb dX6_asleep_147 (by decide) ?_
              exact C151 I18 _ _ ls x85_7 x85_8 x85_7 hW hS hF hO (dkN_sub k85_1 rfl) (dkN_sub r85_0 rfl) (dkN_sub r85_1 rfl) (dkN_sub r85_2 rfl) (dkN_sub r85_3 rfl) (dkN_sub r85_4 rfl) (show dkN [(0, 0)] (I18 340 20) from dkN_sub (by rw [hF18 340 20 rfl]; exact (by rw [eI17, dkU_sn (by decide)]; exact f16_340_20)) rfl) (show dkN [(0, 0)] (I18 340 22) from dkN_sub (by rw [hF18 340 22 rfl]; exact (by rw [eI17, dkU_sn (by decide)]; exact f16_340_22)) rfl) (show dkN [(0, 2147483647)] (I18 348 3) from dkN_sub f18_348_3 rfl) (lv_sub hl [0, 1, 2, 3, 4, 5, 6, 7, 8] rfl)
          ·
            have d21 : dkN [(1, 6)] v14 := dkN_le2 1 k85_1 dv14 (dkc_nle c15) rfl
            have f22 : dkN [(1, 6)] (I85_ 346 5) := by rw [← ev14]; exact d21
            have d23 : dkN [(0, 5)] x85_8 := dkN_le1 1 k85_1 dv14 (dkc_nle c15) rfl
            refine lv_iload hx hb dX6_asleep_96 (lv_at hl 7 rfl) ?_
            refine lv_iload hx hb dX6_asleep_98 (lv_at hl 6 rfl) ?_
            refine lv_iload hx hb dX6_asleep_100 (lv_at hl 8 rfl) ?_
            refine dk_Si (As := [.int x66_6, .int x85_8]) (rest := [.int x85_7]) ⟨hx, hb, hml, hown, hts⟩ (c_X6_has_0 l g z I85_ x66_6 x85_8 hO) (va_cwS 2 hts gX6_asleep_X6_has rfl rfl rfl (by decide +kernel) ⟨Nat.le_of_ble_eq_true rfl, Nat.le_of_ble_eq_true rfl⟩) hK hT hW hS rfl hl.1 rfl (Nat.le_of_ble_eq_true rfl) dX6_asleep_102 ⟨Nat.zero_le _, Nat.zero_le _⟩ (fun v24 I24 H24 L24 hp24 hW hS => ?_)
            obtain ⟨hF24, hO, hc24⟩ := hp24
            have hF := dkF_call hF hF24 rfl
            obtain ⟨dv24, -⟩ := hc24
            refine lv_if_eq (tgt := 112) hx hb dX6_asleep_105 (by decide) (fun c25 => ?_) (fun c25 => ?_)
            ·
              have d26 : dkN [(0, 0)] v24 := dkN_eq1 dv24 (dkN_lit (x := 0) (0) rfl) (congrArg Int32.toInt c25) rfl
              refine lv_bipush (v := 10) hx hb dX6_asleep_112 (by decide) ?_
              refine lv_iload_n hx hb dX6_asleep_114 rfl (lv_at hl 2 rfl) ?_
              refine lv_isub hx hb dX6_asleep_115 ?_
              refine lv_topi (fun v27 ev27 => ?_)
              have dv27 : dkN [(0, 10)] v27 := by rw [ev27]; exact dkN_subt (dkN_lit (x := 10) (10) rfl) r85_1 rfl
              exact C116 I24 _ _ ls v27 hW hS hF hO (dkN_sub dv27 rfl) (dkN_sub r85_0 rfl) (dkN_sub r85_1 rfl) (dkN_sub r85_2 rfl) (dkN_sub r85_3 rfl) (dkN_sub r85_4 rfl) (dkN_sub d23 rfl) (show dkN [(1, 6)] (I24 346 5) from dkN_sub (by rw [hF24 346 5 rfl]; exact f22) rfl) (lv_sub hl [0, 1, 2, 3, 4, 5, 6, 7, 8] rfl)
            ·
              have d28 : dkN [(1, 1)] v24 := dkN_ne1 (0) dv24 (dkN_lit (x := 0) (0) rfl) (dk_ne c25) rfl
              refine lv_iload_n hx hb dX6_asleep_108 rfl (lv_at hl 2 rfl) ?_
              refine lv_goto (tgt := 116) hx hb dX6_asleep_109 (by decide) ?_
              exact C116 I24 _ _ ls p1 hW hS hF hO (dkN_sub r85_1 rfl) (dkN_sub r85_0 rfl) (dkN_sub r85_1 rfl) (dkN_sub r85_2 rfl) (dkN_sub r85_3 rfl) (dkN_sub r85_4 rfl) (dkN_sub d23 rfl) (show dkN [(1, 6)] (I24 346 5) from dkN_sub (by rw [hF24 346 5 rfl]; exact f22) rfl) (lv_sub hl [0, 1, 2, 3, 4, 5, 6, 7, 8] rfl)
      refine lv_iload hx hb dX6_asleep_66 (lv_at hl 6 rfl) ?_
      refine lv_iconst (v := 1) hx hb dX6_asleep_68 (by decide) ?_
      refine lv_aload_n hx hb dX6_asleep_69 rfl (lv_at hl 0 rfl) ?_
      refine dk_get (k := 340) hx hb hts iX6_asleep_6 hown hK (dk_at340 hW) rfl 13 (by decide) (hts (.fieldLink RX6 25 "DogKingsModel" "now" "[I") (List.mem_of_getElem? (i := 2) rfl)) rfl dX6_asleep_70 ?_
      refine lv_iconst (v := 5) hx hb dX6_asleep_73 (by decide) ?_
      refine dk_ild (k := 346) hx hb hK (dk_at346 hW) (dkN_in (n := 54) (dkN_lit (x := 5) (5) rfl) rfl) dX6_asleep_74 ?_
      refine lv_topi (fun v29 ev29 => ?_)
      have ev29 : v29 = I66_ 346 5 := ev29
      have dv29 : dkN [(0, 6)] v29 := by rw [ev29]; exact (show dkN [(0, 6)] (I66_ 346 5) from (hO 346 5))
      refine lv_ishl hx hb dX6_asleep_75 ?_
      refine lv_topi (fun v30 ev30 => ?_)
      have dv30 : dkN [(1, 64)] v30 := by rw [ev30]; exact dkN_shl1 0 6 (by decide) dv29 rfl
      refine lv_icmp_ge (tgt := 160) hx hb dX6_asleep_76 (by decide) (fun c31 => ?_) (fun c31 => ?_)
      ·
        have d32 : dkN [(1, 2147483647)] x66_6 := dkN_le2 0 dv30 k66_2 (dkc_le c31) rfl
        refine lv_iload hx hb dX6_asleep_160 (lv_at hl 4 rfl) ?_
        refine lv_istore (lv' := [(6, .int x66_4), (0, .ref (z + 340)), (1, .int p0), (2, .int p1), (3, .int p2), (4, .int x66_4), (5, .int x66_5)]) hx hb dX6_asleep_162 hl (by decide) rfl (fun ls hl => ?_)
        refine lv_iload hx hb dX6_asleep_164 (lv_at hl 6 rfl) ?_
        refine lv_istore (lv' := [(7, .int x66_5), (6, .int x66_4), (0, .ref (z + 340)), (1, .int p0), (2, .int p1), (3, .int p2), (4, .int x66_4), (5, .int x66_5)]) hx hb dX6_asleep_166 hl (by decide) rfl (fun ls hl => ?_)
        refine lv_iload hx hb dX6_asleep_168 (lv_at hl 0 rfl) ?_
        refine lv_if_eq (tgt := 191) hx hb dX6_asleep_170 (by decide) (fun c33 => ?_) (fun c33 => ?_)
        ·
          exact (dkN_nil (show dkN [] x66_5 from dkN_eq1 k66_1 (dkN_lit (x := 0) (0) rfl) (congrArg Int32.toInt c33) rfl)).elim
        ·
          refine lv_iload hx hb dX6_asleep_173 (lv_at hl 1 rfl) ?_
          refine lv_iload hx hb dX6_asleep_175 (lv_at hl 0 rfl) ?_
          refine lv_irem hx hb dX6_asleep_177 (dkN_ne0 k66_1 rfl) ?_
          refine lv_topi (fun v34 ev34 => ?_)
          refine lv_istore (lv' := [(8, .int v34), (7, .int x66_5), (6, .int x66_4), (0, .ref (z + 340)), (1, .int p0), (2, .int p1), (3, .int p2), (4, .int x66_4), (5, .int x66_5)]) hx hb dX6_asleep_178 hl (by decide) rfl (fun ls hl => ?_)
          refine lv_iload hx hb dX6_asleep_180 (lv_at hl 1 rfl) ?_
          refine lv_istore (lv' := [(6, .int x66_5), (8, .int v34), (7, .int x66_5), (0, .ref (z + 340)), (1, .int p0), (2, .int p1), (3, .int p2), (4, .int x66_4), (5, .int x66_5)]) hx hb dX6_asleep_182 hl (by decide) rfl (fun ls hl => ?_)
          refine lv_iload hx hb dX6_asleep_184 (lv_at hl 1 rfl) ?_
          refine lv_istore (lv' := [(7, .int v34), (6, .int x66_5), (8, .int v34), (0, .ref (z + 340)), (1, .int p0), (2, .int p1), (3, .int p2), (4, .int x66_4), (5, .int x66_5)]) hx hb dX6_asleep_186 hl (by decide) rfl (fun ls hl => ?_)
          refine lv_goto (tgt := 168) hx hb dX6_asleep_188 (by decide) ?_
          exact C168 _ I66_ _ _ ls x66_4 x66_5 x66_5 v34 v34 (Nat.lt_succ_self _) hW hS hF hO (dkN_sub k66_1 rfl) (dkN_sub k66_1 rfl) (dkN_sub r66_0 rfl) (dkN_sub r66_1 rfl) (dkN_sub r66_2 rfl) (lv_sub hl [3, 4, 5, 6, 7, 8, 1, 0, 2] rfl)
      ·
        have d35 : dkN [(0, 63)] x66_6 := dkN_le1 1 k66_2 dv30 (dkc_nle c31) rfl
        refine lv_iconst (v := 1) hx hb dX6_asleep_79 (by decide) ?_
        refine lv_istore (lv' := [(7, .int 1), (0, .ref (z + 340)), (1, .int p0), (2, .int p1), (3, .int p2), (4, .int x66_4), (5, .int x66_5), (6, .int x66_6)]) hx hb dX6_asleep_80 hl (by decide) rfl (fun ls hl => ?_)
        refine lv_iconst (v := 0) hx hb dX6_asleep_82 (by decide) ?_
        refine lv_istore (lv' := [(8, .int 0), (7, .int 1), (0, .ref (z + 340)), (1, .int p0), (2, .int p1), (3, .int p2), (4, .int x66_4), (5, .int x66_5), (6, .int x66_6)]) hx hb dX6_asleep_83 hl (by decide) rfl (fun ls hl => ?_)
        exact C85 _ I66_ _ _ ls 1 0 (Nat.lt_succ_self _) hW hS hF hO (dkN_sub (dkN_lit (x := 0) (0) rfl) rfl) (dkN_sub r66_0 rfl) (dkN_sub r66_1 rfl) (dkN_sub r66_2 rfl) (dkN_sub k66_1 rfl) (dkN_sub d35 rfl) (lv_sub hl [2, 3, 4, 5, 6, 7, 8, 1, 0] rfl)
  refine lv_aload_n hx hb dX6_asleep_0 rfl (lv_at hl 0 rfl) ?_
  refine lv_iload_n hx hb dX6_asleep_1 rfl (lv_at hl 1 rfl) ?_
  refine dk_Vi (As := [.int p0]) (rest := []) ⟨hx, hb, hml, hown, hts⟩ (c_X6_isPerson_0 l g z I0 p0 hO) (cwV 1 hts gX6_asleep_X6_isPerson rfl rfl rfl (by decide +kernel) ⟨Nat.le_of_ble_eq_true rfl, Nat.le_of_ble_eq_true rfl⟩) (dk_at340 hW) rfl hK hT hW hS rfl hl.1 rfl (Nat.le_of_ble_eq_true rfl) dX6_asleep_2 ⟨Nat.zero_le _, Nat.zero_le _⟩ (fun v36 I36 H36 L36 hp36 hW hS => ?_)
  obtain ⟨hF36, hO, hc36⟩ := hp36
  have hF := dkF_call hF hF36 rfl
  rcases hc36 with ⟨dv36, -⟩ | hc36
  ·
    refine lv_if_eq (tgt := 27) hx hb dX6_asleep_5 (by decide) (fun c37 => ?_) (fun c37 => ?_)
    ·
      refine lv_ldc (v := (-1000001)) hx hb hown (hts (.constant RX6 64 (-1000001)) (List.mem_of_getElem? (i := 1) rfl)) dX6_asleep_27 ?_
      exact W.iret (v := (-1000001)) hx hb hr (fun t ht hW9 => ⟨⟨(-1000001), I36, rfl, ⟨hF, hO, ⟨trivial, trivial⟩⟩, dkW_eq ht hW⟩, hS.F ht⟩) hS.2.2 dX6_asleep_29
    ·
      exact (dkN_nil (show dkN [] v36 from dkN_ne1 (0) dv36 (dkN_lit (x := 0) (0) rfl) (dk_ne c37) rfl)).elim
  ·
    obtain ⟨dv36, a36_0, -⟩ := hc36
    have d38 : dkN [(0, 4)] p0 := dkN_eq1 (dkN_top p0) a36_0 rfl rfl
    refine lv_if_eq (tgt := 27) hx hb dX6_asleep_5 (by decide) (fun c39 => ?_) (fun c39 => ?_)
    ·
      exact (dkN_nil (show dkN [] v36 from dkN_eq1 dv36 (dkN_lit (x := 0) (0) rfl) (congrArg Int32.toInt c39) rfl)).elim
    ·
      refine lv_iload_n hx hb dX6_asleep_8 rfl (lv_at hl 2 rfl) ?_
      refine lv_iconst (v := 0) hx hb dX6_asleep_9 (by decide) ?_
      refine lv_bipush (v := 10) hx hb dX6_asleep_10 (by decide) ?_
      refine dk_Si (As := [.int p1, .int 0, .int 10]) (rest := []) ⟨hx, hb, hml, hown, hts⟩ (c_X6_in_18 l g z I36 p1 0 10 (dkN_lit (x := 0) (0) rfl) (dkN_lit (x := 10) (10) rfl) hO) (va_cwS 3 hts gX6_asleep_X6_in rfl rfl rfl (by decide +kernel) ⟨Nat.le_of_ble_eq_true rfl, Nat.le_of_ble_eq_true rfl⟩) hK hT hW hS rfl hl.1 rfl (Nat.le_of_ble_eq_true rfl) dX6_asleep_12 ⟨Nat.zero_le _, Nat.zero_le _⟩ (fun v40 I40 H40 L40 hp40 hW hS => ?_)
      obtain ⟨hF40, hO, hc40⟩ := hp40
      have hF := dkF_call hF hF40 rfl
      rcases hc40 with ⟨dv40, a40_0, -⟩ | hc40
      ·
        have d41 : dkN [(-2147483648, -1), (11, 2147483647)] p1 := dkN_eq1 (dkN_top p1) a40_0 rfl rfl
        refine lv_if_eq (tgt := 27) hx hb dX6_asleep_15 (by decide) (fun c42 => ?_) (fun c42 => ?_)
        ·
          refine lv_ldc (v := (-1000001)) hx hb hown (hts (.constant RX6 64 (-1000001)) (List.mem_of_getElem? (i := 1) rfl)) dX6_asleep_27 ?_
          exact W.iret (v := (-1000001)) hx hb hr (fun t ht hW9 => ⟨⟨(-1000001), I40, rfl, ⟨hF, hO, ⟨trivial, trivial⟩⟩, dkW_eq ht hW⟩, hS.F ht⟩) hS.2.2 dX6_asleep_29
        ·
          exact (dkN_nil (show dkN [] v40 from dkN_ne1 (0) dv40 (dkN_lit (x := 0) (0) rfl) (dk_ne c42) rfl)).elim
      ·
        obtain ⟨dv40, a40_0, -⟩ := hc40
        have d43 : dkN [(0, 10)] p1 := dkN_eq1 (dkN_top p1) a40_0 rfl rfl
        refine lv_if_eq (tgt := 27) hx hb dX6_asleep_15 (by decide) (fun c44 => ?_) (fun c44 => ?_)
        ·
          exact (dkN_nil (show dkN [] v40 from dkN_eq1 dv40 (dkN_lit (x := 0) (0) rfl) (congrArg Int32.toInt c44) rfl)).elim
        ·
          refine lv_iload_n hx hb dX6_asleep_18 rfl (lv_at hl 3 rfl) ?_
          refine lv_iconst (v := 0) hx hb dX6_asleep_19 (by decide) ?_
          refine lv_iconst (v := 1) hx hb dX6_asleep_20 (by decide) ?_
          refine dk_Si (As := [.int p2, .int 0, .int 1]) (rest := []) ⟨hx, hb, hml, hown, hts⟩ (c_X6_in_16 l g z I40 p2 0 1 (dkN_lit (x := 0) (0) rfl) (dkN_lit (x := 1) (1) rfl) hO) (va_cwS 3 hts gX6_asleep_X6_in rfl rfl rfl (by decide +kernel) ⟨Nat.le_of_ble_eq_true rfl, Nat.le_of_ble_eq_true rfl⟩) hK hT hW hS rfl hl.1 rfl (Nat.le_of_ble_eq_true rfl) dX6_asleep_21 ⟨Nat.zero_le _, Nat.zero_le _⟩ (fun v45 I45 H45 L45 hp45 hW hS => ?_)
          obtain ⟨hF45, hO, hc45⟩ := hp45
          have hF := dkF_call hF hF45 rfl
          rcases hc45 with ⟨dv45, a45_0, -⟩ | hc45
          ·
            have d46 : dkN [(-2147483648, -1), (2, 2147483647)] p2 := dkN_eq1 (dkN_top p2) a45_0 rfl rfl
            refine lv_if_ne (tgt := 30) hx hb dX6_asleep_24 (by decide) (fun c47 => ?_) (fun c47 => ?_)
            ·
              exact (dkN_nil (show dkN [] v45 from dkN_ne1 (0) dv45 (dkN_lit (x := 0) (0) rfl) (dk_ne c47) rfl)).elim
            ·
              refine lv_ldc (v := (-1000001)) hx hb hown (hts (.constant RX6 64 (-1000001)) (List.mem_of_getElem? (i := 1) rfl)) dX6_asleep_27 ?_
              exact W.iret (v := (-1000001)) hx hb hr (fun t ht hW9 => ⟨⟨(-1000001), I45, rfl, ⟨hF, hO, ⟨trivial, trivial⟩⟩, dkW_eq ht hW⟩, hS.F ht⟩) hS.2.2 dX6_asleep_29
          ·
            obtain ⟨dv45, a45_0, -⟩ := hc45
            have d48 : dkN [(0, 1)] p2 := dkN_eq1 (dkN_top p2) a45_0 rfl rfl
            refine lv_if_ne (tgt := 30) hx hb dX6_asleep_24 (by decide) (fun c49 => ?_) (fun c49 => ?_)
            ·
              refine lv_iconst (v := 0) hx hb dX6_asleep_30 (by decide) ?_
              refine lv_istore (lv' := [(4, .int 0), (0, .ref (z + 340)), (1, .int p0), (2, .int p1), (3, .int p2)]) hx hb dX6_asleep_31 hl (by decide) rfl (fun ls hl => ?_)
              refine lv_iconst (v := 1) hx hb dX6_asleep_33 (by decide) ?_
              refine lv_istore (lv' := [(5, .int 1), (4, .int 0), (0, .ref (z + 340)), (1, .int p0), (2, .int p1), (3, .int p2)]) hx hb dX6_asleep_34 hl (by decide) rfl (fun ls hl => ?_)
              refine lv_iconst (v := 0) hx hb dX6_asleep_36 (by decide) ?_
              refine lv_istore (lv' := [(6, .int 0), (5, .int 1), (4, .int 0), (0, .ref (z + 340)), (1, .int p0), (2, .int p1), (3, .int p2)]) hx hb dX6_asleep_37 hl (by decide) rfl (fun ls hl => ?_)
              refine lv_iload hx hb dX6_asleep_39 (lv_at hl 0 rfl) ?_
              refine lv_aload_n hx hb dX6_asleep_41 rfl (lv_at hl 3 rfl) ?_
              refine dk_get (k := 340) hx hb hts iX6_asleep_6 hown hK (dk_at340 hW) rfl 13 (by decide) (hts (.fieldLink RX6 25 "DogKingsModel" "now" "[I") (List.mem_of_getElem? (i := 2) rfl)) rfl dX6_asleep_42 ?_
              refine lv_iconst (v := 5) hx hb dX6_asleep_45 (by decide) ?_
              refine dk_ild (k := 346) hx hb hK (dk_at346 hW) (dkN_in (n := 54) (dkN_lit (x := 5) (5) rfl) rfl) dX6_asleep_46 ?_
              refine lv_topi (fun v50 ev50 => ?_)
              have ev50 : v50 = I45 346 5 := ev50
              have dv50 : dkN [(0, 6)] v50 := by rw [ev50]; exact (show dkN [(0, 6)] (I45 346 5) from (hO 346 5))
              refine lv_icmp_ge (tgt := 63) hx hb dX6_asleep_47 (by decide) (fun c51 => ?_) (fun c51 => ?_)
              ·
                have d52 : dkN [(0, 0)] v50 := dkN_le1 0 dv50 (dkN_lit (x := 0) (0) rfl) (dkc_le c51) rfl
                have f53 : dkN [(0, 0)] (I45 346 5) := by rw [← ev50]; exact d52
                refine lv_iconst (v := 0) hx hb dX6_asleep_63 (by decide) ?_
                refine lv_istore (lv' := [(6, .int 0), (5, .int 1), (4, .int 0), (0, .ref (z + 340)), (1, .int p0), (2, .int p1), (3, .int p2)]) hx hb dX6_asleep_64 hl (by decide) rfl (fun ls hl => ?_)
                exact C66 _ I45 _ _ ls 0 1 0 (Nat.lt_succ_self _) hW hS hF hO (dkN_sub (dkN_lit (x := 1) (1) rfl) rfl) (dkN_sub (dkN_lit (x := 0) (0) rfl) rfl) (dkN_sub d38 rfl) (dkN_sub d43 rfl) (dkN_sub d48 rfl) (lv_sub hl [3, 4, 5, 6, 2, 1, 0] rfl)
              ·
                have d54 : dkN [(1, 6)] v50 := dkN_le2 1 (dkN_lit (x := 0) (0) rfl) dv50 (dkc_nle c51) rfl
                have f55 : dkN [(1, 6)] (I45 346 5) := by rw [← ev50]; exact d54
                refine lv_iload hx hb dX6_asleep_50 (lv_at hl 1 rfl) ?_
                refine lv_bipush (v := 10) hx hb dX6_asleep_52 (by decide) ?_
                refine lv_imul hx hb dX6_asleep_54 ?_
                refine lv_topi (fun v56 ev56 => ?_)
                have dv56 : dkN [(10, 10)] v56 := by rw [ev56]; exact dkN_mulR 10 (by decide) (dkN_lit (x := 1) (1) rfl) (dkN_lit (x := 10) (10) rfl) rfl
                refine lv_istore (lv' := [(5, .int v56), (6, .int 0), (4, .int 0), (0, .ref (z + 340)), (1, .int p0), (2, .int p1), (3, .int p2)]) hx hb dX6_asleep_55 hl (by decide) rfl (fun ls hl => ?_)
                obtain ⟨v57, ev57⟩ : ∃ y : Int32, y = 0 + 1 := ⟨_, rfl⟩
                have dv57 : dkN [(1, 1)] v57 := by rw [ev57]; exact dkN_add (dkN_lit (x := 0) (0) rfl) (dkN_lit (x := 1) (1) rfl) rfl
                refine lv_iinc (v := v57) (lv' := [(6, .int v57), (5, .int v56), (4, .int 0), (0, .ref (z + 340)), (1, .int p0), (2, .int p1), (3, .int p2)]) hx hb dX6_asleep_57 hl (k := 1) rfl (by rw [ev57]; rfl) (by decide) rfl (fun ls hl => ?_)
                refine lv_goto (tgt := 39) hx hb dX6_asleep_60 (by decide) ?_
                refine lv_iload hx hb dX6_asleep_39 (lv_at hl 0 rfl) ?_
                refine lv_aload_n hx hb dX6_asleep_41 rfl (lv_at hl 3 rfl) ?_
                refine dk_get (k := 340) hx hb hts iX6_asleep_6 hown hK (dk_at340 hW) rfl 13 (by decide) (hts (.fieldLink RX6 25 "DogKingsModel" "now" "[I") (List.mem_of_getElem? (i := 2) rfl)) rfl dX6_asleep_42 ?_
                refine lv_iconst (v := 5) hx hb dX6_asleep_45 (by decide) ?_
                refine dk_ild (k := 346) hx hb hK (dk_at346 hW) (dkN_in (n := 54) (dkN_lit (x := 5) (5) rfl) rfl) dX6_asleep_46 ?_
                refine lv_topi (fun v58 ev58 => ?_)
                have ev58 : v58 = I45 346 5 := ev58
                have dv58 : dkN [(1, 6)] v58 := by rw [ev58]; exact (show dkN [(1, 6)] (I45 346 5) from f55)
                refine lv_icmp_ge (tgt := 63) hx hb dX6_asleep_47 (by decide) (fun c59 => ?_) (fun c59 => ?_)
                ·
                  have d60 : dkN [(1, 1)] v58 := dkN_le1 0 dv58 dv57 (dkc_le c59) rfl
                  have f61 : dkN [(1, 1)] (I45 346 5) := by rw [← ev58]; exact d60
                  refine lv_iconst (v := 0) hx hb dX6_asleep_63 (by decide) ?_
                  refine lv_istore (lv' := [(6, .int 0), (5, .int v56), (4, .int 0), (0, .ref (z + 340)), (1, .int p0), (2, .int p1), (3, .int p2)]) hx hb dX6_asleep_64 hl (by decide) rfl (fun ls hl => ?_)
                  exact C66 _ I45 _ _ ls 0 v56 0 (Nat.lt_succ_self _) hW hS hF hO (dkN_sub dv56 rfl) (dkN_sub (dkN_lit (x := 0) (0) rfl) rfl) (dkN_sub d38 rfl) (dkN_sub d43 rfl) (dkN_sub d48 rfl) (lv_sub hl [3, 4, 5, 6, 2, 1, 0] rfl)
                ·
                  have d62 : dkN [(2, 6)] v58 := dkN_le2 1 dv57 dv58 (dkc_nle c59) rfl
                  have f63 : dkN [(2, 6)] (I45 346 5) := by rw [← ev58]; exact d62
                  refine lv_iload hx hb dX6_asleep_50 (lv_at hl 1 rfl) ?_
                  refine lv_bipush (v := 10) hx hb dX6_asleep_52 (by decide) ?_
                  refine lv_imul hx hb dX6_asleep_54 ?_
                  refine lv_topi (fun v64 ev64 => ?_)
                  have dv64 : dkN [(100, 100)] v64 := by rw [ev64]; exact dkN_mulR 10 (by decide) dv56 (dkN_lit (x := 10) (10) rfl) rfl
                  refine lv_istore (lv' := [(5, .int v64), (6, .int v57), (4, .int 0), (0, .ref (z + 340)), (1, .int p0), (2, .int p1), (3, .int p2)]) hx hb dX6_asleep_55 hl (by decide) rfl (fun ls hl => ?_)
                  obtain ⟨v65, ev65⟩ : ∃ y : Int32, y = v57 + 1 := ⟨_, rfl⟩
                  have dv65 : dkN [(2, 2)] v65 := by rw [ev65]; exact dkN_add dv57 (dkN_lit (x := 1) (1) rfl) rfl
                  refine lv_iinc (v := v65) (lv' := [(6, .int v65), (5, .int v64), (4, .int 0), (0, .ref (z + 340)), (1, .int p0), (2, .int p1), (3, .int p2)]) hx hb dX6_asleep_57 hl (k := 1) rfl (by rw [ev65]; rfl) (by decide) rfl (fun ls hl => ?_)
                  refine lv_goto (tgt := 39) hx hb dX6_asleep_60 (by decide) ?_
                  refine lv_iload hx hb dX6_asleep_39 (lv_at hl 0 rfl) ?_
                  refine lv_aload_n hx hb dX6_asleep_41 rfl (lv_at hl 3 rfl) ?_
                  refine dk_get (k := 340) hx hb hts iX6_asleep_6 hown hK (dk_at340 hW) rfl 13 (by decide) (hts (.fieldLink RX6 25 "DogKingsModel" "now" "[I") (List.mem_of_getElem? (i := 2) rfl)) rfl dX6_asleep_42 ?_
                  refine lv_iconst (v := 5) hx hb dX6_asleep_45 (by decide) ?_
                  refine dk_ild (k := 346) hx hb hK (dk_at346 hW) (dkN_in (n := 54) (dkN_lit (x := 5) (5) rfl) rfl) dX6_asleep_46 ?_
                  refine lv_topi (fun v66 ev66 => ?_)
                  have ev66 : v66 = I45 346 5 := ev66
                  have dv66 : dkN [(2, 6)] v66 := by rw [ev66]; exact (show dkN [(2, 6)] (I45 346 5) from f63)
                  refine lv_icmp_ge (tgt := 63) hx hb dX6_asleep_47 (by decide) (fun c67 => ?_) (fun c67 => ?_)
                  ·
                    have d68 : dkN [(2, 2)] v66 := dkN_le1 0 dv66 dv65 (dkc_le c67) rfl
                    have f69 : dkN [(2, 2)] (I45 346 5) := by rw [← ev66]; exact d68
                    refine lv_iconst (v := 0) hx hb dX6_asleep_63 (by decide) ?_
                    refine lv_istore (lv' := [(6, .int 0), (5, .int v64), (4, .int 0), (0, .ref (z + 340)), (1, .int p0), (2, .int p1), (3, .int p2)]) hx hb dX6_asleep_64 hl (by decide) rfl (fun ls hl => ?_)
                    exact C66 _ I45 _ _ ls 0 v64 0 (Nat.lt_succ_self _) hW hS hF hO (dkN_sub dv64 rfl) (dkN_sub (dkN_lit (x := 0) (0) rfl) rfl) (dkN_sub d38 rfl) (dkN_sub d43 rfl) (dkN_sub d48 rfl) (lv_sub hl [3, 4, 5, 6, 2, 1, 0] rfl)
                  ·
                    have d70 : dkN [(3, 6)] v66 := dkN_le2 1 dv65 dv66 (dkc_nle c67) rfl
                    have f71 : dkN [(3, 6)] (I45 346 5) := by rw [← ev66]; exact d70
                    refine lv_iload hx hb dX6_asleep_50 (lv_at hl 1 rfl) ?_
                    refine lv_bipush (v := 10) hx hb dX6_asleep_52 (by decide) ?_
                    refine lv_imul hx hb dX6_asleep_54 ?_
                    refine lv_topi (fun v72 ev72 => ?_)
                    have dv72 : dkN [(1000, 1000)] v72 := by rw [ev72]; exact dkN_mulR 10 (by decide) dv64 (dkN_lit (x := 10) (10) rfl) rfl
                    refine lv_istore (lv' := [(5, .int v72), (6, .int v65), (4, .int 0), (0, .ref (z + 340)), (1, .int p0), (2, .int p1), (3, .int p2)]) hx hb dX6_asleep_55 hl (by decide) rfl (fun ls hl => ?_)
                    obtain ⟨v73, ev73⟩ : ∃ y : Int32, y = v65 + 1 := ⟨_, rfl⟩
                    have dv73 : dkN [(3, 3)] v73 := by rw [ev73]; exact dkN_add dv65 (dkN_lit (x := 1) (1) rfl) rfl
                    refine lv_iinc (v := v73) (lv' := [(6, .int v73), (5, .int v72), (4, .int 0), (0, .ref (z + 340)), (1, .int p0), (2, .int p1), (3, .int p2)]) hx hb dX6_asleep_57 hl (k := 1) rfl (by rw [ev73]; rfl) (by decide) rfl (fun ls hl => ?_)
                    refine lv_goto (tgt := 39) hx hb dX6_asleep_60 (by decide) ?_
                    refine lv_iload hx hb dX6_asleep_39 (lv_at hl 0 rfl) ?_
                    refine lv_aload_n hx hb dX6_asleep_41 rfl (lv_at hl 3 rfl) ?_
                    refine dk_get (k := 340) hx hb hts iX6_asleep_6 hown hK (dk_at340 hW) rfl 13 (by decide) (hts (.fieldLink RX6 25 "DogKingsModel" "now" "[I") (List.mem_of_getElem? (i := 2) rfl)) rfl dX6_asleep_42 ?_
                    refine lv_iconst (v := 5) hx hb dX6_asleep_45 (by decide) ?_
                    refine dk_ild (k := 346) hx hb hK (dk_at346 hW) (dkN_in (n := 54) (dkN_lit (x := 5) (5) rfl) rfl) dX6_asleep_46 ?_
                    refine lv_topi (fun v74 ev74 => ?_)
                    have ev74 : v74 = I45 346 5 := ev74
                    have dv74 : dkN [(3, 6)] v74 := by rw [ev74]; exact (show dkN [(3, 6)] (I45 346 5) from f71)
                    refine lv_icmp_ge (tgt := 63) hx hb dX6_asleep_47 (by decide) (fun c75 => ?_) (fun c75 => ?_)
                    ·
                      have d76 : dkN [(3, 3)] v74 := dkN_le1 0 dv74 dv73 (dkc_le c75) rfl
                      have f77 : dkN [(3, 3)] (I45 346 5) := by rw [← ev74]; exact d76
                      refine lv_iconst (v := 0) hx hb dX6_asleep_63 (by decide) ?_
                      refine lv_istore (lv' := [(6, .int 0), (5, .int v72), (4, .int 0), (0, .ref (z + 340)), (1, .int p0), (2, .int p1), (3, .int p2)]) hx hb dX6_asleep_64 hl (by decide) rfl (fun ls hl => ?_)
                      exact C66 _ I45 _ _ ls 0 v72 0 (Nat.lt_succ_self _) hW hS hF hO (dkN_sub dv72 rfl) (dkN_sub (dkN_lit (x := 0) (0) rfl) rfl) (dkN_sub d38 rfl) (dkN_sub d43 rfl) (dkN_sub d48 rfl) (lv_sub hl [3, 4, 5, 6, 2, 1, 0] rfl)
                    ·
                      have d78 : dkN [(4, 6)] v74 := dkN_le2 1 dv73 dv74 (dkc_nle c75) rfl
                      have f79 : dkN [(4, 6)] (I45 346 5) := by rw [← ev74]; exact d78
                      refine lv_iload hx hb dX6_asleep_50 (lv_at hl 1 rfl) ?_
                      refine lv_bipush (v := 10) hx hb dX6_asleep_52 (by decide) ?_
                      refine lv_imul hx hb dX6_asleep_54 ?_
                      refine lv_topi (fun v80 ev80 => ?_)
                      have dv80 : dkN [(10000, 10000)] v80 := by rw [ev80]; exact dkN_mulR 10 (by decide) dv72 (dkN_lit (x := 10) (10) rfl) rfl
                      refine lv_istore (lv' := [(5, .int v80), (6, .int v73), (4, .int 0), (0, .ref (z + 340)), (1, .int p0), (2, .int p1), (3, .int p2)]) hx hb dX6_asleep_55 hl (by decide) rfl (fun ls hl => ?_)
                      obtain ⟨v81, ev81⟩ : ∃ y : Int32, y = v73 + 1 := ⟨_, rfl⟩
                      have dv81 : dkN [(4, 4)] v81 := by rw [ev81]; exact dkN_add dv73 (dkN_lit (x := 1) (1) rfl) rfl
                      refine lv_iinc (v := v81) (lv' := [(6, .int v81), (5, .int v80), (4, .int 0), (0, .ref (z + 340)), (1, .int p0), (2, .int p1), (3, .int p2)]) hx hb dX6_asleep_57 hl (k := 1) rfl (by rw [ev81]; rfl) (by decide) rfl (fun ls hl => ?_)
                      refine lv_goto (tgt := 39) hx hb dX6_asleep_60 (by decide) ?_
                      refine lv_iload hx hb dX6_asleep_39 (lv_at hl 0 rfl) ?_
                      refine lv_aload_n hx hb dX6_asleep_41 rfl (lv_at hl 3 rfl) ?_
                      refine dk_get (k := 340) hx hb hts iX6_asleep_6 hown hK (dk_at340 hW) rfl 13 (by decide) (hts (.fieldLink RX6 25 "DogKingsModel" "now" "[I") (List.mem_of_getElem? (i := 2) rfl)) rfl dX6_asleep_42 ?_
                      refine lv_iconst (v := 5) hx hb dX6_asleep_45 (by decide) ?_
                      refine dk_ild (k := 346) hx hb hK (dk_at346 hW) (dkN_in (n := 54) (dkN_lit (x := 5) (5) rfl) rfl) dX6_asleep_46 ?_
                      refine lv_topi (fun v82 ev82 => ?_)
                      have ev82 : v82 = I45 346 5 := ev82
                      have dv82 : dkN [(4, 6)] v82 := by rw [ev82]; exact (show dkN [(4, 6)] (I45 346 5) from f79)
                      refine lv_icmp_ge (tgt := 63) hx hb dX6_asleep_47 (by decide) (fun c83 => ?_) (fun c83 => ?_)
                      ·
                        have d84 : dkN [(4, 4)] v82 := dkN_le1 0 dv82 dv81 (dkc_le c83) rfl
                        have f85 : dkN [(4, 4)] (I45 346 5) := by rw [← ev82]; exact d84
                        refine lv_iconst (v := 0) hx hb dX6_asleep_63 (by decide) ?_
                        refine lv_istore (lv' := [(6, .int 0), (5, .int v80), (4, .int 0), (0, .ref (z + 340)), (1, .int p0), (2, .int p1), (3, .int p2)]) hx hb dX6_asleep_64 hl (by decide) rfl (fun ls hl => ?_)
                        exact C66 _ I45 _ _ ls 0 v80 0 (Nat.lt_succ_self _) hW hS hF hO (dkN_sub dv80 rfl) (dkN_sub (dkN_lit (x := 0) (0) rfl) rfl) (dkN_sub d38 rfl) (dkN_sub d43 rfl) (dkN_sub d48 rfl) (lv_sub hl [3, 4, 5, 6, 2, 1, 0] rfl)
                      ·
                        have d86 : dkN [(5, 6)] v82 := dkN_le2 1 dv81 dv82 (dkc_nle c83) rfl
                        have f87 : dkN [(5, 6)] (I45 346 5) := by rw [← ev82]; exact d86
                        refine lv_iload hx hb dX6_asleep_50 (lv_at hl 1 rfl) ?_
                        refine lv_bipush (v := 10) hx hb dX6_asleep_52 (by decide) ?_
                        refine lv_imul hx hb dX6_asleep_54 ?_
                        refine lv_topi (fun v88 ev88 => ?_)
                        have dv88 : dkN [(100000, 100000)] v88 := by rw [ev88]; exact dkN_mulR 10 (by decide) dv80 (dkN_lit (x := 10) (10) rfl) rfl
                        refine lv_istore (lv' := [(5, .int v88), (6, .int v81), (4, .int 0), (0, .ref (z + 340)), (1, .int p0), (2, .int p1), (3, .int p2)]) hx hb dX6_asleep_55 hl (by decide) rfl (fun ls hl => ?_)
                        obtain ⟨v89, ev89⟩ : ∃ y : Int32, y = v81 + 1 := ⟨_, rfl⟩
                        have dv89 : dkN [(5, 5)] v89 := by rw [ev89]; exact dkN_add dv81 (dkN_lit (x := 1) (1) rfl) rfl
                        refine lv_iinc (v := v89) (lv' := [(6, .int v89), (5, .int v88), (4, .int 0), (0, .ref (z + 340)), (1, .int p0), (2, .int p1), (3, .int p2)]) hx hb dX6_asleep_57 hl (k := 1) rfl (by rw [ev89]; rfl) (by decide) rfl (fun ls hl => ?_)
                        refine lv_goto (tgt := 39) hx hb dX6_asleep_60 (by decide) ?_
                        refine lv_iload hx hb dX6_asleep_39 (lv_at hl 0 rfl) ?_
                        refine lv_aload_n hx hb dX6_asleep_41 rfl (lv_at hl 3 rfl) ?_
                        refine dk_get (k := 340) hx hb hts iX6_asleep_6 hown hK (dk_at340 hW) rfl 13 (by decide) (hts (.fieldLink RX6 25 "DogKingsModel" "now" "[I") (List.mem_of_getElem? (i := 2) rfl)) rfl dX6_asleep_42 ?_
                        refine lv_iconst (v := 5) hx hb dX6_asleep_45 (by decide) ?_
                        refine dk_ild (k := 346) hx hb hK (dk_at346 hW) (dkN_in (n := 54) (dkN_lit (x := 5) (5) rfl) rfl) dX6_asleep_46 ?_
                        refine lv_topi (fun v90 ev90 => ?_)
                        have ev90 : v90 = I45 346 5 := ev90
                        have dv90 : dkN [(5, 6)] v90 := by rw [ev90]; exact (show dkN [(5, 6)] (I45 346 5) from f87)
                        refine lv_icmp_ge (tgt := 63) hx hb dX6_asleep_47 (by decide) (fun c91 => ?_) (fun c91 => ?_)
                        ·
                          have d92 : dkN [(5, 5)] v90 := dkN_le1 0 dv90 dv89 (dkc_le c91) rfl
                          have f93 : dkN [(5, 5)] (I45 346 5) := by rw [← ev90]; exact d92
                          refine lv_iconst (v := 0) hx hb dX6_asleep_63 (by decide) ?_
                          refine lv_istore (lv' := [(6, .int 0), (5, .int v88), (4, .int 0), (0, .ref (z + 340)), (1, .int p0), (2, .int p1), (3, .int p2)]) hx hb dX6_asleep_64 hl (by decide) rfl (fun ls hl => ?_)
                          exact C66 _ I45 _ _ ls 0 v88 0 (Nat.lt_succ_self _) hW hS hF hO (dkN_sub dv88 rfl) (dkN_sub (dkN_lit (x := 0) (0) rfl) rfl) (dkN_sub d38 rfl) (dkN_sub d43 rfl) (dkN_sub d48 rfl) (lv_sub hl [3, 4, 5, 6, 2, 1, 0] rfl)
                        ·
                          have d94 : dkN [(6, 6)] v90 := dkN_le2 1 dv89 dv90 (dkc_nle c91) rfl
                          have f95 : dkN [(6, 6)] (I45 346 5) := by rw [← ev90]; exact d94
                          refine lv_iload hx hb dX6_asleep_50 (lv_at hl 1 rfl) ?_
                          refine lv_bipush (v := 10) hx hb dX6_asleep_52 (by decide) ?_
                          refine lv_imul hx hb dX6_asleep_54 ?_
                          refine lv_topi (fun v96 ev96 => ?_)
                          have dv96 : dkN [(1000000, 1000000)] v96 := by rw [ev96]; exact dkN_mulR 10 (by decide) dv88 (dkN_lit (x := 10) (10) rfl) rfl
                          refine lv_istore (lv' := [(5, .int v96), (6, .int v89), (4, .int 0), (0, .ref (z + 340)), (1, .int p0), (2, .int p1), (3, .int p2)]) hx hb dX6_asleep_55 hl (by decide) rfl (fun ls hl => ?_)
                          obtain ⟨v97, ev97⟩ : ∃ y : Int32, y = v89 + 1 := ⟨_, rfl⟩
                          have dv97 : dkN [(6, 6)] v97 := by rw [ev97]; exact dkN_add dv89 (dkN_lit (x := 1) (1) rfl) rfl
                          refine lv_iinc (v := v97) (lv' := [(6, .int v97), (5, .int v96), (4, .int 0), (0, .ref (z + 340)), (1, .int p0), (2, .int p1), (3, .int p2)]) hx hb dX6_asleep_57 hl (k := 1) rfl (by rw [ev97]; rfl) (by decide) rfl (fun ls hl => ?_)
                          refine lv_goto (tgt := 39) hx hb dX6_asleep_60 (by decide) ?_
                          refine lv_iload hx hb dX6_asleep_39 (lv_at hl 0 rfl) ?_
                          refine lv_aload_n hx hb dX6_asleep_41 rfl (lv_at hl 3 rfl) ?_
                          refine dk_get (k := 340) hx hb hts iX6_asleep_6 hown hK (dk_at340 hW) rfl 13 (by decide) (hts (.fieldLink RX6 25 "DogKingsModel" "now" "[I") (List.mem_of_getElem? (i := 2) rfl)) rfl dX6_asleep_42 ?_
                          refine lv_iconst (v := 5) hx hb dX6_asleep_45 (by decide) ?_
                          refine dk_ild (k := 346) hx hb hK (dk_at346 hW) (dkN_in (n := 54) (dkN_lit (x := 5) (5) rfl) rfl) dX6_asleep_46 ?_
                          refine lv_topi (fun v98 ev98 => ?_)
                          have ev98 : v98 = I45 346 5 := ev98
                          have dv98 : dkN [(6, 6)] v98 := by rw [ev98]; exact (show dkN [(6, 6)] (I45 346 5) from f95)
                          refine lv_icmp_ge (tgt := 63) hx hb dX6_asleep_47 (by decide) (fun c99 => ?_) (fun c99 => ?_)
                          ·
                            refine lv_iconst (v := 0) hx hb dX6_asleep_63 (by decide) ?_
                            refine lv_istore (lv' := [(6, .int 0), (5, .int v96), (4, .int 0), (0, .ref (z + 340)), (1, .int p0), (2, .int p1), (3, .int p2)]) hx hb dX6_asleep_64 hl (by decide) rfl (fun ls hl => ?_)
                            exact C66 _ I45 _ _ ls 0 v96 0 (Nat.lt_succ_self _) hW hS hF hO (dkN_sub dv96 rfl) (dkN_sub (dkN_lit (x := 0) (0) rfl) rfl) (dkN_sub d38 rfl) (dkN_sub d43 rfl) (dkN_sub d48 rfl) (lv_sub hl [3, 4, 5, 6, 2, 1, 0] rfl)
                          ·
                            exact (dkN_nil (show dkN [] v98 from dkN_le2 1 dv97 dv98 (dkc_nle c99) rfl)).elim
            ·
              exact (dkN_nil (show dkN [] v45 from dkN_eq1 dv45 (dkN_lit (x := 0) (0) rfl) (congrArg Int32.toInt c49) rfl)).elim
set_option maxHeartbeats 4000000 in
set_option maxRecDepth 100000 in
theorem c_X3_drawFriday_1 (l : Launch) (g : dkG) (z : Nat) (I0 : dkI) (p0 : Int64) (dp0 : dkL [(0, 2147483646)] p0)  (hO : dkOk I0) : Met l yX3_drawFriday wsX3_drawFriday (dkR 4) (dkPc g z [.ref (z + 325), .long p0] I0) (dkQl g z (fun r I1 => dkF [(326, 326, 3, 3), (329, 329, 0, 4), (330, 330, 0, 4), (331, 331, 0, 4), (335, 335, 0, 5), (336, 336, 0, 8)] I0 I1 ∧ dkOk I1 ∧ ((dkL [(0, 2147483646)] r ∧ True)))) 0 0 (dkA z) := by
  refine Met.ofW (cc := cX3_drawFriday) (maxL := 4) (ret := (some .long)) (by decide) rfl ?_
  intro p e s m args below meth c s₁ B hml hv
  obtain ⟨ha, hW, hK, hT⟩ := hv
  have hx := B.exec
  have hb := B.bytes
  have hr := B.returns
  have hts := atoms_spec (ws := wsX3_drawFriday) B.pre
  have hown : s.vm.findClass RX3 = some m.cls := findClass_of_methodNamed B.named
  have hlocks := B.notSynchronized
  have hS : va_S (dkA z) s.heap s.heap [] := va_S.rf
  have hF : dkF [(326, 326, 3, 3), (329, 329, 0, 4), (330, 330, 0, 4), (331, 331, 0, 4), (335, 335, 0, 5), (336, 336, 0, 8)] I0 I0 := dkF_rf _ _
  have hl := lv_entry ([.ref (z + 325), .long p0]) (n := 4) (Nat.le_of_ble_eq_true rfl)
  have hgo : entryFrame m args 4 = entryFrame m ([.ref (z + 325), .long p0] : List Value).toArray 4 := by rw [ha]
  rw [hgo, lg_entry_eq]
  generalize (lg_sl ([.ref (z + 325), .long p0]) ++ List.replicate (4 - (lg_sl ([.ref (z + 325), .long p0])).length) Slot.unset).toArray = ls at hl ⊢
  have hl : lv_has ls 4 [(0, .ref (z + 325)), (1, .long p0)] := hl
  have C16 : ∀ (n : Nat), ∀ (I : dkI) (H : Heap) (locs : List Loc) (ls : Array Slot) (x16_1 : Int64) (x16_3 : Int32), (x16_3.toInt - (-2147483648)).toNat < n → dkW g z I H → va_S (dkA z) s.heap H locs → dkF [(326, 326, 3, 3), (329, 329, 0, 4), (330, 330, 0, 4), (331, 331, 0, 4), (335, 335, 0, 5), (336, 336, 0, 8)] I0 I → dkOk I → dkL [(0, 2147483646)] x16_1 → lv_has ls 4 [(0, .ref (z + 325)), (1, .long x16_1), (3, .int x16_3)] → W p l e (headSpec wsX3_drawFriday (dkR 4)).room s m args below meth c H locs 0 0 (MQ below (dkQl g z (fun r I1 => dkF [(326, 326, 3, 3), (329, 329, 0, 4), (330, 330, 0, 4), (331, 331, 0, 4), (335, 335, 0, 5), (336, 336, 0, 8)] I0 I1 ∧ dkOk I1 ∧ ((dkL [(0, 2147483646)] r ∧ True)))) args s 0 0 (dkA z)) (F0 m 16 ls []) := by
    intro n
    induction n with
    | zero => intro I H locs ls x16_1 x16_3 hn; exact absurd hn (Nat.not_lt_zero _)
    | succ n ih16 =>
      intro I16_ H locs ls x16_1 x16_3 hn16 hW hS hF_16 hO k16_0 hl
      have hF := hF_16
      refine lv_iload_n hx hb dX3_drawFriday_16 rfl (lv_at hl 2 rfl) ?_
      refine lv_if_le (tgt := 78) hx hb dX3_drawFriday_17 (by decide) (fun c1 => ?_) (fun c1 => ?_)
      ·
        have d2 : dkN [(-2147483648, 0)] x16_3 := dkN_le1 0 (dkN_top x16_3) (dkN_lit (x := 0) (0) rfl) (dkc_le c1) rfl
        refine lv_lload_n hx hb dX3_drawFriday_78 rfl (lv_at hl 1 rfl) ?_
        exact W.lret (v := x16_1) hx hb hr (fun t ht hW9 => ⟨⟨x16_1, I16_, rfl, ⟨hF, hO, dkL_sub k16_0 rfl, trivial⟩, dkW_eq ht hW⟩, hS.F ht⟩) hS.2.2 dX3_drawFriday_79
      ·
        have d3 : dkN [(1, 2147483647)] x16_3 := dkN_le2 1 (dkN_lit (x := 0) (0) rfl) (dkN_top x16_3) (dkc_nle c1) rfl
        refine lv_aload_n hx hb dX3_drawFriday_20 rfl (lv_at hl 0 rfl) ?_
        refine dk_get (k := 325) hx hb hts iX3_drawFriday_3 hown hK (dk_at325 hW) rfl 1 (by decide) (hts (.fieldLink RX3 12 "DogKings$Seer" "then" "LDogKings$Town;") (List.mem_of_getElem? (i := 1) rfl)) rfl dX3_drawFriday_21 ?_
        refine dk_get (k := 326) hx hb hts iX3_drawFriday_4 hown hK (dk_at326 hW) rfl 4 (by decide) (hts (.fieldLink RX3 148 "DogKings$Town" "people" "I") (List.mem_of_getElem? (i := 4) rfl)) rfl dX3_drawFriday_24 ?_
        refine lv_topi (fun v4 ev4 => ?_)
        have dv4 : dkN [(0, 5)] v4 := by rw [ev4]; exact (hO 326 4)
        refine lv_if_le (tgt := 78) hx hb dX3_drawFriday_27 (by decide) (fun c5 => ?_) (fun c5 => ?_)
        ·
          have d6 : dkN [(0, 0)] v4 := dkN_le1 0 dv4 (dkN_lit (x := 0) (0) rfl) (dkc_le c5) rfl
          have f7 : dkN [(0, 0)] (I16_ 326 4) := by rw [← ev4]; exact d6
          refine lv_lload_n hx hb dX3_drawFriday_78 rfl (lv_at hl 1 rfl) ?_
          exact W.lret (v := x16_1) hx hb hr (fun t ht hW9 => ⟨⟨x16_1, I16_, rfl, ⟨hF, hO, dkL_sub k16_0 rfl, trivial⟩, dkW_eq ht hW⟩, hS.F ht⟩) hS.2.2 dX3_drawFriday_79
        ·
          have d8 : dkN [(1, 5)] v4 := dkN_le2 1 (dkN_lit (x := 0) (0) rfl) dv4 (dkc_nle c5) rfl
          have f9 : dkN [(1, 5)] (I16_ 326 4) := by rw [← ev4]; exact d8
          refine lv_lload_n hx hb dX3_drawFriday_30 rfl (lv_at hl 1 rfl) ?_
          refine lv_ldc2 (v := 16807) hx hb hown (hts (.constantLong RX3 151 (16807)) (List.mem_of_getElem? (i := 5) rfl)) dX3_drawFriday_31 ?_
          refine lv_lmul hx hb dX3_drawFriday_34 ?_
          refine lv_topl (fun v10 ev10 => ?_)
          have dv10 : dkL [(0, 36092757638322)] v10 := by rw [ev10]; exact dkL_mul 16807 (by decide) k16_0 (dkL_lit (x := 16807) (16807) rfl) rfl
          refine lv_ldc2 (v := 2147483647) hx hb hown (hts (.constantLong RX3 153 (2147483647)) (List.mem_of_getElem? (i := 6) rfl)) dX3_drawFriday_35 ?_
          refine lv_lrem hx hb dX3_drawFriday_38 (dkL_ne0 (dkL_lit (x := 2147483647) (2147483647) rfl) rfl) ?_
          refine lv_topl (fun v11 ev11 => ?_)
          have dv11 : dkL [(0, 2147483646)] v11 := by rw [ev11]; exact dkL_rem 2147483647 dv10 (dkL_lit (x := 2147483647) (2147483647) rfl) rfl
          refine lv_lstore_n (lv' := [(1, .long v11), (0, .ref (z + 325)), (3, .int x16_3)]) hx hb dX3_drawFriday_39 rfl hl (by decide) rfl (fun ls hl => ?_)
          refine lv_aload_n hx hb dX3_drawFriday_40 rfl (lv_at hl 1 rfl) ?_
          refine dk_get (k := 325) hx hb hts iX3_drawFriday_3 hown hK (dk_at325 hW) rfl 1 (by decide) (hts (.fieldLink RX3 12 "DogKings$Seer" "then" "LDogKings$Town;") (List.mem_of_getElem? (i := 1) rfl)) rfl dX3_drawFriday_41 ?_
          refine dk_get (k := 326) hx hb hts iX3_drawFriday_4 hown hK (dk_at326 hW) rfl 8 (by decide) (hts (.fieldLink RX3 104 "DogKings$Town" "bones" "[I") (List.mem_of_getElem? (i := 7) rfl)) rfl dX3_drawFriday_44 ?_
          refine lv_lload_n hx hb dX3_drawFriday_47 rfl (lv_at hl 0 rfl) ?_
          refine lv_aload_n hx hb dX3_drawFriday_48 rfl (lv_at hl 1 rfl) ?_
          refine dk_get (k := 325) hx hb hts iX3_drawFriday_3 hown hK (dk_at325 hW) rfl 1 (by decide) (hts (.fieldLink RX3 12 "DogKings$Seer" "then" "LDogKings$Town;") (List.mem_of_getElem? (i := 1) rfl)) rfl dX3_drawFriday_49 ?_
          refine dk_get (k := 326) hx hb hts iX3_drawFriday_4 hown hK (dk_at326 hW) rfl 4 (by decide) (hts (.fieldLink RX3 148 "DogKings$Town" "people" "I") (List.mem_of_getElem? (i := 4) rfl)) rfl dX3_drawFriday_52 ?_
          refine lv_topi (fun v12 ev12 => ?_)
          have dv12 : dkN [(1, 5)] v12 := by rw [ev12]; exact f9
          refine lv_i2l hx hb dX3_drawFriday_55 rfl ?_
          refine lv_topl (fun v13 ev13 => ?_)
          have dv13 : dkL [(1, 5)] v13 := by rw [ev13]; exact dkL_of dv12
          refine lv_lrem hx hb dX3_drawFriday_56 (dkL_ne0 dv13 rfl) ?_
          refine lv_topl (fun v14 ev14 => ?_)
          have dv14 : dkL [(0, 4)] v14 := by rw [ev14]; exact dkL_rem 5 dv11 dv13 rfl
          refine lv_l2i hx hb dX3_drawFriday_57 rfl ?_
          refine lv_topi (fun v15 ev15 => ?_)
          have dv15 : dkN [(0, 4)] v15 := by rw [ev15]; exact dkN_ofL dv14 rfl
          refine lv_lload_n hx hb dX3_drawFriday_58 rfl (lv_at hl 0 rfl) ?_
          refine lv_ldc2 (v := 10) hx hb hown (hts (.constantLong RX3 155 (10)) (List.mem_of_getElem? (i := 8) rfl)) dX3_drawFriday_59 ?_
          refine lv_lrem hx hb dX3_drawFriday_62 (dkL_ne0 (dkL_lit (x := 10) (10) rfl) rfl) ?_
          refine lv_topl (fun v16 ev16 => ?_)
          have dv16 : dkL [(0, 9)] v16 := by rw [ev16]; exact dkL_rem 10 dv11 (dkL_lit (x := 10) (10) rfl) rfl
          refine lv_l2i hx hb dX3_drawFriday_63 rfl ?_
          refine lv_topi (fun v17 ev17 => ?_)
          have dv17 : dkN [(0, 9)] v17 := by rw [ev17]; exact dkN_ofL dv16 rfl
          refine dk_ist (k := 330) hx hb hK hW (fun _ => rfl) (by decide) hS (dkN_in (n := 5) dv15 rfl) dX3_drawFriday_64 (fun I18 H18 L18 eI18 hW hS => ?_)
          have hO := dkO_set hO eI18 (dkN_sub dv17 rfl)
          have hF := dkF_set hF eI18 (dkIn_v dv15 rfl)
          refine lv_aload_n hx hb dX3_drawFriday_65 rfl (lv_at hl 1 rfl) ?_
          refine dk_get (k := 325) hx hb hts iX3_drawFriday_3 hown hK (dk_at325 hW) rfl 1 (by decide) (hts (.fieldLink RX3 12 "DogKings$Seer" "then" "LDogKings$Town;") (List.mem_of_getElem? (i := 1) rfl)) rfl dX3_drawFriday_66 ?_
          refine dk_Vv (As := []) (rest := []) ⟨hx, hb, hml, hown, hts⟩ (c_X4_stir_0 l g z I18 (326) (by unfold dkT; omega) hO) (cwV 0 hts gX3_drawFriday_X4_stir rfl rfl rfl (by decide +kernel) ⟨Nat.le_of_ble_eq_true rfl, Nat.le_of_ble_eq_true rfl⟩) (dk_at326 hW) rfl hK hT hW hS rfl hl.1 rfl (Nat.le_of_ble_eq_true rfl) dX3_drawFriday_69 ⟨Nat.zero_le _, Nat.zero_le _⟩ (fun I19 H19 L19 hp19 hW hS => ?_)
          obtain ⟨hF19, hO, hc19⟩ := hp19
          have hF := dkF_call hF hF19 rfl
          obtain ⟨v20, ev20⟩ : ∃ y : Int32, y = x16_3 + (-1) := ⟨_, rfl⟩
          have dv20 : dkN [(0, 2147483646)] v20 := by rw [ev20]; exact dkN_add d3 (dkN_lit (x := (-1)) (-1) rfl) rfl
          refine lv_iinc (v := v20) (lv' := [(3, .int v20), (1, .long v11), (0, .ref (z + 325))]) hx hb dX3_drawFriday_72 hl (k := 2) rfl (by rw [ev20]; rfl) (by decide) rfl (fun ls hl => ?_)
          refine lv_goto (tgt := 16) hx hb dX3_drawFriday_75 (by decide) ?_
          exact ih16 I19 _ _ ls v11 v20 (dk_nearD hn16 (by rw [ev20]; exact dk_dec d3 rfl) (dkN_gt d3 rfl)) hW hS hF hO (dkL_sub dv11 rfl) (lv_sub hl [2, 1, 0] rfl)
  refine lv_aload_n hx hb dX3_drawFriday_0 rfl (lv_at hl 0 rfl) ?_
  refine dk_get (k := 325) hx hb hts iX3_drawFriday_3 hown hK (dk_at325 hW) rfl 1 (by decide) (hts (.fieldLink RX3 12 "DogKings$Seer" "then" "LDogKings$Town;") (List.mem_of_getElem? (i := 1) rfl)) rfl dX3_drawFriday_1 ?_
  refine dk_get (k := 326) hx hb hts iX3_drawFriday_4 hown hK (dk_at326 hW) rfl 1 (by decide) (hts (.fieldLink RX3 142 "DogKings$Town" "fridayLasts" "I") (List.mem_of_getElem? (i := 2) rfl)) rfl dX3_drawFriday_4 ?_
  refine lv_topi (fun v21 ev21 => ?_)
  have dv21 : dkN [(0, 30)] v21 := by rw [ev21]; exact (hO 326 1)
  refine lv_aload_n hx hb dX3_drawFriday_7 rfl (lv_at hl 0 rfl) ?_
  refine dk_get (k := 325) hx hb hts iX3_drawFriday_3 hown hK (dk_at325 hW) rfl 1 (by decide) (hts (.fieldLink RX3 12 "DogKings$Seer" "then" "LDogKings$Town;") (List.mem_of_getElem? (i := 1) rfl)) rfl dX3_drawFriday_8 ?_
  refine dk_get (k := 326) hx hb hts iX3_drawFriday_4 hown hK (dk_at326 hW) rfl 3 (by decide) (hts (.fieldLink RX3 145 "DogKings$Town" "minute" "I") (List.mem_of_getElem? (i := 3) rfl)) rfl dX3_drawFriday_11 ?_
  refine lv_topi (fun v22 ev22 => ?_)
  refine lv_isub hx hb dX3_drawFriday_14 ?_
  refine lv_topi (fun v23 ev23 => ?_)
  refine lv_istore_n (lv' := [(3, .int v23), (0, .ref (z + 325)), (1, .long p0)]) hx hb dX3_drawFriday_15 rfl hl (by decide) rfl (fun ls hl => ?_)
  exact C16 _ I0 _ _ ls p0 v23 (Nat.lt_succ_self _) hW hS hF hO (dkL_sub dp0 rfl) (lv_sub hl [1, 2, 0] rfl)
