set_option maxHeartbeats 4000000 in
set_option maxRecDepth 100000 in
theorem c_X6_must_4 (l : Launch) (g : dkG) (z : Nat) (I0 : dkI) (p0 : Int32) (dp0 : dkN [(0, 0)] p0) (np0 : dkN [(0, 2147483647)] (I0 340 8))  (hO : dkOk I0) : Met l yX6_must wsX6_must (dkR 1) (dkPc g z [.ref (z + 340), .int p0] I0) (dkQv g z (fun I1 => dkF [] I0 I1 ∧ dkOk I1 ∧ ((dkN [(0, 2147483647)] (I1 340 8) ∧ True)))) 0 0 (dkA z) := by
  refine Met.ofW (cc := cX6_must) (maxL := 2) (ret := none) (by decide) rfl ?_
  intro p e s m args below meth c s₁ B hml hv
  obtain ⟨ha, hW, hK, hT⟩ := hv
  have hx := B.exec
  have hb := B.bytes
  have hr := B.returns
  have hts := atoms_spec (ws := wsX6_must) B.pre
  have hown : s.vm.findClass RX6 = some m.cls := findClass_of_methodNamed B.named
  have hlocks := B.notSynchronized
  have hS : va_S (dkA z) s.heap s.heap [] := va_S.rf
  have hF : dkF [] I0 I0 := dkF_rf _ _
  have hl := lv_entry ([.ref (z + 340), .int p0]) (n := 2) (Nat.le_of_ble_eq_true rfl)
  have hgo : entryFrame m args 2 = entryFrame m ([.ref (z + 340), .int p0] : List Value).toArray 2 := by rw [ha]
  rw [hgo, lg_entry_eq]
  generalize (lg_sl ([.ref (z + 340), .int p0]) ++ List.replicate (2 - (lg_sl ([.ref (z + 340), .int p0])).length) Slot.unset).toArray = ls at hl ⊢
  have hl : lv_has ls 2 [(0, .ref (z + 340)), (1, .int p0)] := hl
  refine lv_aload_n hx hb dX6_must_0 rfl (lv_at hl 0 rfl) ?_
  refine dk_Vi (As := []) (rest := []) ⟨hx, hb, hml, hown, hts⟩ (c_X6_isWell_4 l g z I0 (show dkN [(0, 2147483647)] (I0 340 8) from dkN_sub np0 rfl) hO) (cwV 0 hts gX6_must_X6_isWell rfl rfl rfl (by decide +kernel) ⟨Nat.le_of_ble_eq_true rfl, Nat.le_of_ble_eq_true rfl⟩) (dk_at340 hW) rfl hK hT hW hS rfl hl.1 rfl (Nat.le_of_ble_eq_true rfl) dX6_must_1 ⟨Nat.zero_le _, Nat.zero_le _⟩ (fun v1 I1 H1 L1 hp1 hW hS => ?_)
  obtain ⟨hF1, hO, hc1⟩ := hp1
  have hF := dkF_call hF hF1 rfl
  obtain ⟨dv1, f1_340_8, -⟩ := hc1
  refine lv_if_eq (tgt := 18) hx hb dX6_must_4 (by decide) (fun c2 => ?_) (fun c2 => ?_)
  ·
    exact W.vret hx hb hr (fun t ht hW9 => ⟨⟨I1, rfl, ⟨hF, hO, ⟨(show dkN [(0, 2147483647)] (I1 340 8) from dkN_sub f1_340_8 rfl), trivial⟩⟩, dkW_eq ht hW⟩, hS.F ht⟩) hS.2.2 dX6_must_18
  ·
    exact (dkN_nil (show dkN [] v1 from dkN_ne1 (0) dv1 (dkN_lit (x := 0) (0) rfl) (dk_ne c2) rfl)).elim
set_option maxHeartbeats 4000000 in
set_option maxRecDepth 100000 in
theorem c_X6_must_5 (l : Launch) (g : dkG) (z : Nat) (I0 : dkI) (p0 : Int32) (dp0 : dkN [(1, 1)] p0) (np0 : dkN [(0, 2147483647)] (I0 340 8))  (hO : dkOk I0) : Met l yX6_must wsX6_must (dkR 1) (dkPc g z [.ref (z + 340), .int p0] I0) (dkQv g z (fun I1 => dkF [] I0 I1 ∧ dkOk I1 ∧ ((dkN [(0, 2147483647)] (I1 340 8) ∧ True)))) 0 0 (dkA z) := by
  refine Met.ofW (cc := cX6_must) (maxL := 2) (ret := none) (by decide) rfl ?_
  intro p e s m args below meth c s₁ B hml hv
  obtain ⟨ha, hW, hK, hT⟩ := hv
  have hx := B.exec
  have hb := B.bytes
  have hr := B.returns
  have hts := atoms_spec (ws := wsX6_must) B.pre
  have hown : s.vm.findClass RX6 = some m.cls := findClass_of_methodNamed B.named
  have hlocks := B.notSynchronized
  have hS : va_S (dkA z) s.heap s.heap [] := va_S.rf
  have hF : dkF [] I0 I0 := dkF_rf _ _
  have hl := lv_entry ([.ref (z + 340), .int p0]) (n := 2) (Nat.le_of_ble_eq_true rfl)
  have hgo : entryFrame m args 2 = entryFrame m ([.ref (z + 340), .int p0] : List Value).toArray 2 := by rw [ha]
  rw [hgo, lg_entry_eq]
  generalize (lg_sl ([.ref (z + 340), .int p0]) ++ List.replicate (2 - (lg_sl ([.ref (z + 340), .int p0])).length) Slot.unset).toArray = ls at hl ⊢
  have hl : lv_has ls 2 [(0, .ref (z + 340)), (1, .int p0)] := hl
  refine lv_aload_n hx hb dX6_must_0 rfl (lv_at hl 0 rfl) ?_
  refine dk_Vi (As := []) (rest := []) ⟨hx, hb, hml, hown, hts⟩ (c_X6_isWell_4 l g z I0 (show dkN [(0, 2147483647)] (I0 340 8) from dkN_sub np0 rfl) hO) (cwV 0 hts gX6_must_X6_isWell rfl rfl rfl (by decide +kernel) ⟨Nat.le_of_ble_eq_true rfl, Nat.le_of_ble_eq_true rfl⟩) (dk_at340 hW) rfl hK hT hW hS rfl hl.1 rfl (Nat.le_of_ble_eq_true rfl) dX6_must_1 ⟨Nat.zero_le _, Nat.zero_le _⟩ (fun v1 I1 H1 L1 hp1 hW hS => ?_)
  obtain ⟨hF1, hO, hc1⟩ := hp1
  have hF := dkF_call hF hF1 rfl
  obtain ⟨dv1, f1_340_8, -⟩ := hc1
  refine lv_if_eq (tgt := 18) hx hb dX6_must_4 (by decide) (fun c2 => ?_) (fun c2 => ?_)
  ·
    exact W.vret hx hb hr (fun t ht hW9 => ⟨⟨I1, rfl, ⟨hF, hO, ⟨(show dkN [(0, 2147483647)] (I1 340 8) from dkN_sub f1_340_8 rfl), trivial⟩⟩, dkW_eq ht hW⟩, hS.F ht⟩) hS.2.2 dX6_must_18
  ·
    exact (dkN_nil (show dkN [] v1 from dkN_ne1 (0) dv1 (dkN_lit (x := 0) (0) rfl) (dk_ne c2) rfl)).elim
set_option maxHeartbeats 4000000 in
set_option maxRecDepth 100000 in
theorem c_X6_must_6 (l : Launch) (g : dkG) (z : Nat) (I0 : dkI) (p0 : Int32) (dp0 : dkN [(0, 0)] p0) (np0 : dkN [(-2147483648, -1)] (I0 340 8))  (hO : dkOk I0) : Met l yX6_must wsX6_must (dkR 2) (dkPc g z [.ref (z + 340), .int p0] I0) (dkQv g z (fun I1 => dkF [(340, 340, 7, 8)] I0 I1 ∧ dkOk I1 ∧ ((dkN [(1, 1)] (I1 340 7) ∧ dkN [(0, 90)] (I1 340 8) ∧ True)))) 0 0 (dkA z) := by
  refine Met.ofW (cc := cX6_must) (maxL := 2) (ret := none) (by decide) rfl ?_
  intro p e s m args below meth c s₁ B hml hv
  obtain ⟨ha, hW, hK, hT⟩ := hv
  have hx := B.exec
  have hb := B.bytes
  have hr := B.returns
  have hts := atoms_spec (ws := wsX6_must) B.pre
  have hown : s.vm.findClass RX6 = some m.cls := findClass_of_methodNamed B.named
  have hlocks := B.notSynchronized
  have hS : va_S (dkA z) s.heap s.heap [] := va_S.rf
  have hF : dkF [(340, 340, 7, 8)] I0 I0 := dkF_rf _ _
  have hl := lv_entry ([.ref (z + 340), .int p0]) (n := 2) (Nat.le_of_ble_eq_true rfl)
  have hgo : entryFrame m args 2 = entryFrame m ([.ref (z + 340), .int p0] : List Value).toArray 2 := by rw [ha]
  rw [hgo, lg_entry_eq]
  generalize (lg_sl ([.ref (z + 340), .int p0]) ++ List.replicate (2 - (lg_sl ([.ref (z + 340), .int p0])).length) Slot.unset).toArray = ls at hl ⊢
  have hl : lv_has ls 2 [(0, .ref (z + 340)), (1, .int p0)] := hl
  refine lv_aload_n hx hb dX6_must_0 rfl (lv_at hl 0 rfl) ?_
  refine dk_Vi (As := []) (rest := []) ⟨hx, hb, hml, hown, hts⟩ (c_X6_isWell_5 l g z I0 (show dkN [(-2147483648, -1)] (I0 340 8) from dkN_sub np0 rfl) hO) (cwV 0 hts gX6_must_X6_isWell rfl rfl rfl (by decide +kernel) ⟨Nat.le_of_ble_eq_true rfl, Nat.le_of_ble_eq_true rfl⟩) (dk_at340 hW) rfl hK hT hW hS rfl hl.1 rfl (Nat.le_of_ble_eq_true rfl) dX6_must_1 ⟨Nat.zero_le _, Nat.zero_le _⟩ (fun v1 I1 H1 L1 hp1 hW hS => ?_)
  obtain ⟨hF1, hO, hc1⟩ := hp1
  have hF := dkF_call hF hF1 rfl
  obtain ⟨dv1, f1_340_8, -⟩ := hc1
  refine lv_if_eq (tgt := 18) hx hb dX6_must_4 (by decide) (fun c2 => ?_) (fun c2 => ?_)
  ·
    exact (dkN_nil (show dkN [] v1 from dkN_eq1 dv1 (dkN_lit (x := 0) (0) rfl) (congrArg Int32.toInt c2) rfl)).elim
  ·
    refine lv_iload_n hx hb dX6_must_7 rfl (lv_at hl 1 rfl) ?_
    refine lv_if_ne (tgt := 18) hx hb dX6_must_8 (by decide) (fun c3 => ?_) (fun c3 => ?_)
    ·
      exact (dkN_nil (show dkN [] p0 from dkN_ne1 (0) dp0 (dkN_lit (x := 0) (0) rfl) (dk_ne c3) rfl)).elim
    ·
      refine lv_aload_n hx hb dX6_must_11 rfl (lv_at hl 0 rfl) ?_
      refine lv_iconst (v := 0) hx hb dX6_must_12 (by decide) ?_
      refine lv_iconst (v := 1) hx hb dX6_must_13 (by decide) ?_
      refine dk_Vi (As := [.int 0, .int 1]) (rest := []) ⟨hx, hb, hml, hown, hts⟩ (c_X6_takes_21 l g z I1 0 1 (dkN_lit (x := 0) (0) rfl) (dkN_lit (x := 1) (1) rfl) (show dkN [(-2147483648, -1)] (I1 340 8) from dkN_sub f1_340_8 rfl) hO) (cwV 2 hts gX6_must_X6_takes rfl rfl rfl (by decide +kernel) ⟨Nat.le_of_ble_eq_true rfl, Nat.le_of_ble_eq_true rfl⟩) (dk_at340 hW) rfl hK hT hW hS rfl hl.1 rfl (Nat.le_of_ble_eq_true rfl) dX6_must_14 ⟨Nat.zero_le _, Nat.zero_le _⟩ (fun v4 I4 H4 L4 hp4 hW hS => ?_)
      obtain ⟨hF4, hO, hc4⟩ := hp4
      have hF := dkF_call hF hF4 rfl
      obtain ⟨dv4, f4_340_7, f4_340_8, -⟩ := hc4
      refine lv_pop hx hb dX6_must_17 rfl ?_
      exact W.vret hx hb hr (fun t ht hW9 => ⟨⟨I4, rfl, ⟨hF, hO, ⟨(show dkN [(1, 1)] (I4 340 7) from dkN_sub f4_340_7 rfl), (show dkN [(0, 90)] (I4 340 8) from dkN_sub f4_340_8 rfl), trivial⟩⟩, dkW_eq ht hW⟩, hS.F ht⟩) hS.2.2 dX6_must_18
set_option maxHeartbeats 4000000 in
set_option maxRecDepth 100000 in
theorem c_X6_must_7 (l : Launch) (g : dkG) (z : Nat) (I0 : dkI) (p0 : Int32) (dp0 : dkN [(1, 1)] p0) (np0 : dkN [(-2147483648, -1)] (I0 340 8))  (hO : dkOk I0) : Met l yX6_must wsX6_must (dkR 1) (dkPc g z [.ref (z + 340), .int p0] I0) (dkQv g z (fun I1 => dkF [] I0 I1 ∧ dkOk I1 ∧ ((dkN [(-2147483648, -1)] (I1 340 8) ∧ True)))) 0 0 (dkA z) := by
  refine Met.ofW (cc := cX6_must) (maxL := 2) (ret := none) (by decide) rfl ?_
  intro p e s m args below meth c s₁ B hml hv
  obtain ⟨ha, hW, hK, hT⟩ := hv
  have hx := B.exec
  have hb := B.bytes
  have hr := B.returns
  have hts := atoms_spec (ws := wsX6_must) B.pre
  have hown : s.vm.findClass RX6 = some m.cls := findClass_of_methodNamed B.named
  have hlocks := B.notSynchronized
  have hS : va_S (dkA z) s.heap s.heap [] := va_S.rf
  have hF : dkF [] I0 I0 := dkF_rf _ _
  have hl := lv_entry ([.ref (z + 340), .int p0]) (n := 2) (Nat.le_of_ble_eq_true rfl)
  have hgo : entryFrame m args 2 = entryFrame m ([.ref (z + 340), .int p0] : List Value).toArray 2 := by rw [ha]
  rw [hgo, lg_entry_eq]
  generalize (lg_sl ([.ref (z + 340), .int p0]) ++ List.replicate (2 - (lg_sl ([.ref (z + 340), .int p0])).length) Slot.unset).toArray = ls at hl ⊢
  have hl : lv_has ls 2 [(0, .ref (z + 340)), (1, .int p0)] := hl
  refine lv_aload_n hx hb dX6_must_0 rfl (lv_at hl 0 rfl) ?_
  refine dk_Vi (As := []) (rest := []) ⟨hx, hb, hml, hown, hts⟩ (c_X6_isWell_5 l g z I0 (show dkN [(-2147483648, -1)] (I0 340 8) from dkN_sub np0 rfl) hO) (cwV 0 hts gX6_must_X6_isWell rfl rfl rfl (by decide +kernel) ⟨Nat.le_of_ble_eq_true rfl, Nat.le_of_ble_eq_true rfl⟩) (dk_at340 hW) rfl hK hT hW hS rfl hl.1 rfl (Nat.le_of_ble_eq_true rfl) dX6_must_1 ⟨Nat.zero_le _, Nat.zero_le _⟩ (fun v1 I1 H1 L1 hp1 hW hS => ?_)
  obtain ⟨hF1, hO, hc1⟩ := hp1
  have hF := dkF_call hF hF1 rfl
  obtain ⟨dv1, f1_340_8, -⟩ := hc1
  refine lv_if_eq (tgt := 18) hx hb dX6_must_4 (by decide) (fun c2 => ?_) (fun c2 => ?_)
  ·
    exact (dkN_nil (show dkN [] v1 from dkN_eq1 dv1 (dkN_lit (x := 0) (0) rfl) (congrArg Int32.toInt c2) rfl)).elim
  ·
    refine lv_iload_n hx hb dX6_must_7 rfl (lv_at hl 1 rfl) ?_
    refine lv_if_ne (tgt := 18) hx hb dX6_must_8 (by decide) (fun c3 => ?_) (fun c3 => ?_)
    ·
      exact W.vret hx hb hr (fun t ht hW9 => ⟨⟨I1, rfl, ⟨hF, hO, ⟨(show dkN [(-2147483648, -1)] (I1 340 8) from dkN_sub f1_340_8 rfl), trivial⟩⟩, dkW_eq ht hW⟩, hS.F ht⟩) hS.2.2 dX6_must_18
    ·
      exact (dkN_nil (show dkN [] p0 from dkN_eq1 dp0 (dkN_lit (x := 0) (0) rfl) (congrArg Int32.toInt c3) rfl)).elim
set_option maxHeartbeats 4000000 in
set_option maxRecDepth 100000 in
theorem c_X6_kindOf_0 (l : Launch) (g : dkG) (z : Nat) (I0 : dkI) (p0 : Int32)  (hO : dkOk I0) : Met l yX6_kindOf wsX6_kindOf (dkR 0) (dkPc g z [.int p0] I0) (dkQi g z (fun r I1 => dkF [] I0 I1 ∧ dkOk I1 ∧ ((dkN [(0, 5)] r ∧ True)))) 0 0 (dkA z) := by
  refine Met.ofW (cc := cX6_kindOf) (maxL := 1) (ret := (some .int)) (by decide) rfl ?_
  intro p e s m args below meth c s₁ B hml hv
  obtain ⟨ha, hW, hK, hT⟩ := hv
  have hx := B.exec
  have hb := B.bytes
  have hr := B.returns
  have hts := atoms_spec (ws := wsX6_kindOf) B.pre
  have hown : s.vm.findClass RX6 = some m.cls := findClass_of_methodNamed B.named
  have hlocks := B.notSynchronized
  have hS : va_S (dkA z) s.heap s.heap [] := va_S.rf
  have hF : dkF [] I0 I0 := dkF_rf _ _
  have hl := lv_entry ([.int p0]) (n := 1) (Nat.le_of_ble_eq_true rfl)
  have hgo : entryFrame m args 1 = entryFrame m ([.int p0] : List Value).toArray 1 := by rw [ha]
  rw [hgo, lg_entry_eq]
  generalize (lg_sl ([.int p0]) ++ List.replicate (1 - (lg_sl ([.int p0])).length) Slot.unset).toArray = ls at hl ⊢
  have hl : lv_has ls 1 [(0, .int p0)] := hl
  refine lv_iload_n hx hb dX6_kindOf_0 rfl (lv_at hl 0 rfl) ?_
  refine lv_bipush (v := 104) hx hb dX6_kindOf_1 (by decide) ?_
  refine lv_icmp_ne (tgt := 10) hx hb dX6_kindOf_3 (by decide) (fun c1 => ?_) (fun c1 => ?_)
  ·
    have d2 : dkN [(-2147483648, 103), (105, 2147483647)] p0 := dkN_ne1 (104) (dkN_top p0) (dkN_lit (x := 104) (104) rfl) (dk_ne c1) rfl
    refine lv_iload_n hx hb dX6_kindOf_10 rfl (lv_at hl 0 rfl) ?_
    refine lv_bipush (v := 116) hx hb dX6_kindOf_11 (by decide) ?_
    refine lv_icmp_ne (tgt := 20) hx hb dX6_kindOf_13 (by decide) (fun c3 => ?_) (fun c3 => ?_)
    ·
      have d4 : dkN [(-2147483648, 103), (105, 115), (117, 2147483647)] p0 := dkN_ne1 (116) d2 (dkN_lit (x := 116) (116) rfl) (dk_ne c3) rfl
      refine lv_iload_n hx hb dX6_kindOf_20 rfl (lv_at hl 0 rfl) ?_
      refine lv_bipush (v := 112) hx hb dX6_kindOf_21 (by decide) ?_
      refine lv_icmp_ne (tgt := 30) hx hb dX6_kindOf_23 (by decide) (fun c5 => ?_) (fun c5 => ?_)
      ·
        have d6 : dkN [(-2147483648, 103), (105, 111), (113, 115), (117, 2147483647)] p0 := dkN_ne1 (112) d4 (dkN_lit (x := 112) (112) rfl) (dk_ne c5) rfl
        refine lv_iload_n hx hb dX6_kindOf_30 rfl (lv_at hl 0 rfl) ?_
        refine lv_bipush (v := 107) hx hb dX6_kindOf_31 (by decide) ?_
        refine lv_icmp_ne (tgt := 40) hx hb dX6_kindOf_33 (by decide) (fun c7 => ?_) (fun c7 => ?_)
        ·
          have d8 : dkN [(-2147483648, 103), (105, 106), (108, 111), (113, 115), (117, 2147483647)] p0 := dkN_ne1 (107) d6 (dkN_lit (x := 107) (107) rfl) (dk_ne c7) rfl
          refine lv_iload_n hx hb dX6_kindOf_40 rfl (lv_at hl 0 rfl) ?_
          refine lv_bipush (v := 115) hx hb dX6_kindOf_41 (by decide) ?_
          refine lv_icmp_ne (tgt := 50) hx hb dX6_kindOf_43 (by decide) (fun c9 => ?_) (fun c9 => ?_)
          ·
            have d10 : dkN [(-2147483648, 103), (105, 106), (108, 111), (113, 114), (117, 2147483647)] p0 := dkN_ne1 (115) d8 (dkN_lit (x := 115) (115) rfl) (dk_ne c9) rfl
            refine lv_iconst (v := 0) hx hb dX6_kindOf_50 (by decide) ?_
            exact W.iret (v := 0) hx hb hr (fun t ht hW9 => ⟨⟨0, I0, rfl, ⟨hF, hO, ⟨dkN_sub (dkN_lit (x := 0) (0) rfl) rfl, trivial⟩⟩, dkW_eq ht hW⟩, hS.F ht⟩) hS.2.2 dX6_kindOf_51
          ·
            have d11 : dkN [(115, 115)] p0 := dkN_eq1 d8 (dkN_lit (x := 115) (115) rfl) (congrArg Int32.toInt c9) rfl
            refine lv_iconst (v := 5) hx hb dX6_kindOf_46 (by decide) ?_
            refine lv_goto (tgt := 51) hx hb dX6_kindOf_47 (by decide) ?_
            exact W.iret (v := 5) hx hb hr (fun t ht hW9 => ⟨⟨5, I0, rfl, ⟨hF, hO, ⟨dkN_sub (dkN_lit (x := 5) (5) rfl) rfl, trivial⟩⟩, dkW_eq ht hW⟩, hS.F ht⟩) hS.2.2 dX6_kindOf_51
        ·
          have d12 : dkN [(107, 107)] p0 := dkN_eq1 d6 (dkN_lit (x := 107) (107) rfl) (congrArg Int32.toInt c7) rfl
          refine lv_iconst (v := 4) hx hb dX6_kindOf_36 (by decide) ?_
          refine lv_goto (tgt := 51) hx hb dX6_kindOf_37 (by decide) ?_
          exact W.iret (v := 4) hx hb hr (fun t ht hW9 => ⟨⟨4, I0, rfl, ⟨hF, hO, ⟨dkN_sub (dkN_lit (x := 4) (4) rfl) rfl, trivial⟩⟩, dkW_eq ht hW⟩, hS.F ht⟩) hS.2.2 dX6_kindOf_51
      ·
        have d13 : dkN [(112, 112)] p0 := dkN_eq1 d4 (dkN_lit (x := 112) (112) rfl) (congrArg Int32.toInt c5) rfl
        refine lv_iconst (v := 3) hx hb dX6_kindOf_26 (by decide) ?_
        refine lv_goto (tgt := 51) hx hb dX6_kindOf_27 (by decide) ?_
        exact W.iret (v := 3) hx hb hr (fun t ht hW9 => ⟨⟨3, I0, rfl, ⟨hF, hO, ⟨dkN_sub (dkN_lit (x := 3) (3) rfl) rfl, trivial⟩⟩, dkW_eq ht hW⟩, hS.F ht⟩) hS.2.2 dX6_kindOf_51
    ·
      have d14 : dkN [(116, 116)] p0 := dkN_eq1 d2 (dkN_lit (x := 116) (116) rfl) (congrArg Int32.toInt c3) rfl
      refine lv_iconst (v := 2) hx hb dX6_kindOf_16 (by decide) ?_
      refine lv_goto (tgt := 51) hx hb dX6_kindOf_17 (by decide) ?_
      exact W.iret (v := 2) hx hb hr (fun t ht hW9 => ⟨⟨2, I0, rfl, ⟨hF, hO, ⟨dkN_sub (dkN_lit (x := 2) (2) rfl) rfl, trivial⟩⟩, dkW_eq ht hW⟩, hS.F ht⟩) hS.2.2 dX6_kindOf_51
  ·
    have d15 : dkN [(104, 104)] p0 := dkN_eq1 (dkN_top p0) (dkN_lit (x := 104) (104) rfl) (congrArg Int32.toInt c1) rfl
    refine lv_iconst (v := 1) hx hb dX6_kindOf_6 (by decide) ?_
    refine lv_goto (tgt := 51) hx hb dX6_kindOf_7 (by decide) ?_
    exact W.iret (v := 1) hx hb hr (fun t ht hW9 => ⟨⟨1, I0, rfl, ⟨hF, hO, ⟨dkN_sub (dkN_lit (x := 1) (1) rfl) rfl, trivial⟩⟩, dkW_eq ht hW⟩, hS.F ht⟩) hS.2.2 dX6_kindOf_51
set_option maxHeartbeats 4000000 in
set_option maxRecDepth 100000 in
theorem c_X6_readsDog_0 (l : Launch) (g : dkG) (z : Nat) (I0 : dkI)  (hO : dkOk I0) : Met l yX6_readsDog wsX6_readsDog (dkR 4) (dkPc g z [.ref (z + 340)] I0) (dkQv g z (fun I1 => dkF [(340, 340, 7, 12), (347, 347, 5, 5), (347, 347, 36, 53)] I0 I1 ∧ dkOk I1 ∧ ((dkN [(-2147483648, -1)] (I1 340 8) ∧ dkN [(1, 6)] (I1 347 5) ∧ I1 347 5 = I0 347 5 + 1 ∧ True) ∨ (dkN [(0, 2147483647)] (I1 340 8) ∧ True)))) 0 0 (dkA z) := by
  refine Met.ofW (cc := cX6_readsDog) (maxL := 4) (ret := none) (by decide) rfl ?_
  intro p e s m args below meth c s₁ B hml hv
  obtain ⟨ha, hW, hK, hT⟩ := hv
  have hx := B.exec
  have hb := B.bytes
  have hr := B.returns
  have hts := atoms_spec (ws := wsX6_readsDog) B.pre
  have hown : s.vm.findClass RX6 = some m.cls := findClass_of_methodNamed B.named
  have hlocks := B.notSynchronized
  have hS : va_S (dkA z) s.heap s.heap [] := va_S.rf
  have hF : dkF [(340, 340, 7, 12), (347, 347, 5, 5), (347, 347, 36, 53)] I0 I0 := dkF_rf _ _
  have hl := lv_entry ([.ref (z + 340)]) (n := 4) (Nat.le_of_ble_eq_true rfl)
  have hgo : entryFrame m args 4 = entryFrame m ([.ref (z + 340)] : List Value).toArray 4 := by rw [ha]
  rw [hgo, lg_entry_eq]
  generalize (lg_sl ([.ref (z + 340)]) ++ List.replicate (4 - (lg_sl ([.ref (z + 340)])).length) Slot.unset).toArray = ls at hl ⊢
  have hl : lv_has ls 4 [(0, .ref (z + 340))] := hl
  refine lv_aload_n hx hb dX6_readsDog_0 rfl (lv_at hl 0 rfl) ?_
  refine dk_get (k := 340) hx hb hts iX6_readsDog_6 hown hK (dk_at340 hW) rfl 12 (by decide) (hts (.fieldLink RX6 95 "DogKingsModel" "value" "I") (List.mem_of_getElem? (i := 1) rfl)) rfl dX6_readsDog_1 ?_
  refine lv_topi (fun v1 ev1 => ?_)
  refine dk_Si (As := [.int v1]) (rest := []) ⟨hx, hb, hml, hown, hts⟩ (c_X6_kindOf_0 l g z I0 v1 hO) (va_cwS 1 hts gX6_readsDog_X6_kindOf rfl rfl rfl (by decide +kernel) ⟨Nat.le_of_ble_eq_true rfl, Nat.le_of_ble_eq_true rfl⟩) hK hT hW hS rfl hl.1 rfl (Nat.le_of_ble_eq_true rfl) dX6_readsDog_4 ⟨Nat.zero_le _, Nat.zero_le _⟩ (fun v2 I2 H2 L2 hp2 hW hS => ?_)
  obtain ⟨hF2, hO, hc2⟩ := hp2
  have hF := dkF_call hF hF2 rfl
  obtain ⟨dv2, -⟩ := hc2
  refine lv_istore_n (lv' := [(1, .int v2), (0, .ref (z + 340))]) hx hb dX6_readsDog_7 rfl hl (by decide) rfl (fun ls hl => ?_)
  refine lv_aload_n hx hb dX6_readsDog_8 rfl (lv_at hl 1 rfl) ?_
  refine lv_aload_n hx hb dX6_readsDog_9 rfl (lv_at hl 1 rfl) ?_
  refine dk_get (k := 340) hx hb hts iX6_readsDog_6 hown hK (dk_at340 hW) rfl 14 (by decide) (hts (.fieldLink RX6 28 "DogKingsModel" "draft" "[I") (List.mem_of_getElem? (i := 2) rfl)) rfl dX6_readsDog_10 ?_
  refine lv_iconst (v := 5) hx hb dX6_readsDog_13 (by decide) ?_
  refine dk_ild (k := 347) hx hb hK (dk_at347 hW) (dkN_in (n := 54) (dkN_lit (x := 5) (5) rfl) rfl) dX6_readsDog_14 ?_
  refine lv_topi (fun v3 ev3 => ?_)
  have ev3 : v3 = I2 347 5 := ev3
  have dv3 : dkN [(0, 6)] v3 := by rw [ev3]; exact (show dkN [(0, 6)] (I2 347 5) from (hO 347 5))
  refine lv_bipush (v := 6) hx hb dX6_readsDog_15 (by decide) ?_
  refine lv_icmp_ge (tgt := 24) hx hb dX6_readsDog_17 (by decide) (fun c4 => ?_) (fun c4 => ?_)
  ·
    have d5 : dkN [(6, 6)] v3 := dkN_le2 0 (dkN_lit (x := 6) (6) rfl) dv3 (dkc_le c4) rfl
    have f6 : dkN [(6, 6)] (I2 347 5) := by rw [← ev3]; exact d5
    refine lv_iconst (v := 0) hx hb dX6_readsDog_24 (by decide) ?_
    refine lv_iconst (v := 3) hx hb dX6_readsDog_25 (by decide) ?_
    refine dk_Vi (As := [.int 0, .int 3]) (rest := []) ⟨hx, hb, hml, hown, hts⟩ (c_X6_takes_10 l g z I2 0 3 (dkN_lit (x := 0) (0) rfl) (dkN_lit (x := 3) (3) rfl) hO) (cwV 2 hts gX6_readsDog_X6_takes rfl rfl rfl (by decide +kernel) ⟨Nat.le_of_ble_eq_true rfl, Nat.le_of_ble_eq_true rfl⟩) (dk_at340 hW) rfl hK hT hW hS rfl hl.1 rfl (Nat.le_of_ble_eq_true rfl) dX6_readsDog_26 ⟨Nat.zero_le _, Nat.zero_le _⟩ (fun v7 I7 H7 L7 hp7 hW hS => ?_)
    obtain ⟨hF7, hO, hc7⟩ := hp7
    have hF := dkF_call hF hF7 rfl
    obtain ⟨dv7, f7_340_8, -⟩ := hc7
    refine lv_pop hx hb dX6_readsDog_29 rfl ?_
    refine lv_bipush (v := 36) hx hb dX6_readsDog_30 (by decide) ?_
    refine lv_iconst (v := 3) hx hb dX6_readsDog_32 (by decide) ?_
    refine lv_aload_n hx hb dX6_readsDog_33 rfl (lv_at hl 1 rfl) ?_
    refine dk_get (k := 340) hx hb hts iX6_readsDog_6 hown hK (dk_at340 hW) rfl 14 (by decide) (hts (.fieldLink RX6 28 "DogKingsModel" "draft" "[I") (List.mem_of_getElem? (i := 2) rfl)) rfl dX6_readsDog_34 ?_
    refine lv_iconst (v := 5) hx hb dX6_readsDog_37 (by decide) ?_
    refine dk_ild (k := 347) hx hb hK (dk_at347 hW) (dkN_in (n := 54) (dkN_lit (x := 5) (5) rfl) rfl) dX6_readsDog_38 ?_
    refine lv_topi (fun v8 ev8 => ?_)
    have ev8 : v8 = I7 347 5 := ev8
    have dv8 : dkN [(6, 6)] v8 := by rw [ev8]; exact (show dkN [(6, 6)] (I7 347 5) from (by rw [hF7 347 5 rfl]; exact f6))
    refine lv_bipush (v := 6) hx hb dX6_readsDog_39 (by decide) ?_
    refine lv_icmp_ge (tgt := 53) hx hb dX6_readsDog_41 (by decide) (fun c9 => ?_) (fun c9 => ?_)
    ·
      refine lv_iconst (v := 0) hx hb dX6_readsDog_53 (by decide) ?_
      refine lv_imul hx hb dX6_readsDog_54 ?_
      refine lv_topi (fun v10 ev10 => ?_)
      have dv10 : dkN [(0, 0)] v10 := by rw [ev10]; exact dkN_mulPt 3 (dkN_lit (x := 3) (3) rfl) (dkN_lit (x := 0) (0) rfl) rfl
      refine lv_iadd hx hb dX6_readsDog_55 ?_
      refine lv_topi (fun v11 ev11 => ?_)
      have dv11 : dkN [(36, 36)] v11 := by rw [ev11]; exact dkN_add (dkN_lit (x := 36) (36) rfl) dv10 rfl
      refine lv_istore_n (lv' := [(2, .int v11), (1, .int v2), (0, .ref (z + 340))]) hx hb dX6_readsDog_56 rfl hl (by decide) rfl (fun ls hl => ?_)
      refine lv_aload_n hx hb dX6_readsDog_57 rfl (lv_at hl 2 rfl) ?_
      refine lv_iconst (v := 0) hx hb dX6_readsDog_58 (by decide) ?_
      refine lv_aload_n hx hb dX6_readsDog_59 rfl (lv_at hl 2 rfl) ?_
      refine dk_get (k := 340) hx hb hts iX6_readsDog_6 hown hK (dk_at340 hW) rfl 14 (by decide) (hts (.fieldLink RX6 28 "DogKingsModel" "draft" "[I") (List.mem_of_getElem? (i := 2) rfl)) rfl dX6_readsDog_60 ?_
      refine lv_iconst (v := 0) hx hb dX6_readsDog_63 (by decide) ?_
      refine dk_ild (k := 347) hx hb hK (dk_at347 hW) (dkN_in (n := 54) (dkN_lit (x := 0) (0) rfl) rfl) dX6_readsDog_64 ?_
      refine lv_topi (fun v12 ev12 => ?_)
      have ev12 : v12 = I7 347 0 := ev12
      have dv12 : dkN [(0, 9)] v12 := by rw [ev12]; exact (show dkN [(0, 9)] (I7 347 0) from (hO 347 0))
      refine lv_iconst (v := 1) hx hb dX6_readsDog_65 (by decide) ?_
      refine lv_isub hx hb dX6_readsDog_66 ?_
      refine lv_topi (fun v13 ev13 => ?_)
      have dv13 : dkN [(-1, 8)] v13 := by rw [ev13]; exact dkN_subt dv12 (dkN_lit (x := 1) (1) rfl) rfl
      refine dk_Vi (As := [.int 0, .int v13]) (rest := []) ⟨hx, hb, hml, hown, hts⟩ (c_X6_figure_3 l g z I7 0 v13 (dkN_lit (x := 0) (0) rfl) dv13 (show dkN [(0, 2147483647)] (I7 340 8) from dkN_sub f7_340_8 rfl) hO) (cwV 2 hts gX6_readsDog_X6_figure rfl rfl rfl (by decide +kernel) ⟨Nat.le_of_ble_eq_true rfl, Nat.le_of_ble_eq_true rfl⟩) (dk_at340 hW) rfl hK hT hW hS rfl hl.1 rfl (Nat.le_of_ble_eq_true rfl) dX6_readsDog_67 ⟨Nat.zero_le _, Nat.zero_le _⟩ (fun v14 I14 H14 L14 hp14 hW hS => ?_)
      obtain ⟨hF14, hO, hc14⟩ := hp14
      have hF := dkF_call hF hF14 rfl
      obtain ⟨dv14, f14_340_8, -⟩ := hc14
      refine lv_istore_n (lv' := [(3, .int v14), (2, .int v11), (1, .int v2), (0, .ref (z + 340))]) hx hb dX6_readsDog_70 rfl hl (by decide) rfl (fun ls hl => ?_)
      refine lv_aload_n hx hb dX6_readsDog_71 rfl (lv_at hl 3 rfl) ?_
      refine lv_aload_n hx hb dX6_readsDog_72 rfl (lv_at hl 3 rfl) ?_
      refine dk_get (k := 340) hx hb hts iX6_readsDog_6 hown hK (dk_at340 hW) rfl 11 (by decide) (hts (.fieldLink RX6 98 "DogKingsModel" "token" "I") (List.mem_of_getElem? (i := 3) rfl)) rfl dX6_readsDog_73 ?_
      refine lv_topi (fun v15 ev15 => ?_)
      refine lv_iconst (v := 4) hx hb dX6_readsDog_76 (by decide) ?_
      refine lv_icmp_ne (tgt := 84) hx hb dX6_readsDog_77 (by decide) (fun c16 => ?_) (fun c16 => ?_)
      ·
        have d17 : dkN [(-2147483648, 3), (5, 2147483647)] v15 := dkN_ne1 (4) (dkN_top v15) (dkN_lit (x := 4) (4) rfl) (dk_ne c16) rfl
        have f18 : dkN [(-2147483648, 3), (5, 2147483647)] (I14 340 11) := by rw [← ev15]; exact d17
        refine lv_iconst (v := 0) hx hb dX6_readsDog_84 (by decide) ?_
        refine lv_iconst (v := 1) hx hb dX6_readsDog_85 (by decide) ?_
        refine dk_Vi (As := [.int 0, .int 1]) (rest := []) ⟨hx, hb, hml, hown, hts⟩ (c_X6_takes_18 l g z I14 0 1 (dkN_lit (x := 0) (0) rfl) (dkN_lit (x := 1) (1) rfl) (show dkN [(0, 2147483647)] (I14 340 8) from dkN_sub f14_340_8 rfl) hO) (cwV 2 hts gX6_readsDog_X6_takes rfl rfl rfl (by decide +kernel) ⟨Nat.le_of_ble_eq_true rfl, Nat.le_of_ble_eq_true rfl⟩) (dk_at340 hW) rfl hK hT hW hS rfl hl.1 rfl (Nat.le_of_ble_eq_true rfl) dX6_readsDog_86 ⟨Nat.zero_le _, Nat.zero_le _⟩ (fun v19 I19 H19 L19 hp19 hW hS => ?_)
        obtain ⟨hF19, hO, hc19⟩ := hp19
        have hF := dkF_call hF hF19 rfl
        obtain ⟨dv19, f19_340_8, -⟩ := hc19
        refine lv_pop hx hb dX6_readsDog_89 rfl ?_
        refine lv_aload_n hx hb dX6_readsDog_90 rfl (lv_at hl 3 rfl) ?_
        refine dk_Vi (As := []) (rest := []) ⟨hx, hb, hml, hown, hts⟩ (c_X6_isWell_4 l g z I19 (show dkN [(0, 2147483647)] (I19 340 8) from dkN_sub f19_340_8 rfl) hO) (cwV 0 hts gX6_readsDog_X6_isWell rfl rfl rfl (by decide +kernel) ⟨Nat.le_of_ble_eq_true rfl, Nat.le_of_ble_eq_true rfl⟩) (dk_at340 hW) rfl hK hT hW hS rfl hl.1 rfl (Nat.le_of_ble_eq_true rfl) dX6_readsDog_91 ⟨Nat.zero_le _, Nat.zero_le _⟩ (fun v20 I20 H20 L20 hp20 hW hS => ?_)
        obtain ⟨hF20, hO, hc20⟩ := hp20
        have hF := dkF_call hF hF20 rfl
        obtain ⟨dv20, f20_340_8, -⟩ := hc20
        refine lv_if_eq (tgt := 132) hx hb dX6_readsDog_94 (by decide) (fun c21 => ?_) (fun c21 => ?_)
        ·
          exact W.vret hx hb hr (fun t ht hW9 => ⟨⟨I20, rfl, ⟨hF, hO, Or.inr (⟨(show dkN [(0, 2147483647)] (I20 340 8) from dkN_sub f20_340_8 rfl), trivial⟩)⟩, dkW_eq ht hW⟩, hS.F ht⟩) hS.2.2 dX6_readsDog_132
        ·
          exact (dkN_nil (show dkN [] v20 from dkN_ne1 (0) dv20 (dkN_lit (x := 0) (0) rfl) (dk_ne c21) rfl)).elim
      ·
        have d22 : dkN [(4, 4)] v15 := dkN_eq1 (dkN_top v15) (dkN_lit (x := 4) (4) rfl) (congrArg Int32.toInt c16) rfl
        have f23 : dkN [(4, 4)] (I14 340 11) := by rw [← ev15]; exact d22
        refine lv_iconst (v := 1) hx hb dX6_readsDog_80 (by decide) ?_
        refine lv_goto (tgt := 85) hx hb dX6_readsDog_81 (by decide) ?_
        refine lv_iconst (v := 1) hx hb dX6_readsDog_85 (by decide) ?_
        refine dk_Vi (As := [.int 1, .int 1]) (rest := []) ⟨hx, hb, hml, hown, hts⟩ (c_X6_takes_19 l g z I14 1 1 (dkN_lit (x := 1) (1) rfl) (dkN_lit (x := 1) (1) rfl) (show dkN [(0, 2147483647)] (I14 340 8) from dkN_sub f14_340_8 rfl) hO) (cwV 2 hts gX6_readsDog_X6_takes rfl rfl rfl (by decide +kernel) ⟨Nat.le_of_ble_eq_true rfl, Nat.le_of_ble_eq_true rfl⟩) (dk_at340 hW) rfl hK hT hW hS rfl hl.1 rfl (Nat.le_of_ble_eq_true rfl) dX6_readsDog_86 ⟨Nat.zero_le _, Nat.zero_le _⟩ (fun v24 I24 H24 L24 hp24 hW hS => ?_)
        obtain ⟨hF24, hO, hc24⟩ := hp24
        have hF := dkF_call hF hF24 rfl
        obtain ⟨dv24, f24_340_8, -⟩ := hc24
        refine lv_pop hx hb dX6_readsDog_89 rfl ?_
        refine lv_aload_n hx hb dX6_readsDog_90 rfl (lv_at hl 3 rfl) ?_
        refine dk_Vi (As := []) (rest := []) ⟨hx, hb, hml, hown, hts⟩ (c_X6_isWell_4 l g z I24 (show dkN [(0, 2147483647)] (I24 340 8) from dkN_sub f24_340_8 rfl) hO) (cwV 0 hts gX6_readsDog_X6_isWell rfl rfl rfl (by decide +kernel) ⟨Nat.le_of_ble_eq_true rfl, Nat.le_of_ble_eq_true rfl⟩) (dk_at340 hW) rfl hK hT hW hS rfl hl.1 rfl (Nat.le_of_ble_eq_true rfl) dX6_readsDog_91 ⟨Nat.zero_le _, Nat.zero_le _⟩ (fun v25 I25 H25 L25 hp25 hW hS => ?_)
        obtain ⟨hF25, hO, hc25⟩ := hp25
        have hF := dkF_call hF hF25 rfl
        obtain ⟨dv25, f25_340_8, -⟩ := hc25
        refine lv_if_eq (tgt := 132) hx hb dX6_readsDog_94 (by decide) (fun c26 => ?_) (fun c26 => ?_)
        ·
          exact W.vret hx hb hr (fun t ht hW9 => ⟨⟨I25, rfl, ⟨hF, hO, Or.inr (⟨(show dkN [(0, 2147483647)] (I25 340 8) from dkN_sub f25_340_8 rfl), trivial⟩)⟩, dkW_eq ht hW⟩, hS.F ht⟩) hS.2.2 dX6_readsDog_132
        ·
          exact (dkN_nil (show dkN [] v25 from dkN_ne1 (0) dv25 (dkN_lit (x := 0) (0) rfl) (dk_ne c26) rfl)).elim
    ·
      exact (dkN_nil (show dkN [] 6 from dkN_le2 1 dv8 (dkN_lit (x := 6) (6) rfl) (dkc_nle c9) rfl)).elim
  ·
    have d27 : dkN [(0, 5)] v3 := dkN_le1 1 dv3 (dkN_lit (x := 6) (6) rfl) (dkc_nle c4) rfl
    have f28 : dkN [(0, 5)] (I2 347 5) := by rw [← ev3]; exact d27
    refine lv_iconst (v := 1) hx hb dX6_readsDog_20 (by decide) ?_
    refine lv_goto (tgt := 25) hx hb dX6_readsDog_21 (by decide) ?_
    refine lv_iconst (v := 3) hx hb dX6_readsDog_25 (by decide) ?_
    refine dk_Vi (As := [.int 1, .int 3]) (rest := []) ⟨hx, hb, hml, hown, hts⟩ (c_X6_takes_20 l g z I2 1 3 (dkN_lit (x := 1) (1) rfl) (dkN_lit (x := 3) (3) rfl) hO) (cwV 2 hts gX6_readsDog_X6_takes rfl rfl rfl (by decide +kernel) ⟨Nat.le_of_ble_eq_true rfl, Nat.le_of_ble_eq_true rfl⟩) (dk_at340 hW) rfl hK hT hW hS rfl hl.1 rfl (Nat.le_of_ble_eq_true rfl) dX6_readsDog_26 ⟨Nat.zero_le _, Nat.zero_le _⟩ (fun v29 I29 H29 L29 hp29 hW hS => ?_)
    obtain ⟨hF29, hO, hc29⟩ := hp29
    have hF := dkF_call hF hF29 rfl
    obtain ⟨_, -⟩ := hc29
    refine lv_pop hx hb dX6_readsDog_29 rfl ?_
    refine lv_bipush (v := 36) hx hb dX6_readsDog_30 (by decide) ?_
    refine lv_iconst (v := 3) hx hb dX6_readsDog_32 (by decide) ?_
    refine lv_aload_n hx hb dX6_readsDog_33 rfl (lv_at hl 1 rfl) ?_
    refine dk_get (k := 340) hx hb hts iX6_readsDog_6 hown hK (dk_at340 hW) rfl 14 (by decide) (hts (.fieldLink RX6 28 "DogKingsModel" "draft" "[I") (List.mem_of_getElem? (i := 2) rfl)) rfl dX6_readsDog_34 ?_
    refine lv_iconst (v := 5) hx hb dX6_readsDog_37 (by decide) ?_
    refine dk_ild (k := 347) hx hb hK (dk_at347 hW) (dkN_in (n := 54) (dkN_lit (x := 5) (5) rfl) rfl) dX6_readsDog_38 ?_
    refine lv_topi (fun v30 ev30 => ?_)
    have ev30 : v30 = I29 347 5 := ev30
    have dv30 : dkN [(0, 5)] v30 := by rw [ev30]; exact (show dkN [(0, 5)] (I29 347 5) from (by rw [hF29 347 5 rfl]; exact f28))
    refine lv_bipush (v := 6) hx hb dX6_readsDog_39 (by decide) ?_
    refine lv_icmp_ge (tgt := 53) hx hb dX6_readsDog_41 (by decide) (fun c31 => ?_) (fun c31 => ?_)
    ·
      exact (dkN_nil (show dkN [] 6 from dkN_le1 0 (dkN_lit (x := 6) (6) rfl) dv30 (dkc_le c31) rfl)).elim
    ·
      refine lv_aload_n hx hb dX6_readsDog_44 rfl (lv_at hl 1 rfl) ?_
      refine dk_get (k := 340) hx hb hts iX6_readsDog_6 hown hK (dk_at340 hW) rfl 14 (by decide) (hts (.fieldLink RX6 28 "DogKingsModel" "draft" "[I") (List.mem_of_getElem? (i := 2) rfl)) rfl dX6_readsDog_45 ?_
      refine lv_iconst (v := 5) hx hb dX6_readsDog_48 (by decide) ?_
      refine dk_ild (k := 347) hx hb hK (dk_at347 hW) (dkN_in (n := 54) (dkN_lit (x := 5) (5) rfl) rfl) dX6_readsDog_49 ?_
      refine lv_topi (fun v32 ev32 => ?_)
      have ev32 : v32 = I29 347 5 := ev32
      have dv32 : dkN [(0, 5)] v32 := by rw [ev32]; exact (show dkN [(0, 5)] (I29 347 5) from (by rw [hF29 347 5 rfl]; exact f28))
      refine lv_goto (tgt := 54) hx hb dX6_readsDog_50 (by decide) ?_
      refine lv_imul hx hb dX6_readsDog_54 ?_
      refine lv_topi (fun v33 ev33 => ?_)
      have dv33 : dkN [(0, 0), (3, 3), (6, 6), (9, 9), (12, 12), (15, 15)] v33 := by rw [ev33]; exact dkN_mulPt 3 (dkN_lit (x := 3) (3) rfl) dv32 rfl
      refine lv_iadd hx hb dX6_readsDog_55 ?_
      refine lv_topi (fun v34 ev34 => ?_)
      have dv34 : dkN [(36, 36), (39, 39), (42, 42), (45, 45), (48, 48), (51, 51)] v34 := by rw [ev34]; exact dkN_add (dkN_lit (x := 36) (36) rfl) dv33 rfl
      refine lv_istore_n (lv' := [(2, .int v34), (1, .int v2), (0, .ref (z + 340))]) hx hb dX6_readsDog_56 rfl hl (by decide) rfl (fun ls hl => ?_)
      refine lv_aload_n hx hb dX6_readsDog_57 rfl (lv_at hl 2 rfl) ?_
      refine lv_iconst (v := 0) hx hb dX6_readsDog_58 (by decide) ?_
      refine lv_aload_n hx hb dX6_readsDog_59 rfl (lv_at hl 2 rfl) ?_
      refine dk_get (k := 340) hx hb hts iX6_readsDog_6 hown hK (dk_at340 hW) rfl 14 (by decide) (hts (.fieldLink RX6 28 "DogKingsModel" "draft" "[I") (List.mem_of_getElem? (i := 2) rfl)) rfl dX6_readsDog_60 ?_
      refine lv_iconst (v := 0) hx hb dX6_readsDog_63 (by decide) ?_
      refine dk_ild (k := 347) hx hb hK (dk_at347 hW) (dkN_in (n := 54) (dkN_lit (x := 0) (0) rfl) rfl) dX6_readsDog_64 ?_
      refine lv_topi (fun v35 ev35 => ?_)
      have ev35 : v35 = I29 347 0 := ev35
      have dv35 : dkN [(0, 9)] v35 := by rw [ev35]; exact (show dkN [(0, 9)] (I29 347 0) from (hO 347 0))
      refine lv_iconst (v := 1) hx hb dX6_readsDog_65 (by decide) ?_
      refine lv_isub hx hb dX6_readsDog_66 ?_
      refine lv_topi (fun v36 ev36 => ?_)
      have dv36 : dkN [(-1, 8)] v36 := by rw [ev36]; exact dkN_subt dv35 (dkN_lit (x := 1) (1) rfl) rfl
      refine dk_Vi (As := [.int 0, .int v36]) (rest := []) ⟨hx, hb, hml, hown, hts⟩ (c_X6_figure_6 l g z I29 0 v36 (dkN_lit (x := 0) (0) rfl) dv36 hO) (cwV 2 hts gX6_readsDog_X6_figure rfl rfl rfl (by decide +kernel) ⟨Nat.le_of_ble_eq_true rfl, Nat.le_of_ble_eq_true rfl⟩) (dk_at340 hW) rfl hK hT hW hS rfl hl.1 rfl (Nat.le_of_ble_eq_true rfl) dX6_readsDog_67 ⟨Nat.zero_le _, Nat.zero_le _⟩ (fun v37 I37 H37 L37 hp37 hW hS => ?_)
      obtain ⟨hF37, hO, hc37⟩ := hp37
      have hF := dkF_call hF hF37 rfl
      obtain ⟨dv37, -⟩ := hc37
      refine lv_istore_n (lv' := [(3, .int v37), (2, .int v34), (1, .int v2), (0, .ref (z + 340))]) hx hb dX6_readsDog_70 rfl hl (by decide) rfl (fun ls hl => ?_)
      refine lv_aload_n hx hb dX6_readsDog_71 rfl (lv_at hl 3 rfl) ?_
      refine lv_aload_n hx hb dX6_readsDog_72 rfl (lv_at hl 3 rfl) ?_
      refine dk_get (k := 340) hx hb hts iX6_readsDog_6 hown hK (dk_at340 hW) rfl 11 (by decide) (hts (.fieldLink RX6 98 "DogKingsModel" "token" "I") (List.mem_of_getElem? (i := 3) rfl)) rfl dX6_readsDog_73 ?_
      refine lv_topi (fun v38 ev38 => ?_)
      refine lv_iconst (v := 4) hx hb dX6_readsDog_76 (by decide) ?_
      refine lv_icmp_ne (tgt := 84) hx hb dX6_readsDog_77 (by decide) (fun c39 => ?_) (fun c39 => ?_)
      ·
        have d40 : dkN [(-2147483648, 3), (5, 2147483647)] v38 := dkN_ne1 (4) (dkN_top v38) (dkN_lit (x := 4) (4) rfl) (dk_ne c39) rfl
        have f41 : dkN [(-2147483648, 3), (5, 2147483647)] (I37 340 11) := by rw [← ev38]; exact d40
        refine lv_iconst (v := 0) hx hb dX6_readsDog_84 (by decide) ?_
        refine lv_iconst (v := 1) hx hb dX6_readsDog_85 (by decide) ?_
        refine dk_Vi (As := [.int 0, .int 1]) (rest := []) ⟨hx, hb, hml, hown, hts⟩ (c_X6_takes_29 l g z I37 0 1 (dkN_lit (x := 0) (0) rfl) (dkN_lit (x := 1) (1) rfl) hO) (cwV 2 hts gX6_readsDog_X6_takes rfl rfl rfl (by decide +kernel) ⟨Nat.le_of_ble_eq_true rfl, Nat.le_of_ble_eq_true rfl⟩) (dk_at340 hW) rfl hK hT hW hS rfl hl.1 rfl (Nat.le_of_ble_eq_true rfl) dX6_readsDog_86 ⟨Nat.zero_le _, Nat.zero_le _⟩ (fun v42 I42 H42 L42 hp42 hW hS => ?_)
        obtain ⟨hF42, hO, hc42⟩ := hp42
        have hF := dkF_call hF hF42 rfl
        obtain ⟨dv42, f42_340_8, -⟩ := hc42
        refine lv_pop hx hb dX6_readsDog_89 rfl ?_
        refine lv_aload_n hx hb dX6_readsDog_90 rfl (lv_at hl 3 rfl) ?_
        refine dk_Vi (As := []) (rest := []) ⟨hx, hb, hml, hown, hts⟩ (c_X6_isWell_4 l g z I42 (show dkN [(0, 2147483647)] (I42 340 8) from dkN_sub f42_340_8 rfl) hO) (cwV 0 hts gX6_readsDog_X6_isWell rfl rfl rfl (by decide +kernel) ⟨Nat.le_of_ble_eq_true rfl, Nat.le_of_ble_eq_true rfl⟩) (dk_at340 hW) rfl hK hT hW hS rfl hl.1 rfl (Nat.le_of_ble_eq_true rfl) dX6_readsDog_91 ⟨Nat.zero_le _, Nat.zero_le _⟩ (fun v43 I43 H43 L43 hp43 hW hS => ?_)
        obtain ⟨hF43, hO, hc43⟩ := hp43
        have hF := dkF_call hF hF43 rfl
        obtain ⟨dv43, f43_340_8, -⟩ := hc43
        refine lv_if_eq (tgt := 132) hx hb dX6_readsDog_94 (by decide) (fun c44 => ?_) (fun c44 => ?_)
        ·
          exact W.vret hx hb hr (fun t ht hW9 => ⟨⟨I43, rfl, ⟨hF, hO, Or.inr (⟨(show dkN [(0, 2147483647)] (I43 340 8) from dkN_sub f43_340_8 rfl), trivial⟩)⟩, dkW_eq ht hW⟩, hS.F ht⟩) hS.2.2 dX6_readsDog_132
        ·
          exact (dkN_nil (show dkN [] v43 from dkN_ne1 (0) dv43 (dkN_lit (x := 0) (0) rfl) (dk_ne c44) rfl)).elim
      ·
        have d45 : dkN [(4, 4)] v38 := dkN_eq1 (dkN_top v38) (dkN_lit (x := 4) (4) rfl) (congrArg Int32.toInt c39) rfl
        have f46 : dkN [(4, 4)] (I37 340 11) := by rw [← ev38]; exact d45
        refine lv_iconst (v := 1) hx hb dX6_readsDog_80 (by decide) ?_
        refine lv_goto (tgt := 85) hx hb dX6_readsDog_81 (by decide) ?_
        refine lv_iconst (v := 1) hx hb dX6_readsDog_85 (by decide) ?_
        refine dk_Vi (As := [.int 1, .int 1]) (rest := []) ⟨hx, hb, hml, hown, hts⟩ (c_X6_takes_30 l g z I37 1 1 (dkN_lit (x := 1) (1) rfl) (dkN_lit (x := 1) (1) rfl) hO) (cwV 2 hts gX6_readsDog_X6_takes rfl rfl rfl (by decide +kernel) ⟨Nat.le_of_ble_eq_true rfl, Nat.le_of_ble_eq_true rfl⟩) (dk_at340 hW) rfl hK hT hW hS rfl hl.1 rfl (Nat.le_of_ble_eq_true rfl) dX6_readsDog_86 ⟨Nat.zero_le _, Nat.zero_le _⟩ (fun v47 I47 H47 L47 hp47 hW hS => ?_)
        obtain ⟨hF47, hO, hc47⟩ := hp47
        have hF := dkF_call hF hF47 rfl
        obtain ⟨_, -⟩ := hc47
        refine lv_pop hx hb dX6_readsDog_89 rfl ?_
        refine lv_aload_n hx hb dX6_readsDog_90 rfl (lv_at hl 3 rfl) ?_
        refine dk_Vi (As := []) (rest := []) ⟨hx, hb, hml, hown, hts⟩ (c_X6_isWell_3 l g z I47 hO) (cwV 0 hts gX6_readsDog_X6_isWell rfl rfl rfl (by decide +kernel) ⟨Nat.le_of_ble_eq_true rfl, Nat.le_of_ble_eq_true rfl⟩) (dk_at340 hW) rfl hK hT hW hS rfl hl.1 rfl (Nat.le_of_ble_eq_true rfl) dX6_readsDog_91 ⟨Nat.zero_le _, Nat.zero_le _⟩ (fun v48 I48 H48 L48 hp48 hW hS => ?_)
        obtain ⟨hF48, hO, hc48⟩ := hp48
        have hF := dkF_call hF hF48 rfl
        rcases hc48 with ⟨dv48, f48_340_8, -⟩ | hc48
        ·
          refine lv_if_eq (tgt := 132) hx hb dX6_readsDog_94 (by decide) (fun c49 => ?_) (fun c49 => ?_)
          ·
            exact W.vret hx hb hr (fun t ht hW9 => ⟨⟨I48, rfl, ⟨hF, hO, Or.inr (⟨(show dkN [(0, 2147483647)] (I48 340 8) from dkN_sub f48_340_8 rfl), trivial⟩)⟩, dkW_eq ht hW⟩, hS.F ht⟩) hS.2.2 dX6_readsDog_132
          ·
            exact (dkN_nil (show dkN [] v48 from dkN_ne1 (0) dv48 (dkN_lit (x := 0) (0) rfl) (dk_ne c49) rfl)).elim
        ·
          obtain ⟨dv48, f48_340_8, -⟩ := hc48
          refine lv_if_eq (tgt := 132) hx hb dX6_readsDog_94 (by decide) (fun c50 => ?_) (fun c50 => ?_)
          ·
            exact (dkN_nil (show dkN [] v48 from dkN_eq1 dv48 (dkN_lit (x := 0) (0) rfl) (congrArg Int32.toInt c50) rfl)).elim
          ·
            refine lv_aload_n hx hb dX6_readsDog_97 rfl (lv_at hl 3 rfl) ?_
            refine dk_get (k := 340) hx hb hts iX6_readsDog_6 hown hK (dk_at340 hW) rfl 14 (by decide) (hts (.fieldLink RX6 28 "DogKingsModel" "draft" "[I") (List.mem_of_getElem? (i := 2) rfl)) rfl dX6_readsDog_98 ?_
            refine lv_iload_n hx hb dX6_readsDog_101 rfl (lv_at hl 1 rfl) ?_
            refine lv_iload_n hx hb dX6_readsDog_102 rfl (lv_at hl 2 rfl) ?_
            refine dk_ist (k := 347) hx hb hK hW (fun _ => rfl) (by decide) hS (dkN_in (n := 54) dv34 rfl) dX6_readsDog_103 (fun I51 H51 L51 eI51 hW hS => ?_)
            have hO := dkO_set hO eI51 (by rw [dkB_w (k := 347) (B := [(-2147483648, 2147483647)]) (by decide) dv34 rfl]; exact dkN_top _)
            have hF := dkF_set hF eI51 (dkIn_v dv34 rfl)
            refine lv_aload_n hx hb dX6_readsDog_104 rfl (lv_at hl 3 rfl) ?_
            refine dk_get (k := 340) hx hb hts iX6_readsDog_6 hown hK (dk_at340 hW) rfl 14 (by decide) (hts (.fieldLink RX6 28 "DogKingsModel" "draft" "[I") (List.mem_of_getElem? (i := 2) rfl)) rfl dX6_readsDog_105 ?_
            refine lv_iload_n hx hb dX6_readsDog_108 rfl (lv_at hl 1 rfl) ?_
            refine lv_iconst (v := 1) hx hb dX6_readsDog_109 (by decide) ?_
            refine lv_iadd hx hb dX6_readsDog_110 ?_
            refine lv_topi (fun v52 ev52 => ?_)
            have dv52 : dkN [(37, 37), (40, 40), (43, 43), (46, 46), (49, 49), (52, 52)] v52 := by rw [ev52]; exact dkN_add dv34 (dkN_lit (x := 1) (1) rfl) rfl
            refine lv_iload_n hx hb dX6_readsDog_111 rfl (lv_at hl 0 rfl) ?_
            refine dk_ist (k := 347) hx hb hK hW (fun _ => rfl) (by decide) hS (dkN_in (n := 54) dv52 rfl) dX6_readsDog_112 (fun I53 H53 L53 eI53 hW hS => ?_)
            have hO := dkO_set hO eI53 (by rw [dkB_w (k := 347) (B := [(-2147483648, 2147483647)]) (by decide) dv52 rfl]; exact dkN_top _)
            have hF := dkF_set hF eI53 (dkIn_v dv52 rfl)
            refine lv_aload_n hx hb dX6_readsDog_113 rfl (lv_at hl 3 rfl) ?_
            refine dk_get (k := 340) hx hb hts iX6_readsDog_6 hown hK (dk_at340 hW) rfl 14 (by decide) (hts (.fieldLink RX6 28 "DogKingsModel" "draft" "[I") (List.mem_of_getElem? (i := 2) rfl)) rfl dX6_readsDog_114 ?_
            refine lv_iload_n hx hb dX6_readsDog_117 rfl (lv_at hl 1 rfl) ?_
            refine lv_iconst (v := 2) hx hb dX6_readsDog_118 (by decide) ?_
            refine lv_iadd hx hb dX6_readsDog_119 ?_
            refine lv_topi (fun v54 ev54 => ?_)
            have dv54 : dkN [(38, 38), (41, 41), (44, 44), (47, 47), (50, 50), (53, 53)] v54 := by rw [ev54]; exact dkN_add dv34 (dkN_lit (x := 2) (2) rfl) rfl
            refine lv_iload_n hx hb dX6_readsDog_120 rfl (lv_at hl 0 rfl) ?_
            refine dk_ist (k := 347) hx hb hK hW (fun _ => rfl) (by decide) hS (dkN_in (n := 54) dv54 rfl) dX6_readsDog_121 (fun I55 H55 L55 eI55 hW hS => ?_)
            have hO := dkO_set hO eI55 (by rw [dkB_w (k := 347) (B := [(-2147483648, 2147483647)]) (by decide) dv54 rfl]; exact dkN_top _)
            have hF := dkF_set hF eI55 (dkIn_v dv54 rfl)
            refine lv_aload_n hx hb dX6_readsDog_122 rfl (lv_at hl 3 rfl) ?_
            refine dk_get (k := 340) hx hb hts iX6_readsDog_6 hown hK (dk_at340 hW) rfl 14 (by decide) (hts (.fieldLink RX6 28 "DogKingsModel" "draft" "[I") (List.mem_of_getElem? (i := 2) rfl)) rfl dX6_readsDog_123 ?_
            refine lv_iconst (v := 5) hx hb dX6_readsDog_126 (by decide) ?_
            refine lv_dup2_11 hx hb dX6_readsDog_127 rfl rfl ?_
            refine dk_ild (k := 347) hx hb hK (dk_at347 hW) (dkN_in (n := 54) (dkN_lit (x := 5) (5) rfl) rfl) dX6_readsDog_128 ?_
            refine lv_topi (fun v56 ev56 => ?_)
            have ev56 : v56 = I55 347 5 := ev56
            have dv56 : dkN [(0, 5)] v56 := by rw [ev56]; exact (show dkN [(0, 5)] (I55 347 5) from (by rw [eI55, dkU_sn (dkN_njx dv54 rfl)]; exact (by rw [eI53, dkU_sn (dkN_njx dv52 rfl)]; exact (by rw [eI51, dkU_sn (dkN_njx dv34 rfl)]; exact (by rw [hF48 347 5 rfl]; exact (by rw [hF47 347 5 rfl]; exact (by rw [hF37 347 5 rfl]; exact (by rw [hF29 347 5 rfl]; exact f28))))))))
            refine lv_iconst (v := 1) hx hb dX6_readsDog_129 (by decide) ?_
            refine lv_iadd hx hb dX6_readsDog_130 ?_
            refine lv_topi (fun v57 ev57 => ?_)
            have dv57 : dkN [(1, 6)] v57 := by rw [ev57]; exact dkN_add dv56 (dkN_lit (x := 1) (1) rfl) rfl
            refine dk_ist (k := 347) hx hb hK hW (fun _ => rfl) (by decide) hS (dkN_in (n := 54) (dkN_lit (x := 5) (5) rfl) rfl) dX6_readsDog_131 (fun I58 H58 L58 eI58 hW hS => ?_)
            have eI58 : I58 = dkU I55 347 5 v57 := eI58
            have hO := dkO_set hO eI58 (dkN_sub dv57 rfl)
            have hF := dkF_set hF eI58 rfl
            exact W.vret hx hb hr (fun t ht hW9 => ⟨⟨I58, rfl, ⟨hF, hO, Or.inl ⟨(show dkN [(-2147483648, -1)] (I58 340 8) from dkN_sub (by rw [eI58, dkU_n (by decide)]; exact (by rw [eI55, dkU_n (by decide)]; exact (by rw [eI53, dkU_n (by decide)]; exact (by rw [eI51, dkU_n (by decide)]; exact f48_340_8)))) rfl), (show dkN [(1, 6)] (I58 347 5) from dkN_sub (by rw [eI58, dkU_ss]; exact dv57) rfl), dk_incEq (by rw [eI58, dkU_ss, ev57] : I58 347 5 = v56 + 1) (ev56.trans ((by rw [eI55, dkU_sn (dkN_njx dv54 rfl)] : I55 347 5 = _).trans ((by rw [eI53, dkU_sn (dkN_njx dv52 rfl)] : I53 347 5 = _).trans ((by rw [eI51, dkU_sn (dkN_njx dv34 rfl)] : I51 347 5 = _).trans ((hF48 347 5 rfl).trans ((hF47 347 5 rfl).trans ((hF37 347 5 rfl).trans ((hF29 347 5 rfl).trans ((hF2 347 5 rfl).trans rfl))))))))), trivial⟩⟩, dkW_eq ht hW⟩, hS.F ht⟩) hS.2.2 dX6_readsDog_132
set_option maxHeartbeats 4000000 in
set_option maxRecDepth 100000 in
theorem c_X6_town_0 (l : Launch) (g : dkG) (z : Nat) (I0 : dkI)  (hO : dkOk I0) (hP : dkPP I0) : Met l yX6_town wsX6_town (dkR 6) (dkPc g z [.ref (z + 340)] I0) (dkQi g z (fun r I1 => dkF [(340, 340, 6, 12), (340, 340, 17, 17), (346, 346, 0, 53), (347, 347, 0, 53)] I0 I1 ∧ dkOk I1 ∧ dkPP I1 ∧ ((True ∧ dkN [(0, 0)] (I1 340 6) ∧ dkN [(0, 0), (3, 9)] (I1 347 0) ∧ True)))) 0 0 (dkA z) := by
  refine Met.ofW (cc := cX6_town) (maxL := 2) (ret := (some .int)) (by decide) rfl ?_
  intro p e s m args below meth c s₁ B hml hv
  obtain ⟨ha, hW, hK, hT⟩ := hv
  have hx := B.exec
  have hb := B.bytes
  have hr := B.returns
  have hts := atoms_spec (ws := wsX6_town) B.pre
  have hown : s.vm.findClass RX6 = some m.cls := findClass_of_methodNamed B.named
  have hlocks := B.notSynchronized
  have hS : va_S (dkA z) s.heap s.heap [] := va_S.rf
  have hF : dkF [(340, 340, 6, 12), (340, 340, 17, 17), (346, 346, 0, 53), (347, 347, 0, 53)] I0 I0 := dkF_rf _ _
  have hl := lv_entry ([.ref (z + 340)]) (n := 2) (Nat.le_of_ble_eq_true rfl)
  have hgo : entryFrame m args 2 = entryFrame m ([.ref (z + 340)] : List Value).toArray 2 := by rw [ha]
  rw [hgo, lg_entry_eq]
  generalize (lg_sl ([.ref (z + 340)]) ++ List.replicate (2 - (lg_sl ([.ref (z + 340)])).length) Slot.unset).toArray = ls at hl ⊢
  have hl : lv_has ls 2 [(0, .ref (z + 340))] := hl
  have C165 : ∀ (n : Nat), ∀ (I : dkI) (H : Heap) (locs : List Loc) (ls : Array Slot) (x165_1 : Int32), (7 - (I 347 5).toInt).toNat < n → dkW g z I H → va_S (dkA z) s.heap H locs → dkF [(340, 340, 6, 12), (340, 340, 17, 17), (346, 346, 0, 53), (347, 347, 0, 53)] I0 I → dkOk I → dkPP I → dkN [(54, 54)] x165_1 → dkN [(-2147483648, -1)] (I 340 8) → dkN [(0, 0), (3, 9)] (I 347 0) → dkN [(1, 5)] (I 347 4) → lv_has ls 2 [(0, .ref (z + 340)), (1, .int x165_1)] → W p l e (headSpec wsX6_town (dkR 6)).room s m args below meth c H locs 0 0 (MQ below (dkQi g z (fun r I1 => dkF [(340, 340, 6, 12), (340, 340, 17, 17), (346, 346, 0, 53), (347, 347, 0, 53)] I0 I1 ∧ dkOk I1 ∧ dkPP I1 ∧ ((True ∧ dkN [(0, 0)] (I1 340 6) ∧ dkN [(0, 0), (3, 9)] (I1 347 0) ∧ True)))) args s 0 0 (dkA z)) (F0 m 165 ls []) := by
    intro n
    induction n with
    | zero => intro I H locs ls x165_1 hn; exact absurd hn (Nat.not_lt_zero _)
    | succ n ih165 =>
      intro I165_ H locs ls x165_1 hn165 hW hS hF_165 hO hP k165_0 f165_0 f165_1 f165_2 hl
      have hF := hF_165
      refine lv_aload_n hx hb dX6_town_165 rfl (lv_at hl 0 rfl) ?_
      refine dk_Vi (As := []) (rest := []) ⟨hx, hb, hml, hown, hts⟩ (c_X6_isWell_5 l g z I165_ (show dkN [(-2147483648, -1)] (I165_ 340 8) from dkN_sub f165_0 rfl) hO) (cwV 0 hts gX6_town_X6_isWell rfl rfl rfl (by decide +kernel) ⟨Nat.le_of_ble_eq_true rfl, Nat.le_of_ble_eq_true rfl⟩) (dk_at340 hW) rfl hK hT hW hS rfl hl.1 rfl (Nat.le_of_ble_eq_true rfl) dX6_town_166 ⟨Nat.zero_le _, Nat.zero_le _⟩ (fun v1 I1 H1 L1 hp1 hW hS => ?_)
      obtain ⟨hF1, hO, hc1⟩ := hp1
      have hF := dkF_call hF hF1 rfl
      have hP := dkPP_F hP hF1 rfl
      obtain ⟨dv1, f1_340_8, -⟩ := hc1
      refine lv_if_eq (tgt := 197) hx hb dX6_town_169 (by decide) (fun c2 => ?_) (fun c2 => ?_)
      ·
        exact (dkN_nil (show dkN [] v1 from dkN_eq1 dv1 (dkN_lit (x := 0) (0) rfl) (congrArg Int32.toInt c2) rfl)).elim
      ·
        refine lv_aload_n hx hb dX6_town_172 rfl (lv_at hl 0 rfl) ?_
        refine dk_get (k := 340) hx hb hts iX6_town_6 hown hK (dk_at340 hW) rfl 11 (by decide) (hts (.fieldLink RX6 98 "DogKingsModel" "token" "I") (List.mem_of_getElem? (i := 4) rfl)) rfl dX6_town_173 ?_
        refine lv_topi (fun v3 ev3 => ?_)
        refine lv_iconst (v := 1) hx hb dX6_town_176 (by decide) ?_
        refine lv_icmp_ne (tgt := 197) hx hb dX6_town_177 (by decide) (fun c4 => ?_) (fun c4 => ?_)
        ·
          have d5 : dkN [(-2147483648, 0), (2, 2147483647)] v3 := dkN_ne1 (1) (dkN_top v3) (dkN_lit (x := 1) (1) rfl) (dk_ne c4) rfl
          have f6 : dkN [(-2147483648, 0), (2, 2147483647)] (I1 340 11) := by rw [← ev3]; exact d5
          refine lv_aload_n hx hb dX6_town_197 rfl (lv_at hl 0 rfl) ?_
          refine lv_aload_n hx hb dX6_town_198 rfl (lv_at hl 0 rfl) ?_
          refine dk_get (k := 340) hx hb hts iX6_town_6 hown hK (dk_at340 hW) rfl 11 (by decide) (hts (.fieldLink RX6 98 "DogKingsModel" "token" "I") (List.mem_of_getElem? (i := 4) rfl)) rfl dX6_town_199 ?_
          refine lv_topi (fun v7 ev7 => ?_)
          have dv7 : dkN [(-2147483648, 0), (2, 2147483647)] v7 := by rw [ev7]; exact f6
          refine lv_if_ne (tgt := 209) hx hb dX6_town_202 (by decide) (fun c8 => ?_) (fun c8 => ?_)
          ·
            have d9 : dkN [(-2147483648, -1), (2, 2147483647)] v7 := dkN_ne1 (0) dv7 (dkN_lit (x := 0) (0) rfl) (dk_ne c8) rfl
            have f10 : dkN [(-2147483648, -1), (2, 2147483647)] (I1 340 11) := by rw [← ev7]; exact d9
            refine lv_iconst (v := 0) hx hb dX6_town_209 (by decide) ?_
            refine dk_Vv (As := [.int 0]) (rest := []) ⟨hx, hb, hml, hown, hts⟩ (c_X6_must_6 l g z I1 0 (dkN_lit (x := 0) (0) rfl) (show dkN [(-2147483648, -1)] (I1 340 8) from dkN_sub f1_340_8 rfl) hO) (cwV 1 hts gX6_town_X6_must rfl rfl rfl (by decide +kernel) ⟨Nat.le_of_ble_eq_true rfl, Nat.le_of_ble_eq_true rfl⟩) (dk_at340 hW) rfl hK hT hW hS rfl hl.1 rfl (Nat.le_of_ble_eq_true rfl) dX6_town_210 ⟨Nat.zero_le _, Nat.zero_le _⟩ (fun I11 H11 L11 hp11 hW hS => ?_)
            obtain ⟨hF11, hO, hc11⟩ := hp11
            have hF := dkF_call hF hF11 rfl
            have hP := dkPP_F hP hF11 rfl
            obtain ⟨f11_340_7, f11_340_8, -⟩ := hc11
            refine lv_aload_n hx hb dX6_town_213 rfl (lv_at hl 0 rfl) ?_
            refine lv_iconst (v := 0) hx hb dX6_town_214 (by decide) ?_
            refine dk_put (k := 340) hx hb hts iX6_town_6 tyX6 tyX6_ok nmX6 hown hK hW (dk_at340 hW) hS rfl 6 (by decide) (hts (.fieldLink RX6 82 "DogKingsModel" "taped" "I") (List.mem_of_getElem? (i := 6) rfl)) rfl rfl (Nat.le_of_ble_eq_true rfl) rfl dX6_town_215 (fun I12 H12 L12 eI12 hW hS => ?_)
            have eI12 : I12 = dkU I11 340 6 0 := eI12
            have hO := dkO_set hO eI12 (dkN_sub (dkN_lit (x := 0) (0) rfl) rfl)
            have hF := dkF_set hF eI12 rfl
            have hP := dkPP_set hP eI12 rfl
            refine lv_aload_n hx hb dX6_town_218 rfl (lv_at hl 0 rfl) ?_
            refine dk_Vi (As := []) (rest := []) ⟨hx, hb, hml, hown, hts⟩ (c_X6_isWell_2 l g z I12 (show dkN [(0, 90)] (I12 340 8) from dkN_sub (by rw [eI12, dkU_sn (by decide)]; exact f11_340_8) rfl) hO) (cwV 0 hts gX6_town_X6_isWell rfl rfl rfl (by decide +kernel) ⟨Nat.le_of_ble_eq_true rfl, Nat.le_of_ble_eq_true rfl⟩) (dk_at340 hW) rfl hK hT hW hS rfl hl.1 rfl (Nat.le_of_ble_eq_true rfl) dX6_town_219 ⟨Nat.zero_le _, Nat.zero_le _⟩ (fun v13 I13 H13 L13 hp13 hW hS => ?_)
            obtain ⟨hF13, hO, hc13⟩ := hp13
            have hF := dkF_call hF hF13 rfl
            have hP := dkPP_F hP hF13 rfl
            obtain ⟨dv13, f13_340_8, -⟩ := hc13
            refine lv_if_ne (tgt := 233) hx hb dX6_town_222 (by decide) (fun c14 => ?_) (fun c14 => ?_)
            ·
              exact (dkN_nil (show dkN [] v13 from dkN_ne1 (0) dv13 (dkN_lit (x := 0) (0) rfl) (dk_ne c14) rfl)).elim
            ·
              refine lv_ldc (v := (-1000100)) hx hb hown (hts (.constant RX6 137 (-1000100)) (List.mem_of_getElem? (i := 7) rfl)) dX6_town_225 ?_
              refine lv_aload_n hx hb dX6_town_227 rfl (lv_at hl 0 rfl) ?_
              refine dk_get (k := 340) hx hb hts iX6_town_6 hown hK (dk_at340 hW) rfl 8 (by decide) (hts (.fieldLink RX6 101 "DogKingsModel" "faultPlace" "I") (List.mem_of_getElem? (i := 3) rfl)) rfl dX6_town_228 ?_
              refine lv_topi (fun v15 ev15 => ?_)
              have dv15 : dkN [(0, 90)] v15 := by rw [ev15]; exact f13_340_8
              refine lv_isub hx hb dX6_town_231 ?_
              refine lv_topi (fun v16 ev16 => ?_)
              have dv16 : dkN [(-1000190, -1000100)] v16 := by rw [ev16]; exact dkN_subt (dkN_lit (x := (-1000100)) (-1000100) rfl) dv15 rfl
              exact W.iret (v := v16) hx hb hr (fun t ht hW9 => ⟨⟨v16, I13, rfl, ⟨hF, hO, hP, ⟨trivial, (show dkN [(0, 0)] (I13 340 6) from dkN_sub (by rw [hF13 340 6 rfl]; exact (by rw [eI12, dkU_ss]; exact (dkN_lit (x := 0) (0) rfl))) rfl), (show dkN [(0, 0), (3, 9)] (I13 347 0) from dkN_sub (by rw [hF13 347 0 rfl]; exact (by rw [eI12, dkU_n (by decide)]; exact (by rw [hF11 347 0 rfl]; exact (by rw [hF1 347 0 rfl]; exact f165_1)))) rfl), trivial⟩⟩, dkW_eq ht hW⟩, hS.F ht⟩) hS.2.2 dX6_town_232
          ·
            have d17 : dkN [(0, 0)] v7 := dkN_eq1 dv7 (dkN_lit (x := 0) (0) rfl) (congrArg Int32.toInt c8) rfl
            have f18 : dkN [(0, 0)] (I1 340 11) := by rw [← ev7]; exact d17
            refine lv_iconst (v := 1) hx hb dX6_town_205 (by decide) ?_
            refine lv_goto (tgt := 210) hx hb dX6_town_206 (by decide) ?_
            refine dk_Vv (As := [.int 1]) (rest := []) ⟨hx, hb, hml, hown, hts⟩ (c_X6_must_7 l g z I1 1 (dkN_lit (x := 1) (1) rfl) (show dkN [(-2147483648, -1)] (I1 340 8) from dkN_sub f1_340_8 rfl) hO) (cwV 1 hts gX6_town_X6_must rfl rfl rfl (by decide +kernel) ⟨Nat.le_of_ble_eq_true rfl, Nat.le_of_ble_eq_true rfl⟩) (dk_at340 hW) rfl hK hT hW hS rfl hl.1 rfl (Nat.le_of_ble_eq_true rfl) dX6_town_210 ⟨Nat.zero_le _, Nat.zero_le _⟩ (fun I19 H19 L19 hp19 hW hS => ?_)
            obtain ⟨hF19, hO, hc19⟩ := hp19
            have hF := dkF_call hF hF19 rfl
            have hP := dkPP_F hP hF19 rfl
            obtain ⟨f19_340_8, -⟩ := hc19
            refine lv_aload_n hx hb dX6_town_213 rfl (lv_at hl 0 rfl) ?_
            refine lv_iconst (v := 0) hx hb dX6_town_214 (by decide) ?_
            refine dk_put (k := 340) hx hb hts iX6_town_6 tyX6 tyX6_ok nmX6 hown hK hW (dk_at340 hW) hS rfl 6 (by decide) (hts (.fieldLink RX6 82 "DogKingsModel" "taped" "I") (List.mem_of_getElem? (i := 6) rfl)) rfl rfl (Nat.le_of_ble_eq_true rfl) rfl dX6_town_215 (fun I20 H20 L20 eI20 hW hS => ?_)
            have eI20 : I20 = dkU I19 340 6 0 := eI20
            have hO := dkO_set hO eI20 (dkN_sub (dkN_lit (x := 0) (0) rfl) rfl)
            have hF := dkF_set hF eI20 rfl
            have hP := dkPP_set hP eI20 rfl
            refine lv_aload_n hx hb dX6_town_218 rfl (lv_at hl 0 rfl) ?_
            refine dk_Vi (As := []) (rest := []) ⟨hx, hb, hml, hown, hts⟩ (c_X6_isWell_5 l g z I20 (show dkN [(-2147483648, -1)] (I20 340 8) from dkN_sub (by rw [eI20, dkU_sn (by decide)]; exact f19_340_8) rfl) hO) (cwV 0 hts gX6_town_X6_isWell rfl rfl rfl (by decide +kernel) ⟨Nat.le_of_ble_eq_true rfl, Nat.le_of_ble_eq_true rfl⟩) (dk_at340 hW) rfl hK hT hW hS rfl hl.1 rfl (Nat.le_of_ble_eq_true rfl) dX6_town_219 ⟨Nat.zero_le _, Nat.zero_le _⟩ (fun v21 I21 H21 L21 hp21 hW hS => ?_)
            obtain ⟨hF21, hO, hc21⟩ := hp21
            have hF := dkF_call hF hF21 rfl
            have hP := dkPP_F hP hF21 rfl
            obtain ⟨dv21, f21_340_8, -⟩ := hc21
            refine lv_if_ne (tgt := 233) hx hb dX6_town_222 (by decide) (fun c22 => ?_) (fun c22 => ?_)
            ·
              refine lv_aload_n hx hb dX6_town_233 rfl (lv_at hl 0 rfl) ?_
              refine dk_get (k := 340) hx hb hts iX6_town_6 hown hK (dk_at340 hW) rfl 14 (by decide) (hts (.fieldLink RX6 28 "DogKingsModel" "draft" "[I") (List.mem_of_getElem? (i := 1) rfl)) rfl dX6_town_234 ?_
              refine lv_iconst (v := 0) hx hb dX6_town_237 (by decide) ?_
              refine lv_aload_n hx hb dX6_town_238 rfl (lv_at hl 0 rfl) ?_
              refine dk_get (k := 340) hx hb hts iX6_town_6 hown hK (dk_at340 hW) rfl 13 (by decide) (hts (.fieldLink RX6 25 "DogKingsModel" "now" "[I") (List.mem_of_getElem? (i := 8) rfl)) rfl dX6_town_239 ?_
              refine lv_iconst (v := 0) hx hb dX6_town_242 (by decide) ?_
              refine dk_Sv (As := [.ref (z + 347), .int 0, .ref (z + 346), .int 0]) (rest := []) ⟨hx, hb, hml, hown, hts⟩ (c_X6_copies l g z I21 (kf := 347) (kt := 346) (nf := 54) (nt := 54) 0 0 (A := 0) (B := 0) rfl rfl (by decide) (by decide) (by decide) (by decide) (by decide) (by decide) (fun _ => rfl) (fun _ => rfl)) (va_cwS 4 hts gX6_town_X6_copies rfl rfl rfl (by decide +kernel) ⟨Nat.le_of_ble_eq_true rfl, Nat.le_of_ble_eq_true rfl⟩) hK hT hW hS rfl hl.1 rfl (Nat.le_of_ble_eq_true rfl) dX6_town_243 ⟨Nat.zero_le _, Nat.zero_le _⟩ (fun I23 H23 L23 eI23 hW hS => ?_)
              have eI23 : I23 = dkCp I21 347 346 0 0 := eI23
              have hO := dkO_cp hO eI23 (by decide) (by decide) (by decide) (by decide)
              have hF := dkF_cp (lo := 0) (hi := 0) hF eI23 ⟨by decide, by decide⟩ rfl
              refine lv_aload_n hx hb dX6_town_246 rfl (lv_at hl 0 rfl) ?_
              refine lv_iconst (v := 0) hx hb dX6_town_247 (by decide) ?_
              refine dk_put (k := 340) hx hb hts iX6_town_6 tyX6 tyX6_ok nmX6 hown hK hW (dk_at340 hW) hS rfl 17 (by decide) (hts (.fieldLink RX6 142 "DogKingsModel" "acts" "I") (List.mem_of_getElem? (i := 9) rfl)) rfl rfl (Nat.le_of_ble_eq_true rfl) rfl dX6_town_248 (fun I24 H24 L24 eI24 hW hS => ?_)
              have eI24 : I24 = dkU I23 340 17 0 := eI24
              have hO := dkO_set hO eI24 (dkN_sub (dkN_lit (x := 0) (0) rfl) rfl)
              have hF := dkF_set hF eI24 rfl
              have hP := dkPP_town hP eI23 eI24 (dkN_sub (by rw [hF21 347 4 rfl]; exact (by rw [eI20, dkU_n (by decide)]; exact (by rw [hF19 347 4 rfl]; exact (by rw [hF1 347 4 rfl]; exact f165_2)))) rfl)
              refine lv_aload_n hx hb dX6_town_251 rfl (lv_at hl 0 rfl) ?_
              refine dk_get (k := 340) hx hb hts iX6_town_6 hown hK (dk_at340 hW) rfl 13 (by decide) (hts (.fieldLink RX6 25 "DogKingsModel" "now" "[I") (List.mem_of_getElem? (i := 8) rfl)) rfl dX6_town_252 ?_
              refine lv_iconst (v := 5) hx hb dX6_town_255 (by decide) ?_
              refine dk_ild (k := 346) hx hb hK (dk_at346 hW) (dkN_in (n := 54) (dkN_lit (x := 5) (5) rfl) rfl) dX6_town_256 ?_
              refine lv_topi (fun v25 ev25 => ?_)
              have ev25 : v25 = I24 346 5 := ev25
              have dv25 : dkN [(0, 6)] v25 := by rw [ev25]; exact (show dkN [(0, 6)] (I24 346 5) from (hO 346 5))
              exact W.iret (v := v25) hx hb hr (fun t ht hW9 => ⟨⟨v25, I24, rfl, ⟨hF, hO, hP, ⟨trivial, (show dkN [(0, 0)] (I24 340 6) from dkN_sub (by rw [eI24, dkU_sn (by decide)]; exact (by rw [(dkCp_n eI23 (by decide))]; exact (by rw [hF21 340 6 rfl]; exact (by rw [eI20, dkU_ss]; exact (dkN_lit (x := 0) (0) rfl))))) rfl), (show dkN [(0, 0), (3, 9)] (I24 347 0) from dkN_sub (by rw [eI24, dkU_n (by decide)]; exact (by rw [(dkCp_n eI23 (by decide))]; exact (by rw [hF21 347 0 rfl]; exact (by rw [eI20, dkU_n (by decide)]; exact (by rw [hF19 347 0 rfl]; exact (by rw [hF1 347 0 rfl]; exact f165_1)))))) rfl), trivial⟩⟩, dkW_eq ht hW⟩, hS.F ht⟩) hS.2.2 dX6_town_257
            ·
              exact (dkN_nil (show dkN [] v21 from dkN_eq1 dv21 (dkN_lit (x := 0) (0) rfl) (congrArg Int32.toInt c22) rfl)).elim
        ·
          have d26 : dkN [(1, 1)] v3 := dkN_eq1 (dkN_top v3) (dkN_lit (x := 1) (1) rfl) (congrArg Int32.toInt c4) rfl
          have f27 : dkN [(1, 1)] (I1 340 11) := by rw [← ev3]; exact d26
          refine lv_aload_n hx hb dX6_town_180 rfl (lv_at hl 0 rfl) ?_
          refine dk_get (k := 340) hx hb hts iX6_town_6 hown hK (dk_at340 hW) rfl 12 (by decide) (hts (.fieldLink RX6 95 "DogKingsModel" "value" "I") (List.mem_of_getElem? (i := 5) rfl)) rfl dX6_town_181 ?_
          refine lv_topi (fun v28 ev28 => ?_)
          refine dk_Si (As := [.int v28]) (rest := []) ⟨hx, hb, hml, hown, hts⟩ (c_X6_kindOf_0 l g z I1 v28 hO) (va_cwS 1 hts gX6_town_X6_kindOf rfl rfl rfl (by decide +kernel) ⟨Nat.le_of_ble_eq_true rfl, Nat.le_of_ble_eq_true rfl⟩) hK hT hW hS rfl hl.1 rfl (Nat.le_of_ble_eq_true rfl) dX6_town_184 ⟨Nat.zero_le _, Nat.zero_le _⟩ (fun v29 I29 H29 L29 hp29 hW hS => ?_)
          obtain ⟨hF29, hO, hc29⟩ := hp29
          have hF := dkF_call hF hF29 rfl
          have hP := dkPP_F hP hF29 rfl
          obtain ⟨dv29, -⟩ := hc29
          refine lv_if_le (tgt := 197) hx hb dX6_town_187 (by decide) (fun c30 => ?_) (fun c30 => ?_)
          ·
            have d31 : dkN [(0, 0)] v29 := dkN_le1 0 dv29 (dkN_lit (x := 0) (0) rfl) (dkc_le c30) rfl
            refine lv_aload_n hx hb dX6_town_197 rfl (lv_at hl 0 rfl) ?_
            refine lv_aload_n hx hb dX6_town_198 rfl (lv_at hl 0 rfl) ?_
            refine dk_get (k := 340) hx hb hts iX6_town_6 hown hK (dk_at340 hW) rfl 11 (by decide) (hts (.fieldLink RX6 98 "DogKingsModel" "token" "I") (List.mem_of_getElem? (i := 4) rfl)) rfl dX6_town_199 ?_
            refine lv_topi (fun v32 ev32 => ?_)
            have dv32 : dkN [(1, 1)] v32 := by rw [ev32]; exact (by rw [hF29 340 11 rfl]; exact f27)
            refine lv_if_ne (tgt := 209) hx hb dX6_town_202 (by decide) (fun c33 => ?_) (fun c33 => ?_)
            ·
              refine lv_iconst (v := 0) hx hb dX6_town_209 (by decide) ?_
              refine dk_Vv (As := [.int 0]) (rest := []) ⟨hx, hb, hml, hown, hts⟩ (c_X6_must_6 l g z I29 0 (dkN_lit (x := 0) (0) rfl) (show dkN [(-2147483648, -1)] (I29 340 8) from dkN_sub (by rw [hF29 340 8 rfl]; exact f1_340_8) rfl) hO) (cwV 1 hts gX6_town_X6_must rfl rfl rfl (by decide +kernel) ⟨Nat.le_of_ble_eq_true rfl, Nat.le_of_ble_eq_true rfl⟩) (dk_at340 hW) rfl hK hT hW hS rfl hl.1 rfl (Nat.le_of_ble_eq_true rfl) dX6_town_210 ⟨Nat.zero_le _, Nat.zero_le _⟩ (fun I34 H34 L34 hp34 hW hS => ?_)
              obtain ⟨hF34, hO, hc34⟩ := hp34
              have hF := dkF_call hF hF34 rfl
              have hP := dkPP_F hP hF34 rfl
              obtain ⟨f34_340_7, f34_340_8, -⟩ := hc34
              refine lv_aload_n hx hb dX6_town_213 rfl (lv_at hl 0 rfl) ?_
              refine lv_iconst (v := 0) hx hb dX6_town_214 (by decide) ?_
              refine dk_put (k := 340) hx hb hts iX6_town_6 tyX6 tyX6_ok nmX6 hown hK hW (dk_at340 hW) hS rfl 6 (by decide) (hts (.fieldLink RX6 82 "DogKingsModel" "taped" "I") (List.mem_of_getElem? (i := 6) rfl)) rfl rfl (Nat.le_of_ble_eq_true rfl) rfl dX6_town_215 (fun I35 H35 L35 eI35 hW hS => ?_)
              have eI35 : I35 = dkU I34 340 6 0 := eI35
              have hO := dkO_set hO eI35 (dkN_sub (dkN_lit (x := 0) (0) rfl) rfl)
              have hF := dkF_set hF eI35 rfl
              have hP := dkPP_set hP eI35 rfl
              refine lv_aload_n hx hb dX6_town_218 rfl (lv_at hl 0 rfl) ?_
              refine dk_Vi (As := []) (rest := []) ⟨hx, hb, hml, hown, hts⟩ (c_X6_isWell_2 l g z I35 (show dkN [(0, 90)] (I35 340 8) from dkN_sub (by rw [eI35, dkU_sn (by decide)]; exact f34_340_8) rfl) hO) (cwV 0 hts gX6_town_X6_isWell rfl rfl rfl (by decide +kernel) ⟨Nat.le_of_ble_eq_true rfl, Nat.le_of_ble_eq_true rfl⟩) (dk_at340 hW) rfl hK hT hW hS rfl hl.1 rfl (Nat.le_of_ble_eq_true rfl) dX6_town_219 ⟨Nat.zero_le _, Nat.zero_le _⟩ (fun v36 I36 H36 L36 hp36 hW hS => ?_)
              obtain ⟨hF36, hO, hc36⟩ := hp36
              have hF := dkF_call hF hF36 rfl
              have hP := dkPP_F hP hF36 rfl
              obtain ⟨dv36, f36_340_8, -⟩ := hc36
              refine lv_if_ne (tgt := 233) hx hb dX6_town_222 (by decide) (fun c37 => ?_) (fun c37 => ?_)
              ·
                exact (dkN_nil (show dkN [] v36 from dkN_ne1 (0) dv36 (dkN_lit (x := 0) (0) rfl) (dk_ne c37) rfl)).elim
              ·
                refine lv_ldc (v := (-1000100)) hx hb hown (hts (.constant RX6 137 (-1000100)) (List.mem_of_getElem? (i := 7) rfl)) dX6_town_225 ?_
                refine lv_aload_n hx hb dX6_town_227 rfl (lv_at hl 0 rfl) ?_
                refine dk_get (k := 340) hx hb hts iX6_town_6 hown hK (dk_at340 hW) rfl 8 (by decide) (hts (.fieldLink RX6 101 "DogKingsModel" "faultPlace" "I") (List.mem_of_getElem? (i := 3) rfl)) rfl dX6_town_228 ?_
                refine lv_topi (fun v38 ev38 => ?_)
                have dv38 : dkN [(0, 90)] v38 := by rw [ev38]; exact f36_340_8
                refine lv_isub hx hb dX6_town_231 ?_
                refine lv_topi (fun v39 ev39 => ?_)
                have dv39 : dkN [(-1000190, -1000100)] v39 := by rw [ev39]; exact dkN_subt (dkN_lit (x := (-1000100)) (-1000100) rfl) dv38 rfl
                exact W.iret (v := v39) hx hb hr (fun t ht hW9 => ⟨⟨v39, I36, rfl, ⟨hF, hO, hP, ⟨trivial, (show dkN [(0, 0)] (I36 340 6) from dkN_sub (by rw [hF36 340 6 rfl]; exact (by rw [eI35, dkU_ss]; exact (dkN_lit (x := 0) (0) rfl))) rfl), (show dkN [(0, 0), (3, 9)] (I36 347 0) from dkN_sub (by rw [hF36 347 0 rfl]; exact (by rw [eI35, dkU_n (by decide)]; exact (by rw [hF34 347 0 rfl]; exact (by rw [hF29 347 0 rfl]; exact (by rw [hF1 347 0 rfl]; exact f165_1))))) rfl), trivial⟩⟩, dkW_eq ht hW⟩, hS.F ht⟩) hS.2.2 dX6_town_232
            ·
              exact (dkN_nil (show dkN [] v32 from dkN_eq1 dv32 (dkN_lit (x := 0) (0) rfl) (congrArg Int32.toInt c33) rfl)).elim
          ·
            have d40 : dkN [(1, 5)] v29 := dkN_le2 1 (dkN_lit (x := 0) (0) rfl) dv29 (dkc_nle c30) rfl
            refine lv_aload_n hx hb dX6_town_190 rfl (lv_at hl 0 rfl) ?_
            refine dk_Vv (As := []) (rest := []) ⟨hx, hb, hml, hown, hts⟩ (c_X6_readsDog_0 l g z I29 hO) (cwV 0 hts gX6_town_X6_readsDog rfl rfl rfl (by decide +kernel) ⟨Nat.le_of_ble_eq_true rfl, Nat.le_of_ble_eq_true rfl⟩) (dk_at340 hW) rfl hK hT hW hS rfl hl.1 rfl (Nat.le_of_ble_eq_true rfl) dX6_town_191 ⟨Nat.zero_le _, Nat.zero_le _⟩ (fun I41 H41 L41 hp41 hW hS => ?_)
            obtain ⟨hF41, hO, hc41⟩ := hp41
            have hF := dkF_call hF hF41 rfl
            have hP := dkPP_F hP hF41 rfl
            rcases hc41 with ⟨f41_340_8, f41_347_5, ci41_0, -⟩ | hc41
            ·
              refine lv_goto (tgt := 165) hx hb dX6_town_194 (by decide) ?_
              exact ih165 I41 _ _ ls x165_1 (dk_nearH hn165 ci41_0 ((hF29 347 5 rfl).trans ((hF1 347 5 rfl).trans rfl)) (‹dkOk I29› 347 5) rfl rfl) hW hS hF hO hP (dkN_sub k165_0 rfl) (show dkN [(-2147483648, -1)] (I41 340 8) from dkN_sub f41_340_8 rfl) (show dkN [(0, 0), (3, 9)] (I41 347 0) from dkN_sub (by rw [hF41 347 0 rfl]; exact (by rw [hF29 347 0 rfl]; exact (by rw [hF1 347 0 rfl]; exact f165_1))) rfl) (show dkN [(1, 5)] (I41 347 4) from dkN_sub (by rw [hF41 347 4 rfl]; exact (by rw [hF29 347 4 rfl]; exact (by rw [hF1 347 4 rfl]; exact f165_2))) rfl) (lv_sub hl [0, 1] rfl)
            ·
              obtain ⟨f41_340_8, -⟩ := hc41
              refine lv_goto (tgt := 165) hx hb dX6_town_194 (by decide) ?_
              refine lv_aload_n hx hb dX6_town_165 rfl (lv_at hl 0 rfl) ?_
              refine dk_Vi (As := []) (rest := []) ⟨hx, hb, hml, hown, hts⟩ (c_X6_isWell_4 l g z I41 (show dkN [(0, 2147483647)] (I41 340 8) from dkN_sub f41_340_8 rfl) hO) (cwV 0 hts gX6_town_X6_isWell rfl rfl rfl (by decide +kernel) ⟨Nat.le_of_ble_eq_true rfl, Nat.le_of_ble_eq_true rfl⟩) (dk_at340 hW) rfl hK hT hW hS rfl hl.1 rfl (Nat.le_of_ble_eq_true rfl) dX6_town_166 ⟨Nat.zero_le _, Nat.zero_le _⟩ (fun v43 I43 H43 L43 hp43 hW hS => ?_)
              obtain ⟨hF43, hO, hc43⟩ := hp43
              have hF := dkF_call hF hF43 rfl
              have hP := dkPP_F hP hF43 rfl
              obtain ⟨dv43, f43_340_8, -⟩ := hc43
              refine lv_if_eq (tgt := 197) hx hb dX6_town_169 (by decide) (fun c44 => ?_) (fun c44 => ?_)
              ·
                refine lv_aload_n hx hb dX6_town_197 rfl (lv_at hl 0 rfl) ?_
                refine lv_aload_n hx hb dX6_town_198 rfl (lv_at hl 0 rfl) ?_
                refine dk_get (k := 340) hx hb hts iX6_town_6 hown hK (dk_at340 hW) rfl 11 (by decide) (hts (.fieldLink RX6 98 "DogKingsModel" "token" "I") (List.mem_of_getElem? (i := 4) rfl)) rfl dX6_town_199 ?_
                refine lv_topi (fun v45 ev45 => ?_)
                refine lv_if_ne (tgt := 209) hx hb dX6_town_202 (by decide) (fun c46 => ?_) (fun c46 => ?_)
                ·
                  have d47 : dkN [(-2147483648, -1), (1, 2147483647)] v45 := dkN_ne1 (0) (dkN_top v45) (dkN_lit (x := 0) (0) rfl) (dk_ne c46) rfl
                  have f48 : dkN [(-2147483648, -1), (1, 2147483647)] (I43 340 11) := by rw [← ev45]; exact d47
                  refine lv_iconst (v := 0) hx hb dX6_town_209 (by decide) ?_
                  refine dk_Vv (As := [.int 0]) (rest := []) ⟨hx, hb, hml, hown, hts⟩ (c_X6_must_4 l g z I43 0 (dkN_lit (x := 0) (0) rfl) (show dkN [(0, 2147483647)] (I43 340 8) from dkN_sub f43_340_8 rfl) hO) (cwV 1 hts gX6_town_X6_must rfl rfl rfl (by decide +kernel) ⟨Nat.le_of_ble_eq_true rfl, Nat.le_of_ble_eq_true rfl⟩) (dk_at340 hW) rfl hK hT hW hS rfl hl.1 rfl (Nat.le_of_ble_eq_true rfl) dX6_town_210 ⟨Nat.zero_le _, Nat.zero_le _⟩ (fun I49 H49 L49 hp49 hW hS => ?_)
                  obtain ⟨hF49, hO, hc49⟩ := hp49
                  have hF := dkF_call hF hF49 rfl
                  have hP := dkPP_F hP hF49 rfl
                  obtain ⟨f49_340_8, -⟩ := hc49
                  refine lv_aload_n hx hb dX6_town_213 rfl (lv_at hl 0 rfl) ?_
                  refine lv_iconst (v := 0) hx hb dX6_town_214 (by decide) ?_
                  refine dk_put (k := 340) hx hb hts iX6_town_6 tyX6 tyX6_ok nmX6 hown hK hW (dk_at340 hW) hS rfl 6 (by decide) (hts (.fieldLink RX6 82 "DogKingsModel" "taped" "I") (List.mem_of_getElem? (i := 6) rfl)) rfl rfl (Nat.le_of_ble_eq_true rfl) rfl dX6_town_215 (fun I50 H50 L50 eI50 hW hS => ?_)
                  have eI50 : I50 = dkU I49 340 6 0 := eI50
                  have hO := dkO_set hO eI50 (dkN_sub (dkN_lit (x := 0) (0) rfl) rfl)
                  have hF := dkF_set hF eI50 rfl
                  have hP := dkPP_set hP eI50 rfl
                  refine lv_aload_n hx hb dX6_town_218 rfl (lv_at hl 0 rfl) ?_
                  refine dk_Vi (As := []) (rest := []) ⟨hx, hb, hml, hown, hts⟩ (c_X6_isWell_4 l g z I50 (show dkN [(0, 2147483647)] (I50 340 8) from dkN_sub (by rw [eI50, dkU_sn (by decide)]; exact f49_340_8) rfl) hO) (cwV 0 hts gX6_town_X6_isWell rfl rfl rfl (by decide +kernel) ⟨Nat.le_of_ble_eq_true rfl, Nat.le_of_ble_eq_true rfl⟩) (dk_at340 hW) rfl hK hT hW hS rfl hl.1 rfl (Nat.le_of_ble_eq_true rfl) dX6_town_219 ⟨Nat.zero_le _, Nat.zero_le _⟩ (fun v51 I51 H51 L51 hp51 hW hS => ?_)
                  obtain ⟨hF51, hO, hc51⟩ := hp51
                  have hF := dkF_call hF hF51 rfl
                  have hP := dkPP_F hP hF51 rfl
                  obtain ⟨dv51, f51_340_8, -⟩ := hc51
                  refine lv_if_ne (tgt := 233) hx hb dX6_town_222 (by decide) (fun c52 => ?_) (fun c52 => ?_)
                  ·
                    exact (dkN_nil (show dkN [] v51 from dkN_ne1 (0) dv51 (dkN_lit (x := 0) (0) rfl) (dk_ne c52) rfl)).elim
                  ·
                    refine lv_ldc (v := (-1000100)) hx hb hown (hts (.constant RX6 137 (-1000100)) (List.mem_of_getElem? (i := 7) rfl)) dX6_town_225 ?_
                    refine lv_aload_n hx hb dX6_town_227 rfl (lv_at hl 0 rfl) ?_
                    refine dk_get (k := 340) hx hb hts iX6_town_6 hown hK (dk_at340 hW) rfl 8 (by decide) (hts (.fieldLink RX6 101 "DogKingsModel" "faultPlace" "I") (List.mem_of_getElem? (i := 3) rfl)) rfl dX6_town_228 ?_
                    refine lv_topi (fun v53 ev53 => ?_)
                    have dv53 : dkN [(0, 2147483647)] v53 := by rw [ev53]; exact f51_340_8
                    refine lv_isub hx hb dX6_town_231 ?_
                    refine lv_topi (fun v54 ev54 => ?_)
                    exact W.iret (v := v54) hx hb hr (fun t ht hW9 => ⟨⟨v54, I51, rfl, ⟨hF, hO, hP, ⟨trivial, (show dkN [(0, 0)] (I51 340 6) from dkN_sub (by rw [hF51 340 6 rfl]; exact (by rw [eI50, dkU_ss]; exact (dkN_lit (x := 0) (0) rfl))) rfl), (show dkN [(0, 0), (3, 9)] (I51 347 0) from dkN_sub (by rw [hF51 347 0 rfl]; exact (by rw [eI50, dkU_n (by decide)]; exact (by rw [hF49 347 0 rfl]; exact (by rw [hF43 347 0 rfl]; exact (by rw [hF41 347 0 rfl]; exact (by rw [hF29 347 0 rfl]; exact (by rw [hF1 347 0 rfl]; exact f165_1))))))) rfl), trivial⟩⟩, dkW_eq ht hW⟩, hS.F ht⟩) hS.2.2 dX6_town_232
                ·
                  have d55 : dkN [(0, 0)] v45 := dkN_eq1 (dkN_top v45) (dkN_lit (x := 0) (0) rfl) (congrArg Int32.toInt c46) rfl
                  have f56 : dkN [(0, 0)] (I43 340 11) := by rw [← ev45]; exact d55
                  refine lv_iconst (v := 1) hx hb dX6_town_205 (by decide) ?_
                  refine lv_goto (tgt := 210) hx hb dX6_town_206 (by decide) ?_
                  refine dk_Vv (As := [.int 1]) (rest := []) ⟨hx, hb, hml, hown, hts⟩ (c_X6_must_5 l g z I43 1 (dkN_lit (x := 1) (1) rfl) (show dkN [(0, 2147483647)] (I43 340 8) from dkN_sub f43_340_8 rfl) hO) (cwV 1 hts gX6_town_X6_must rfl rfl rfl (by decide +kernel) ⟨Nat.le_of_ble_eq_true rfl, Nat.le_of_ble_eq_true rfl⟩) (dk_at340 hW) rfl hK hT hW hS rfl hl.1 rfl (Nat.le_of_ble_eq_true rfl) dX6_town_210 ⟨Nat.zero_le _, Nat.zero_le _⟩ (fun I57 H57 L57 hp57 hW hS => ?_)
                  obtain ⟨hF57, hO, hc57⟩ := hp57
                  have hF := dkF_call hF hF57 rfl
                  have hP := dkPP_F hP hF57 rfl
                  obtain ⟨f57_340_8, -⟩ := hc57
                  refine lv_aload_n hx hb dX6_town_213 rfl (lv_at hl 0 rfl) ?_
                  refine lv_iconst (v := 0) hx hb dX6_town_214 (by decide) ?_
                  refine dk_put (k := 340) hx hb hts iX6_town_6 tyX6 tyX6_ok nmX6 hown hK hW (dk_at340 hW) hS rfl 6 (by decide) (hts (.fieldLink RX6 82 "DogKingsModel" "taped" "I") (List.mem_of_getElem? (i := 6) rfl)) rfl rfl (Nat.le_of_ble_eq_true rfl) rfl dX6_town_215 (fun I58 H58 L58 eI58 hW hS => ?_)
                  have eI58 : I58 = dkU I57 340 6 0 := eI58
                  have hO := dkO_set hO eI58 (dkN_sub (dkN_lit (x := 0) (0) rfl) rfl)
                  have hF := dkF_set hF eI58 rfl
                  have hP := dkPP_set hP eI58 rfl
                  refine lv_aload_n hx hb dX6_town_218 rfl (lv_at hl 0 rfl) ?_
                  refine dk_Vi (As := []) (rest := []) ⟨hx, hb, hml, hown, hts⟩ (c_X6_isWell_4 l g z I58 (show dkN [(0, 2147483647)] (I58 340 8) from dkN_sub (by rw [eI58, dkU_sn (by decide)]; exact f57_340_8) rfl) hO) (cwV 0 hts gX6_town_X6_isWell rfl rfl rfl (by decide +kernel) ⟨Nat.le_of_ble_eq_true rfl, Nat.le_of_ble_eq_true rfl⟩) (dk_at340 hW) rfl hK hT hW hS rfl hl.1 rfl (Nat.le_of_ble_eq_true rfl) dX6_town_219 ⟨Nat.zero_le _, Nat.zero_le _⟩ (fun v59 I59 H59 L59 hp59 hW hS => ?_)
                  obtain ⟨hF59, hO, hc59⟩ := hp59
                  have hF := dkF_call hF hF59 rfl
                  have hP := dkPP_F hP hF59 rfl
                  obtain ⟨dv59, f59_340_8, -⟩ := hc59
                  refine lv_if_ne (tgt := 233) hx hb dX6_town_222 (by decide) (fun c60 => ?_) (fun c60 => ?_)
                  ·
                    exact (dkN_nil (show dkN [] v59 from dkN_ne1 (0) dv59 (dkN_lit (x := 0) (0) rfl) (dk_ne c60) rfl)).elim
                  ·
                    refine lv_ldc (v := (-1000100)) hx hb hown (hts (.constant RX6 137 (-1000100)) (List.mem_of_getElem? (i := 7) rfl)) dX6_town_225 ?_
                    refine lv_aload_n hx hb dX6_town_227 rfl (lv_at hl 0 rfl) ?_
                    refine dk_get (k := 340) hx hb hts iX6_town_6 hown hK (dk_at340 hW) rfl 8 (by decide) (hts (.fieldLink RX6 101 "DogKingsModel" "faultPlace" "I") (List.mem_of_getElem? (i := 3) rfl)) rfl dX6_town_228 ?_
                    refine lv_topi (fun v61 ev61 => ?_)
                    have dv61 : dkN [(0, 2147483647)] v61 := by rw [ev61]; exact f59_340_8
                    refine lv_isub hx hb dX6_town_231 ?_
                    refine lv_topi (fun v62 ev62 => ?_)
                    exact W.iret (v := v62) hx hb hr (fun t ht hW9 => ⟨⟨v62, I59, rfl, ⟨hF, hO, hP, ⟨trivial, (show dkN [(0, 0)] (I59 340 6) from dkN_sub (by rw [hF59 340 6 rfl]; exact (by rw [eI58, dkU_ss]; exact (dkN_lit (x := 0) (0) rfl))) rfl), (show dkN [(0, 0), (3, 9)] (I59 347 0) from dkN_sub (by rw [hF59 347 0 rfl]; exact (by rw [eI58, dkU_n (by decide)]; exact (by rw [hF57 347 0 rfl]; exact (by rw [hF43 347 0 rfl]; exact (by rw [hF41 347 0 rfl]; exact (by rw [hF29 347 0 rfl]; exact (by rw [hF1 347 0 rfl]; exact f165_1))))))) rfl), trivial⟩⟩, dkW_eq ht hW⟩, hS.F ht⟩) hS.2.2 dX6_town_232
              ·
                exact (dkN_nil (show dkN [] v43 from dkN_ne1 (0) dv43 (dkN_lit (x := 0) (0) rfl) (dk_ne c44) rfl)).elim
  have C134 : ∀ (n : Nat), ∀ (I : dkI) (H : Heap) (locs : List Loc) (ls : Array Slot) (x134_1 : Int32), (6 - (I 347 4).toInt).toNat < n → dkW g z I H → va_S (dkA z) s.heap H locs → dkF [(340, 340, 6, 12), (340, 340, 17, 17), (346, 346, 0, 53), (347, 347, 0, 53)] I0 I → dkOk I → dkPP I → dkN [(54, 54)] x134_1 → dkN [(-2147483648, -1)] (I 340 8) → dkN [(0, 0), (3, 9)] (I 347 0) → dkN [(1, 5)] (I 347 4) → lv_has ls 2 [(0, .ref (z + 340)), (1, .int x134_1)] → W p l e (headSpec wsX6_town (dkR 6)).room s m args below meth c H locs 0 0 (MQ below (dkQi g z (fun r I1 => dkF [(340, 340, 6, 12), (340, 340, 17, 17), (346, 346, 0, 53), (347, 347, 0, 53)] I0 I1 ∧ dkOk I1 ∧ dkPP I1 ∧ ((True ∧ dkN [(0, 0)] (I1 340 6) ∧ dkN [(0, 0), (3, 9)] (I1 347 0) ∧ True)))) args s 0 0 (dkA z)) (F0 m 134 ls []) := by
    intro n
    induction n with
    | zero => intro I H locs ls x134_1 hn; exact absurd hn (Nat.not_lt_zero _)
    | succ n ih134 =>
      intro I134_ H locs ls x134_1 hn134 hW hS hF_134 hO hP k134_0 f134_0 f134_1 f134_2 hl
      have hF := hF_134
      refine lv_aload_n hx hb dX6_town_134 rfl (lv_at hl 0 rfl) ?_
      refine dk_Vi (As := []) (rest := []) ⟨hx, hb, hml, hown, hts⟩ (c_X6_isWell_5 l g z I134_ (show dkN [(-2147483648, -1)] (I134_ 340 8) from dkN_sub f134_0 rfl) hO) (cwV 0 hts gX6_town_X6_isWell rfl rfl rfl (by decide +kernel) ⟨Nat.le_of_ble_eq_true rfl, Nat.le_of_ble_eq_true rfl⟩) (dk_at340 hW) rfl hK hT hW hS rfl hl.1 rfl (Nat.le_of_ble_eq_true rfl) dX6_town_135 ⟨Nat.zero_le _, Nat.zero_le _⟩ (fun v63 I63 H63 L63 hp63 hW hS => ?_)
      obtain ⟨hF63, hO, hc63⟩ := hp63
      have hF := dkF_call hF hF63 rfl
      have hP := dkPP_F hP hF63 rfl
      obtain ⟨dv63, f63_340_8, -⟩ := hc63
      refine lv_if_eq (tgt := 165) hx hb dX6_town_138 (by decide) (fun c64 => ?_) (fun c64 => ?_)
      ·
        exact (dkN_nil (show dkN [] v63 from dkN_eq1 dv63 (dkN_lit (x := 0) (0) rfl) (congrArg Int32.toInt c64) rfl)).elim
      ·
        refine lv_aload_n hx hb dX6_town_141 rfl (lv_at hl 0 rfl) ?_
        refine dk_get (k := 340) hx hb hts iX6_town_6 hown hK (dk_at340 hW) rfl 11 (by decide) (hts (.fieldLink RX6 98 "DogKingsModel" "token" "I") (List.mem_of_getElem? (i := 4) rfl)) rfl dX6_town_142 ?_
        refine lv_topi (fun v65 ev65 => ?_)
        refine lv_iconst (v := 1) hx hb dX6_town_145 (by decide) ?_
        refine lv_icmp_ne (tgt := 165) hx hb dX6_town_146 (by decide) (fun c66 => ?_) (fun c66 => ?_)
        ·
          have d67 : dkN [(-2147483648, 0), (2, 2147483647)] v65 := dkN_ne1 (1) (dkN_top v65) (dkN_lit (x := 1) (1) rfl) (dk_ne c66) rfl
          have f68 : dkN [(-2147483648, 0), (2, 2147483647)] (I63 340 11) := by rw [← ev65]; exact d67
          exact C165 _ I63 _ _ ls x134_1 (Nat.lt_succ_self _) hW hS hF hO hP (dkN_sub k134_0 rfl) (show dkN [(-2147483648, -1)] (I63 340 8) from dkN_sub f63_340_8 rfl) (show dkN [(0, 0), (3, 9)] (I63 347 0) from dkN_sub (by rw [hF63 347 0 rfl]; exact f134_1) rfl) (show dkN [(1, 5)] (I63 347 4) from dkN_sub (by rw [hF63 347 4 rfl]; exact f134_2) rfl) (lv_sub hl [0, 1] rfl)
        ·
          have d69 : dkN [(1, 1)] v65 := dkN_eq1 (dkN_top v65) (dkN_lit (x := 1) (1) rfl) (congrArg Int32.toInt c66) rfl
          have f70 : dkN [(1, 1)] (I63 340 11) := by rw [← ev65]; exact d69
          refine lv_aload_n hx hb dX6_town_149 rfl (lv_at hl 0 rfl) ?_
          refine dk_get (k := 340) hx hb hts iX6_town_6 hown hK (dk_at340 hW) rfl 12 (by decide) (hts (.fieldLink RX6 95 "DogKingsModel" "value" "I") (List.mem_of_getElem? (i := 5) rfl)) rfl dX6_town_150 ?_
          refine lv_topi (fun v71 ev71 => ?_)
          refine lv_bipush (v := 109) hx hb dX6_town_153 (by decide) ?_
          refine lv_icmp_ne (tgt := 165) hx hb dX6_town_155 (by decide) (fun c72 => ?_) (fun c72 => ?_)
          ·
            have d73 : dkN [(-2147483648, 108), (110, 2147483647)] v71 := dkN_ne1 (109) (dkN_top v71) (dkN_lit (x := 109) (109) rfl) (dk_ne c72) rfl
            have f74 : dkN [(-2147483648, 108), (110, 2147483647)] (I63 340 12) := by rw [← ev71]; exact d73
            exact C165 _ I63 _ _ ls x134_1 (Nat.lt_succ_self _) hW hS hF hO hP (dkN_sub k134_0 rfl) (show dkN [(-2147483648, -1)] (I63 340 8) from dkN_sub f63_340_8 rfl) (show dkN [(0, 0), (3, 9)] (I63 347 0) from dkN_sub (by rw [hF63 347 0 rfl]; exact f134_1) rfl) (show dkN [(1, 5)] (I63 347 4) from dkN_sub (by rw [hF63 347 4 rfl]; exact f134_2) rfl) (lv_sub hl [0, 1] rfl)
          ·
            have d75 : dkN [(109, 109)] v71 := dkN_eq1 (dkN_top v71) (dkN_lit (x := 109) (109) rfl) (congrArg Int32.toInt c72) rfl
            have f76 : dkN [(109, 109)] (I63 340 12) := by rw [← ev71]; exact d75
            refine lv_aload_n hx hb dX6_town_158 rfl (lv_at hl 0 rfl) ?_
            refine dk_Vv (As := []) (rest := []) ⟨hx, hb, hml, hown, hts⟩ (c_X6_readsPerson_0 l g z I63 hO) (cwV 0 hts gX6_town_X6_readsPerson rfl rfl rfl (by decide +kernel) ⟨Nat.le_of_ble_eq_true rfl, Nat.le_of_ble_eq_true rfl⟩) (dk_at340 hW) rfl hK hT hW hS rfl hl.1 rfl (Nat.le_of_ble_eq_true rfl) dX6_town_159 ⟨Nat.zero_le _, Nat.zero_le _⟩ (fun I77 H77 L77 hp77 hW hS => ?_)
            obtain ⟨hF77, hO, hc77⟩ := hp77
            have hF := dkF_call hF hF77 rfl
            have hP := dkPP_F hP hF77 rfl
            rcases hc77 with ⟨f77_340_8, f77_347_4, ci77_0, -⟩ | hc77
            ·
              refine lv_goto (tgt := 134) hx hb dX6_town_162 (by decide) ?_
              exact ih134 I77 _ _ ls x134_1 (dk_nearH hn134 ci77_0 ((hF63 347 4 rfl).trans rfl) (by rw [hF63 347 4 rfl]; exact f134_2) rfl rfl) hW hS hF hO hP (dkN_sub k134_0 rfl) (show dkN [(-2147483648, -1)] (I77 340 8) from dkN_sub f77_340_8 rfl) (show dkN [(0, 0), (3, 9)] (I77 347 0) from dkN_sub (by rw [hF77 347 0 rfl]; exact (by rw [hF63 347 0 rfl]; exact f134_1)) rfl) (show dkN [(1, 5)] (I77 347 4) from dkN_sub f77_347_4 rfl) (lv_sub hl [0, 1] rfl)
            ·
              obtain ⟨f77_340_8, -⟩ := hc77
              refine lv_goto (tgt := 134) hx hb dX6_town_162 (by decide) ?_
              refine lv_aload_n hx hb dX6_town_134 rfl (lv_at hl 0 rfl) ?_
              refine dk_Vi (As := []) (rest := []) ⟨hx, hb, hml, hown, hts⟩ (c_X6_isWell_4 l g z I77 (show dkN [(0, 2147483647)] (I77 340 8) from dkN_sub f77_340_8 rfl) hO) (cwV 0 hts gX6_town_X6_isWell rfl rfl rfl (by decide +kernel) ⟨Nat.le_of_ble_eq_true rfl, Nat.le_of_ble_eq_true rfl⟩) (dk_at340 hW) rfl hK hT hW hS rfl hl.1 rfl (Nat.le_of_ble_eq_true rfl) dX6_town_135 ⟨Nat.zero_le _, Nat.zero_le _⟩ (fun v79 I79 H79 L79 hp79 hW hS => ?_)
              obtain ⟨hF79, hO, hc79⟩ := hp79
              have hF := dkF_call hF hF79 rfl
              have hP := dkPP_F hP hF79 rfl
              obtain ⟨dv79, f79_340_8, -⟩ := hc79
              refine lv_if_eq (tgt := 165) hx hb dX6_town_138 (by decide) (fun c80 => ?_) (fun c80 => ?_)
              ·
                refine lv_aload_n hx hb dX6_town_165 rfl (lv_at hl 0 rfl) ?_
                refine dk_Vi (As := []) (rest := []) ⟨hx, hb, hml, hown, hts⟩ (c_X6_isWell_4 l g z I79 (show dkN [(0, 2147483647)] (I79 340 8) from dkN_sub f79_340_8 rfl) hO) (cwV 0 hts gX6_town_X6_isWell rfl rfl rfl (by decide +kernel) ⟨Nat.le_of_ble_eq_true rfl, Nat.le_of_ble_eq_true rfl⟩) (dk_at340 hW) rfl hK hT hW hS rfl hl.1 rfl (Nat.le_of_ble_eq_true rfl) dX6_town_166 ⟨Nat.zero_le _, Nat.zero_le _⟩ (fun v81 I81 H81 L81 hp81 hW hS => ?_)
                obtain ⟨hF81, hO, hc81⟩ := hp81
                have hF := dkF_call hF hF81 rfl
                have hP := dkPP_F hP hF81 rfl
                obtain ⟨dv81, f81_340_8, -⟩ := hc81
                refine lv_if_eq (tgt := 197) hx hb dX6_town_169 (by decide) (fun c82 => ?_) (fun c82 => ?_)
                ·
                  refine lv_aload_n hx hb dX6_town_197 rfl (lv_at hl 0 rfl) ?_
                  refine lv_aload_n hx hb dX6_town_198 rfl (lv_at hl 0 rfl) ?_
                  refine dk_get (k := 340) hx hb hts iX6_town_6 hown hK (dk_at340 hW) rfl 11 (by decide) (hts (.fieldLink RX6 98 "DogKingsModel" "token" "I") (List.mem_of_getElem? (i := 4) rfl)) rfl dX6_town_199 ?_
                  refine lv_topi (fun v83 ev83 => ?_)
                  refine lv_if_ne (tgt := 209) hx hb dX6_town_202 (by decide) (fun c84 => ?_) (fun c84 => ?_)
                  ·
                    have d85 : dkN [(-2147483648, -1), (1, 2147483647)] v83 := dkN_ne1 (0) (dkN_top v83) (dkN_lit (x := 0) (0) rfl) (dk_ne c84) rfl
                    have f86 : dkN [(-2147483648, -1), (1, 2147483647)] (I81 340 11) := by rw [← ev83]; exact d85
                    refine lv_iconst (v := 0) hx hb dX6_town_209 (by decide) ?_
                    refine dk_Vv (As := [.int 0]) (rest := []) ⟨hx, hb, hml, hown, hts⟩ (c_X6_must_4 l g z I81 0 (dkN_lit (x := 0) (0) rfl) (show dkN [(0, 2147483647)] (I81 340 8) from dkN_sub f81_340_8 rfl) hO) (cwV 1 hts gX6_town_X6_must rfl rfl rfl (by decide +kernel) ⟨Nat.le_of_ble_eq_true rfl, Nat.le_of_ble_eq_true rfl⟩) (dk_at340 hW) rfl hK hT hW hS rfl hl.1 rfl (Nat.le_of_ble_eq_true rfl) dX6_town_210 ⟨Nat.zero_le _, Nat.zero_le _⟩ (fun I87 H87 L87 hp87 hW hS => ?_)
                    obtain ⟨hF87, hO, hc87⟩ := hp87
                    have hF := dkF_call hF hF87 rfl
                    have hP := dkPP_F hP hF87 rfl
                    obtain ⟨f87_340_8, -⟩ := hc87
                    refine lv_aload_n hx hb dX6_town_213 rfl (lv_at hl 0 rfl) ?_
                    refine lv_iconst (v := 0) hx hb dX6_town_214 (by decide) ?_
                    refine dk_put (k := 340) hx hb hts iX6_town_6 tyX6 tyX6_ok nmX6 hown hK hW (dk_at340 hW) hS rfl 6 (by decide) (hts (.fieldLink RX6 82 "DogKingsModel" "taped" "I") (List.mem_of_getElem? (i := 6) rfl)) rfl rfl (Nat.le_of_ble_eq_true rfl) rfl dX6_town_215 (fun I88 H88 L88 eI88 hW hS => ?_)
                    have eI88 : I88 = dkU I87 340 6 0 := eI88
                    have hO := dkO_set hO eI88 (dkN_sub (dkN_lit (x := 0) (0) rfl) rfl)
                    have hF := dkF_set hF eI88 rfl
                    have hP := dkPP_set hP eI88 rfl
                    refine lv_aload_n hx hb dX6_town_218 rfl (lv_at hl 0 rfl) ?_
                    refine dk_Vi (As := []) (rest := []) ⟨hx, hb, hml, hown, hts⟩ (c_X6_isWell_4 l g z I88 (show dkN [(0, 2147483647)] (I88 340 8) from dkN_sub (by rw [eI88, dkU_sn (by decide)]; exact f87_340_8) rfl) hO) (cwV 0 hts gX6_town_X6_isWell rfl rfl rfl (by decide +kernel) ⟨Nat.le_of_ble_eq_true rfl, Nat.le_of_ble_eq_true rfl⟩) (dk_at340 hW) rfl hK hT hW hS rfl hl.1 rfl (Nat.le_of_ble_eq_true rfl) dX6_town_219 ⟨Nat.zero_le _, Nat.zero_le _⟩ (fun v89 I89 H89 L89 hp89 hW hS => ?_)
                    obtain ⟨hF89, hO, hc89⟩ := hp89
                    have hF := dkF_call hF hF89 rfl
                    have hP := dkPP_F hP hF89 rfl
                    obtain ⟨dv89, f89_340_8, -⟩ := hc89
                    refine lv_if_ne (tgt := 233) hx hb dX6_town_222 (by decide) (fun c90 => ?_) (fun c90 => ?_)
                    ·
                      exact (dkN_nil (show dkN [] v89 from dkN_ne1 (0) dv89 (dkN_lit (x := 0) (0) rfl) (dk_ne c90) rfl)).elim
                    ·
                      refine lv_ldc (v := (-1000100)) hx hb hown (hts (.constant RX6 137 (-1000100)) (List.mem_of_getElem? (i := 7) rfl)) dX6_town_225 ?_
                      refine lv_aload_n hx hb dX6_town_227 rfl (lv_at hl 0 rfl) ?_
                      refine dk_get (k := 340) hx hb hts iX6_town_6 hown hK (dk_at340 hW) rfl 8 (by decide) (hts (.fieldLink RX6 101 "DogKingsModel" "faultPlace" "I") (List.mem_of_getElem? (i := 3) rfl)) rfl dX6_town_228 ?_
                      refine lv_topi (fun v91 ev91 => ?_)
                      have dv91 : dkN [(0, 2147483647)] v91 := by rw [ev91]; exact f89_340_8
                      refine lv_isub hx hb dX6_town_231 ?_
                      refine lv_topi (fun v92 ev92 => ?_)
                      exact W.iret (v := v92) hx hb hr (fun t ht hW9 => ⟨⟨v92, I89, rfl, ⟨hF, hO, hP, ⟨trivial, (show dkN [(0, 0)] (I89 340 6) from dkN_sub (by rw [hF89 340 6 rfl]; exact (by rw [eI88, dkU_ss]; exact (dkN_lit (x := 0) (0) rfl))) rfl), (show dkN [(0, 0), (3, 9)] (I89 347 0) from dkN_sub (by rw [hF89 347 0 rfl]; exact (by rw [eI88, dkU_n (by decide)]; exact (by rw [hF87 347 0 rfl]; exact (by rw [hF81 347 0 rfl]; exact (by rw [hF79 347 0 rfl]; exact (by rw [hF77 347 0 rfl]; exact (by rw [hF63 347 0 rfl]; exact f134_1))))))) rfl), trivial⟩⟩, dkW_eq ht hW⟩, hS.F ht⟩) hS.2.2 dX6_town_232
                  ·
                    have d93 : dkN [(0, 0)] v83 := dkN_eq1 (dkN_top v83) (dkN_lit (x := 0) (0) rfl) (congrArg Int32.toInt c84) rfl
                    have f94 : dkN [(0, 0)] (I81 340 11) := by rw [← ev83]; exact d93
                    refine lv_iconst (v := 1) hx hb dX6_town_205 (by decide) ?_
                    refine lv_goto (tgt := 210) hx hb dX6_town_206 (by decide) ?_
                    refine dk_Vv (As := [.int 1]) (rest := []) ⟨hx, hb, hml, hown, hts⟩ (c_X6_must_5 l g z I81 1 (dkN_lit (x := 1) (1) rfl) (show dkN [(0, 2147483647)] (I81 340 8) from dkN_sub f81_340_8 rfl) hO) (cwV 1 hts gX6_town_X6_must rfl rfl rfl (by decide +kernel) ⟨Nat.le_of_ble_eq_true rfl, Nat.le_of_ble_eq_true rfl⟩) (dk_at340 hW) rfl hK hT hW hS rfl hl.1 rfl (Nat.le_of_ble_eq_true rfl) dX6_town_210 ⟨Nat.zero_le _, Nat.zero_le _⟩ (fun I95 H95 L95 hp95 hW hS => ?_)
                    obtain ⟨hF95, hO, hc95⟩ := hp95
                    have hF := dkF_call hF hF95 rfl
                    have hP := dkPP_F hP hF95 rfl
                    obtain ⟨f95_340_8, -⟩ := hc95
                    refine lv_aload_n hx hb dX6_town_213 rfl (lv_at hl 0 rfl) ?_
                    refine lv_iconst (v := 0) hx hb dX6_town_214 (by decide) ?_
                    refine dk_put (k := 340) hx hb hts iX6_town_6 tyX6 tyX6_ok nmX6 hown hK hW (dk_at340 hW) hS rfl 6 (by decide) (hts (.fieldLink RX6 82 "DogKingsModel" "taped" "I") (List.mem_of_getElem? (i := 6) rfl)) rfl rfl (Nat.le_of_ble_eq_true rfl) rfl dX6_town_215 (fun I96 H96 L96 eI96 hW hS => ?_)
                    have eI96 : I96 = dkU I95 340 6 0 := eI96
                    have hO := dkO_set hO eI96 (dkN_sub (dkN_lit (x := 0) (0) rfl) rfl)
                    have hF := dkF_set hF eI96 rfl
                    have hP := dkPP_set hP eI96 rfl
                    refine lv_aload_n hx hb dX6_town_218 rfl (lv_at hl 0 rfl) ?_
                    refine dk_Vi (As := []) (rest := []) ⟨hx, hb, hml, hown, hts⟩ (c_X6_isWell_4 l g z I96 (show dkN [(0, 2147483647)] (I96 340 8) from dkN_sub (by rw [eI96, dkU_sn (by decide)]; exact f95_340_8) rfl) hO) (cwV 0 hts gX6_town_X6_isWell rfl rfl rfl (by decide +kernel) ⟨Nat.le_of_ble_eq_true rfl, Nat.le_of_ble_eq_true rfl⟩) (dk_at340 hW) rfl hK hT hW hS rfl hl.1 rfl (Nat.le_of_ble_eq_true rfl) dX6_town_219 ⟨Nat.zero_le _, Nat.zero_le _⟩ (fun v97 I97 H97 L97 hp97 hW hS => ?_)
                    obtain ⟨hF97, hO, hc97⟩ := hp97
                    have hF := dkF_call hF hF97 rfl
                    have hP := dkPP_F hP hF97 rfl
                    obtain ⟨dv97, f97_340_8, -⟩ := hc97
                    refine lv_if_ne (tgt := 233) hx hb dX6_town_222 (by decide) (fun c98 => ?_) (fun c98 => ?_)
                    ·
                      exact (dkN_nil (show dkN [] v97 from dkN_ne1 (0) dv97 (dkN_lit (x := 0) (0) rfl) (dk_ne c98) rfl)).elim
                    ·
                      refine lv_ldc (v := (-1000100)) hx hb hown (hts (.constant RX6 137 (-1000100)) (List.mem_of_getElem? (i := 7) rfl)) dX6_town_225 ?_
                      refine lv_aload_n hx hb dX6_town_227 rfl (lv_at hl 0 rfl) ?_
                      refine dk_get (k := 340) hx hb hts iX6_town_6 hown hK (dk_at340 hW) rfl 8 (by decide) (hts (.fieldLink RX6 101 "DogKingsModel" "faultPlace" "I") (List.mem_of_getElem? (i := 3) rfl)) rfl dX6_town_228 ?_
                      refine lv_topi (fun v99 ev99 => ?_)
                      have dv99 : dkN [(0, 2147483647)] v99 := by rw [ev99]; exact f97_340_8
                      refine lv_isub hx hb dX6_town_231 ?_
                      refine lv_topi (fun v100 ev100 => ?_)
                      exact W.iret (v := v100) hx hb hr (fun t ht hW9 => ⟨⟨v100, I97, rfl, ⟨hF, hO, hP, ⟨trivial, (show dkN [(0, 0)] (I97 340 6) from dkN_sub (by rw [hF97 340 6 rfl]; exact (by rw [eI96, dkU_ss]; exact (dkN_lit (x := 0) (0) rfl))) rfl), (show dkN [(0, 0), (3, 9)] (I97 347 0) from dkN_sub (by rw [hF97 347 0 rfl]; exact (by rw [eI96, dkU_n (by decide)]; exact (by rw [hF95 347 0 rfl]; exact (by rw [hF81 347 0 rfl]; exact (by rw [hF79 347 0 rfl]; exact (by rw [hF77 347 0 rfl]; exact (by rw [hF63 347 0 rfl]; exact f134_1))))))) rfl), trivial⟩⟩, dkW_eq ht hW⟩, hS.F ht⟩) hS.2.2 dX6_town_232
                ·
                  exact (dkN_nil (show dkN [] v81 from dkN_ne1 (0) dv81 (dkN_lit (x := 0) (0) rfl) (dk_ne c82) rfl)).elim
              ·
                exact (dkN_nil (show dkN [] v79 from dkN_ne1 (0) dv79 (dkN_lit (x := 0) (0) rfl) (dk_ne c80) rfl)).elim
  have C103 : ∀ (I : dkI) (H : Heap) (locs : List Loc) (ls : Array Slot) (x103_1 : Int32) (x103_s0 : Int32), dkW g z I H → va_S (dkA z) s.heap H locs → dkF [(340, 340, 6, 12), (340, 340, 17, 17), (346, 346, 0, 53), (347, 347, 0, 53)] I0 I → dkOk I → dkPP I → dkN [(54, 54)] x103_1 → dkN [(0, 1)] x103_s0 → dkN [(-1, 90)] (I 340 8) → dkN [(0, 0), (3, 9)] (I 347 0) → lv_has ls 2 [(0, .ref (z + 340)), (1, .int x103_1)] → W p l e (headSpec wsX6_town (dkR 6)).room s m args below meth c H locs 0 0 (MQ below (dkQi g z (fun r I1 => dkF [(340, 340, 6, 12), (340, 340, 17, 17), (346, 346, 0, 53), (347, 347, 0, 53)] I0 I1 ∧ dkOk I1 ∧ dkPP I1 ∧ ((True ∧ dkN [(0, 0)] (I1 340 6) ∧ dkN [(0, 0), (3, 9)] (I1 347 0) ∧ True)))) args s 0 0 (dkA z)) (F0 m 103 ls [.int x103_s0, .ref (z + 340)]) := by
    intro I103_ H locs ls x103_1 x103_s0 hW hS hF_103 hO hP k103_0 k103_1 f103_0 f103_1 hl
    have hF := hF_103
    refine lv_iconst (v := 1) hx hb dX6_town_103 (by decide) ?_
    refine dk_Vi (As := [.int x103_s0, .int 1]) (rest := []) ⟨hx, hb, hml, hown, hts⟩ (c_X6_takes_9 l g z I103_ x103_s0 1 k103_1 (dkN_lit (x := 1) (1) rfl) (show dkN [(-1, 90)] (I103_ 340 8) from dkN_sub f103_0 rfl) hO) (cwV 2 hts gX6_town_X6_takes rfl rfl rfl (by decide +kernel) ⟨Nat.le_of_ble_eq_true rfl, Nat.le_of_ble_eq_true rfl⟩) (dk_at340 hW) rfl hK hT hW hS rfl hl.1 rfl (Nat.le_of_ble_eq_true rfl) dX6_town_104 ⟨Nat.zero_le _, Nat.zero_le _⟩ (fun v101 I101 H101 L101 hp101 hW hS => ?_)
    obtain ⟨hF101, hO, hc101⟩ := hp101
    have hF := dkF_call hF hF101 rfl
    have hP := dkPP_F hP hF101 rfl
    obtain ⟨_, f101_340_8, -⟩ := hc101
    refine lv_pop hx hb dX6_town_107 rfl ?_
    refine lv_aload_n hx hb dX6_town_108 rfl (lv_at hl 0 rfl) ?_
    refine lv_aload_n hx hb dX6_town_109 rfl (lv_at hl 0 rfl) ?_
    refine dk_get (k := 340) hx hb hts iX6_town_6 hown hK (dk_at340 hW) rfl 11 (by decide) (hts (.fieldLink RX6 98 "DogKingsModel" "token" "I") (List.mem_of_getElem? (i := 4) rfl)) rfl dX6_town_110 ?_
    refine lv_topi (fun v102 ev102 => ?_)
    refine lv_iconst (v := 1) hx hb dX6_town_113 (by decide) ?_
    refine lv_icmp_ne (tgt := 130) hx hb dX6_town_114 (by decide) (fun c103 => ?_) (fun c103 => ?_)
    ·
      have d104 : dkN [(-2147483648, 0), (2, 2147483647)] v102 := dkN_ne1 (1) (dkN_top v102) (dkN_lit (x := 1) (1) rfl) (dk_ne c103) rfl
      have f105 : dkN [(-2147483648, 0), (2, 2147483647)] (I101 340 11) := by rw [← ev102]; exact d104
      refine lv_iconst (v := 0) hx hb dX6_town_130 (by decide) ?_
      refine dk_Vv (As := [.int 0]) (rest := []) ⟨hx, hb, hml, hown, hts⟩ (c_X6_must_0 l g z I101 0 (dkN_lit (x := 0) (0) rfl) (show dkN [(-1, 90)] (I101 340 8) from dkN_sub f101_340_8 rfl) hO) (cwV 1 hts gX6_town_X6_must rfl rfl rfl (by decide +kernel) ⟨Nat.le_of_ble_eq_true rfl, Nat.le_of_ble_eq_true rfl⟩) (dk_at340 hW) rfl hK hT hW hS rfl hl.1 rfl (Nat.le_of_ble_eq_true rfl) dX6_town_131 ⟨Nat.zero_le _, Nat.zero_le _⟩ (fun I106 H106 L106 hp106 hW hS => ?_)
      obtain ⟨hF106, hO, hc106⟩ := hp106
      have hF := dkF_call hF hF106 rfl
      have hP := dkPP_F hP hF106 rfl
      obtain ⟨f106_340_8, -⟩ := hc106
      refine lv_aload_n hx hb dX6_town_134 rfl (lv_at hl 0 rfl) ?_
      refine dk_Vi (As := []) (rest := []) ⟨hx, hb, hml, hown, hts⟩ (c_X6_isWell_2 l g z I106 (show dkN [(0, 90)] (I106 340 8) from dkN_sub f106_340_8 rfl) hO) (cwV 0 hts gX6_town_X6_isWell rfl rfl rfl (by decide +kernel) ⟨Nat.le_of_ble_eq_true rfl, Nat.le_of_ble_eq_true rfl⟩) (dk_at340 hW) rfl hK hT hW hS rfl hl.1 rfl (Nat.le_of_ble_eq_true rfl) dX6_town_135 ⟨Nat.zero_le _, Nat.zero_le _⟩ (fun v107 I107 H107 L107 hp107 hW hS => ?_)
      obtain ⟨hF107, hO, hc107⟩ := hp107
      have hF := dkF_call hF hF107 rfl
      have hP := dkPP_F hP hF107 rfl
      obtain ⟨dv107, f107_340_8, -⟩ := hc107
      refine lv_if_eq (tgt := 165) hx hb dX6_town_138 (by decide) (fun c108 => ?_) (fun c108 => ?_)
      ·
        refine lv_aload_n hx hb dX6_town_165 rfl (lv_at hl 0 rfl) ?_
        refine dk_Vi (As := []) (rest := []) ⟨hx, hb, hml, hown, hts⟩ (c_X6_isWell_2 l g z I107 (show dkN [(0, 90)] (I107 340 8) from dkN_sub f107_340_8 rfl) hO) (cwV 0 hts gX6_town_X6_isWell rfl rfl rfl (by decide +kernel) ⟨Nat.le_of_ble_eq_true rfl, Nat.le_of_ble_eq_true rfl⟩) (dk_at340 hW) rfl hK hT hW hS rfl hl.1 rfl (Nat.le_of_ble_eq_true rfl) dX6_town_166 ⟨Nat.zero_le _, Nat.zero_le _⟩ (fun v109 I109 H109 L109 hp109 hW hS => ?_)
        obtain ⟨hF109, hO, hc109⟩ := hp109
        have hF := dkF_call hF hF109 rfl
        have hP := dkPP_F hP hF109 rfl
        obtain ⟨dv109, f109_340_8, -⟩ := hc109
        refine lv_if_eq (tgt := 197) hx hb dX6_town_169 (by decide) (fun c110 => ?_) (fun c110 => ?_)
        ·
          refine lv_aload_n hx hb dX6_town_197 rfl (lv_at hl 0 rfl) ?_
          refine lv_aload_n hx hb dX6_town_198 rfl (lv_at hl 0 rfl) ?_
          refine dk_get (k := 340) hx hb hts iX6_town_6 hown hK (dk_at340 hW) rfl 11 (by decide) (hts (.fieldLink RX6 98 "DogKingsModel" "token" "I") (List.mem_of_getElem? (i := 4) rfl)) rfl dX6_town_199 ?_
          refine lv_topi (fun v111 ev111 => ?_)
          have dv111 : dkN [(-2147483648, 0), (2, 2147483647)] v111 := by rw [ev111]; exact (by rw [hF109 340 11 rfl]; exact (by rw [hF107 340 11 rfl]; exact (by rw [hF106 340 11 rfl]; exact f105)))
          refine lv_if_ne (tgt := 209) hx hb dX6_town_202 (by decide) (fun c112 => ?_) (fun c112 => ?_)
          ·
            have d113 : dkN [(-2147483648, -1), (2, 2147483647)] v111 := dkN_ne1 (0) dv111 (dkN_lit (x := 0) (0) rfl) (dk_ne c112) rfl
            have f114 : dkN [(-2147483648, -1), (2, 2147483647)] (I109 340 11) := by rw [← ev111]; exact d113
            refine lv_iconst (v := 0) hx hb dX6_town_209 (by decide) ?_
            refine dk_Vv (As := [.int 0]) (rest := []) ⟨hx, hb, hml, hown, hts⟩ (c_X6_must_1 l g z I109 0 (dkN_lit (x := 0) (0) rfl) (show dkN [(0, 90)] (I109 340 8) from dkN_sub f109_340_8 rfl) hO) (cwV 1 hts gX6_town_X6_must rfl rfl rfl (by decide +kernel) ⟨Nat.le_of_ble_eq_true rfl, Nat.le_of_ble_eq_true rfl⟩) (dk_at340 hW) rfl hK hT hW hS rfl hl.1 rfl (Nat.le_of_ble_eq_true rfl) dX6_town_210 ⟨Nat.zero_le _, Nat.zero_le _⟩ (fun I115 H115 L115 hp115 hW hS => ?_)
            obtain ⟨hF115, hO, hc115⟩ := hp115
            have hF := dkF_call hF hF115 rfl
            have hP := dkPP_F hP hF115 rfl
            obtain ⟨f115_340_8, -⟩ := hc115
            refine lv_aload_n hx hb dX6_town_213 rfl (lv_at hl 0 rfl) ?_
            refine lv_iconst (v := 0) hx hb dX6_town_214 (by decide) ?_
            refine dk_put (k := 340) hx hb hts iX6_town_6 tyX6 tyX6_ok nmX6 hown hK hW (dk_at340 hW) hS rfl 6 (by decide) (hts (.fieldLink RX6 82 "DogKingsModel" "taped" "I") (List.mem_of_getElem? (i := 6) rfl)) rfl rfl (Nat.le_of_ble_eq_true rfl) rfl dX6_town_215 (fun I116 H116 L116 eI116 hW hS => ?_)
            have eI116 : I116 = dkU I115 340 6 0 := eI116
            have hO := dkO_set hO eI116 (dkN_sub (dkN_lit (x := 0) (0) rfl) rfl)
            have hF := dkF_set hF eI116 rfl
            have hP := dkPP_set hP eI116 rfl
            refine lv_aload_n hx hb dX6_town_218 rfl (lv_at hl 0 rfl) ?_
            refine dk_Vi (As := []) (rest := []) ⟨hx, hb, hml, hown, hts⟩ (c_X6_isWell_2 l g z I116 (show dkN [(0, 90)] (I116 340 8) from dkN_sub (by rw [eI116, dkU_sn (by decide)]; exact f115_340_8) rfl) hO) (cwV 0 hts gX6_town_X6_isWell rfl rfl rfl (by decide +kernel) ⟨Nat.le_of_ble_eq_true rfl, Nat.le_of_ble_eq_true rfl⟩) (dk_at340 hW) rfl hK hT hW hS rfl hl.1 rfl (Nat.le_of_ble_eq_true rfl) dX6_town_219 ⟨Nat.zero_le _, Nat.zero_le _⟩ (fun v117 I117 H117 L117 hp117 hW hS => ?_)
            obtain ⟨hF117, hO, hc117⟩ := hp117
            have hF := dkF_call hF hF117 rfl
            have hP := dkPP_F hP hF117 rfl
            obtain ⟨dv117, f117_340_8, -⟩ := hc117
            refine lv_if_ne (tgt := 233) hx hb dX6_town_222 (by decide) (fun c118 => ?_) (fun c118 => ?_)
            ·
              exact (dkN_nil (show dkN [] v117 from dkN_ne1 (0) dv117 (dkN_lit (x := 0) (0) rfl) (dk_ne c118) rfl)).elim
            ·
              refine lv_ldc (v := (-1000100)) hx hb hown (hts (.constant RX6 137 (-1000100)) (List.mem_of_getElem? (i := 7) rfl)) dX6_town_225 ?_
              refine lv_aload_n hx hb dX6_town_227 rfl (lv_at hl 0 rfl) ?_
              refine dk_get (k := 340) hx hb hts iX6_town_6 hown hK (dk_at340 hW) rfl 8 (by decide) (hts (.fieldLink RX6 101 "DogKingsModel" "faultPlace" "I") (List.mem_of_getElem? (i := 3) rfl)) rfl dX6_town_228 ?_
              refine lv_topi (fun v119 ev119 => ?_)
              have dv119 : dkN [(0, 90)] v119 := by rw [ev119]; exact f117_340_8
              refine lv_isub hx hb dX6_town_231 ?_
              refine lv_topi (fun v120 ev120 => ?_)
              have dv120 : dkN [(-1000190, -1000100)] v120 := by rw [ev120]; exact dkN_subt (dkN_lit (x := (-1000100)) (-1000100) rfl) dv119 rfl
              exact W.iret (v := v120) hx hb hr (fun t ht hW9 => ⟨⟨v120, I117, rfl, ⟨hF, hO, hP, ⟨trivial, (show dkN [(0, 0)] (I117 340 6) from dkN_sub (by rw [hF117 340 6 rfl]; exact (by rw [eI116, dkU_ss]; exact (dkN_lit (x := 0) (0) rfl))) rfl), (show dkN [(0, 0), (3, 9)] (I117 347 0) from dkN_sub (by rw [hF117 347 0 rfl]; exact (by rw [eI116, dkU_n (by decide)]; exact (by rw [hF115 347 0 rfl]; exact (by rw [hF109 347 0 rfl]; exact (by rw [hF107 347 0 rfl]; exact (by rw [hF106 347 0 rfl]; exact (by rw [hF101 347 0 rfl]; exact f103_1))))))) rfl), trivial⟩⟩, dkW_eq ht hW⟩, hS.F ht⟩) hS.2.2 dX6_town_232
          ·
            have d121 : dkN [(0, 0)] v111 := dkN_eq1 dv111 (dkN_lit (x := 0) (0) rfl) (congrArg Int32.toInt c112) rfl
            have f122 : dkN [(0, 0)] (I109 340 11) := by rw [← ev111]; exact d121
            refine lv_iconst (v := 1) hx hb dX6_town_205 (by decide) ?_
            refine lv_goto (tgt := 210) hx hb dX6_town_206 (by decide) ?_
            refine dk_Vv (As := [.int 1]) (rest := []) ⟨hx, hb, hml, hown, hts⟩ (c_X6_must_2 l g z I109 1 (dkN_lit (x := 1) (1) rfl) (show dkN [(0, 90)] (I109 340 8) from dkN_sub f109_340_8 rfl) hO) (cwV 1 hts gX6_town_X6_must rfl rfl rfl (by decide +kernel) ⟨Nat.le_of_ble_eq_true rfl, Nat.le_of_ble_eq_true rfl⟩) (dk_at340 hW) rfl hK hT hW hS rfl hl.1 rfl (Nat.le_of_ble_eq_true rfl) dX6_town_210 ⟨Nat.zero_le _, Nat.zero_le _⟩ (fun I123 H123 L123 hp123 hW hS => ?_)
            obtain ⟨hF123, hO, hc123⟩ := hp123
            have hF := dkF_call hF hF123 rfl
            have hP := dkPP_F hP hF123 rfl
            obtain ⟨f123_340_8, -⟩ := hc123
            refine lv_aload_n hx hb dX6_town_213 rfl (lv_at hl 0 rfl) ?_
            refine lv_iconst (v := 0) hx hb dX6_town_214 (by decide) ?_
            refine dk_put (k := 340) hx hb hts iX6_town_6 tyX6 tyX6_ok nmX6 hown hK hW (dk_at340 hW) hS rfl 6 (by decide) (hts (.fieldLink RX6 82 "DogKingsModel" "taped" "I") (List.mem_of_getElem? (i := 6) rfl)) rfl rfl (Nat.le_of_ble_eq_true rfl) rfl dX6_town_215 (fun I124 H124 L124 eI124 hW hS => ?_)
            have eI124 : I124 = dkU I123 340 6 0 := eI124
            have hO := dkO_set hO eI124 (dkN_sub (dkN_lit (x := 0) (0) rfl) rfl)
            have hF := dkF_set hF eI124 rfl
            have hP := dkPP_set hP eI124 rfl
            refine lv_aload_n hx hb dX6_town_218 rfl (lv_at hl 0 rfl) ?_
            refine dk_Vi (As := []) (rest := []) ⟨hx, hb, hml, hown, hts⟩ (c_X6_isWell_2 l g z I124 (show dkN [(0, 90)] (I124 340 8) from dkN_sub (by rw [eI124, dkU_sn (by decide)]; exact f123_340_8) rfl) hO) (cwV 0 hts gX6_town_X6_isWell rfl rfl rfl (by decide +kernel) ⟨Nat.le_of_ble_eq_true rfl, Nat.le_of_ble_eq_true rfl⟩) (dk_at340 hW) rfl hK hT hW hS rfl hl.1 rfl (Nat.le_of_ble_eq_true rfl) dX6_town_219 ⟨Nat.zero_le _, Nat.zero_le _⟩ (fun v125 I125 H125 L125 hp125 hW hS => ?_)
            obtain ⟨hF125, hO, hc125⟩ := hp125
            have hF := dkF_call hF hF125 rfl
            have hP := dkPP_F hP hF125 rfl
            obtain ⟨dv125, f125_340_8, -⟩ := hc125
            refine lv_if_ne (tgt := 233) hx hb dX6_town_222 (by decide) (fun c126 => ?_) (fun c126 => ?_)
            ·
              exact (dkN_nil (show dkN [] v125 from dkN_ne1 (0) dv125 (dkN_lit (x := 0) (0) rfl) (dk_ne c126) rfl)).elim
            ·
              refine lv_ldc (v := (-1000100)) hx hb hown (hts (.constant RX6 137 (-1000100)) (List.mem_of_getElem? (i := 7) rfl)) dX6_town_225 ?_
              refine lv_aload_n hx hb dX6_town_227 rfl (lv_at hl 0 rfl) ?_
              refine dk_get (k := 340) hx hb hts iX6_town_6 hown hK (dk_at340 hW) rfl 8 (by decide) (hts (.fieldLink RX6 101 "DogKingsModel" "faultPlace" "I") (List.mem_of_getElem? (i := 3) rfl)) rfl dX6_town_228 ?_
              refine lv_topi (fun v127 ev127 => ?_)
              have dv127 : dkN [(0, 90)] v127 := by rw [ev127]; exact f125_340_8
              refine lv_isub hx hb dX6_town_231 ?_
              refine lv_topi (fun v128 ev128 => ?_)
              have dv128 : dkN [(-1000190, -1000100)] v128 := by rw [ev128]; exact dkN_subt (dkN_lit (x := (-1000100)) (-1000100) rfl) dv127 rfl
              exact W.iret (v := v128) hx hb hr (fun t ht hW9 => ⟨⟨v128, I125, rfl, ⟨hF, hO, hP, ⟨trivial, (show dkN [(0, 0)] (I125 340 6) from dkN_sub (by rw [hF125 340 6 rfl]; exact (by rw [eI124, dkU_ss]; exact (dkN_lit (x := 0) (0) rfl))) rfl), (show dkN [(0, 0), (3, 9)] (I125 347 0) from dkN_sub (by rw [hF125 347 0 rfl]; exact (by rw [eI124, dkU_n (by decide)]; exact (by rw [hF123 347 0 rfl]; exact (by rw [hF109 347 0 rfl]; exact (by rw [hF107 347 0 rfl]; exact (by rw [hF106 347 0 rfl]; exact (by rw [hF101 347 0 rfl]; exact f103_1))))))) rfl), trivial⟩⟩, dkW_eq ht hW⟩, hS.F ht⟩) hS.2.2 dX6_town_232
        ·
          exact (dkN_nil (show dkN [] v109 from dkN_ne1 (0) dv109 (dkN_lit (x := 0) (0) rfl) (dk_ne c110) rfl)).elim
      ·
        exact (dkN_nil (show dkN [] v107 from dkN_ne1 (0) dv107 (dkN_lit (x := 0) (0) rfl) (dk_ne c108) rfl)).elim
    ·
      have d129 : dkN [(1, 1)] v102 := dkN_eq1 (dkN_top v102) (dkN_lit (x := 1) (1) rfl) (congrArg Int32.toInt c103) rfl
      have f130 : dkN [(1, 1)] (I101 340 11) := by rw [← ev102]; exact d129
      refine lv_aload_n hx hb dX6_town_117 rfl (lv_at hl 0 rfl) ?_
      refine dk_get (k := 340) hx hb hts iX6_town_6 hown hK (dk_at340 hW) rfl 12 (by decide) (hts (.fieldLink RX6 95 "DogKingsModel" "value" "I") (List.mem_of_getElem? (i := 5) rfl)) rfl dX6_town_118 ?_
      refine lv_topi (fun v131 ev131 => ?_)
      refine lv_bipush (v := 109) hx hb dX6_town_121 (by decide) ?_
      refine lv_icmp_ne (tgt := 130) hx hb dX6_town_123 (by decide) (fun c132 => ?_) (fun c132 => ?_)
      ·
        have d133 : dkN [(-2147483648, 108), (110, 2147483647)] v131 := dkN_ne1 (109) (dkN_top v131) (dkN_lit (x := 109) (109) rfl) (dk_ne c132) rfl
        have f134 : dkN [(-2147483648, 108), (110, 2147483647)] (I101 340 12) := by rw [← ev131]; exact d133
        refine lv_iconst (v := 0) hx hb dX6_town_130 (by decide) ?_
        refine dk_Vv (As := [.int 0]) (rest := []) ⟨hx, hb, hml, hown, hts⟩ (c_X6_must_0 l g z I101 0 (dkN_lit (x := 0) (0) rfl) (show dkN [(-1, 90)] (I101 340 8) from dkN_sub f101_340_8 rfl) hO) (cwV 1 hts gX6_town_X6_must rfl rfl rfl (by decide +kernel) ⟨Nat.le_of_ble_eq_true rfl, Nat.le_of_ble_eq_true rfl⟩) (dk_at340 hW) rfl hK hT hW hS rfl hl.1 rfl (Nat.le_of_ble_eq_true rfl) dX6_town_131 ⟨Nat.zero_le _, Nat.zero_le _⟩ (fun I135 H135 L135 hp135 hW hS => ?_)
        obtain ⟨hF135, hO, hc135⟩ := hp135
        have hF := dkF_call hF hF135 rfl
        have hP := dkPP_F hP hF135 rfl
        obtain ⟨f135_340_8, -⟩ := hc135
        refine lv_aload_n hx hb dX6_town_134 rfl (lv_at hl 0 rfl) ?_
        refine dk_Vi (As := []) (rest := []) ⟨hx, hb, hml, hown, hts⟩ (c_X6_isWell_2 l g z I135 (show dkN [(0, 90)] (I135 340 8) from dkN_sub f135_340_8 rfl) hO) (cwV 0 hts gX6_town_X6_isWell rfl rfl rfl (by decide +kernel) ⟨Nat.le_of_ble_eq_true rfl, Nat.le_of_ble_eq_true rfl⟩) (dk_at340 hW) rfl hK hT hW hS rfl hl.1 rfl (Nat.le_of_ble_eq_true rfl) dX6_town_135 ⟨Nat.zero_le _, Nat.zero_le _⟩ (fun v136 I136 H136 L136 hp136 hW hS => ?_)
        obtain ⟨hF136, hO, hc136⟩ := hp136
        have hF := dkF_call hF hF136 rfl
        have hP := dkPP_F hP hF136 rfl
        obtain ⟨dv136, f136_340_8, -⟩ := hc136
        refine lv_if_eq (tgt := 165) hx hb dX6_town_138 (by decide) (fun c137 => ?_) (fun c137 => ?_)
        ·
          refine lv_aload_n hx hb dX6_town_165 rfl (lv_at hl 0 rfl) ?_
          refine dk_Vi (As := []) (rest := []) ⟨hx, hb, hml, hown, hts⟩ (c_X6_isWell_2 l g z I136 (show dkN [(0, 90)] (I136 340 8) from dkN_sub f136_340_8 rfl) hO) (cwV 0 hts gX6_town_X6_isWell rfl rfl rfl (by decide +kernel) ⟨Nat.le_of_ble_eq_true rfl, Nat.le_of_ble_eq_true rfl⟩) (dk_at340 hW) rfl hK hT hW hS rfl hl.1 rfl (Nat.le_of_ble_eq_true rfl) dX6_town_166 ⟨Nat.zero_le _, Nat.zero_le _⟩ (fun v138 I138 H138 L138 hp138 hW hS => ?_)
          obtain ⟨hF138, hO, hc138⟩ := hp138
          have hF := dkF_call hF hF138 rfl
          have hP := dkPP_F hP hF138 rfl
          obtain ⟨dv138, f138_340_8, -⟩ := hc138
          refine lv_if_eq (tgt := 197) hx hb dX6_town_169 (by decide) (fun c139 => ?_) (fun c139 => ?_)
          ·
            refine lv_aload_n hx hb dX6_town_197 rfl (lv_at hl 0 rfl) ?_
            refine lv_aload_n hx hb dX6_town_198 rfl (lv_at hl 0 rfl) ?_
            refine dk_get (k := 340) hx hb hts iX6_town_6 hown hK (dk_at340 hW) rfl 11 (by decide) (hts (.fieldLink RX6 98 "DogKingsModel" "token" "I") (List.mem_of_getElem? (i := 4) rfl)) rfl dX6_town_199 ?_
            refine lv_topi (fun v140 ev140 => ?_)
            have dv140 : dkN [(1, 1)] v140 := by rw [ev140]; exact (by rw [hF138 340 11 rfl]; exact (by rw [hF136 340 11 rfl]; exact (by rw [hF135 340 11 rfl]; exact f130)))
            refine lv_if_ne (tgt := 209) hx hb dX6_town_202 (by decide) (fun c141 => ?_) (fun c141 => ?_)
            ·
              refine lv_iconst (v := 0) hx hb dX6_town_209 (by decide) ?_
              refine dk_Vv (As := [.int 0]) (rest := []) ⟨hx, hb, hml, hown, hts⟩ (c_X6_must_1 l g z I138 0 (dkN_lit (x := 0) (0) rfl) (show dkN [(0, 90)] (I138 340 8) from dkN_sub f138_340_8 rfl) hO) (cwV 1 hts gX6_town_X6_must rfl rfl rfl (by decide +kernel) ⟨Nat.le_of_ble_eq_true rfl, Nat.le_of_ble_eq_true rfl⟩) (dk_at340 hW) rfl hK hT hW hS rfl hl.1 rfl (Nat.le_of_ble_eq_true rfl) dX6_town_210 ⟨Nat.zero_le _, Nat.zero_le _⟩ (fun I142 H142 L142 hp142 hW hS => ?_)
              obtain ⟨hF142, hO, hc142⟩ := hp142
              have hF := dkF_call hF hF142 rfl
              have hP := dkPP_F hP hF142 rfl
              obtain ⟨f142_340_8, -⟩ := hc142
              refine lv_aload_n hx hb dX6_town_213 rfl (lv_at hl 0 rfl) ?_
              refine lv_iconst (v := 0) hx hb dX6_town_214 (by decide) ?_
              refine dk_put (k := 340) hx hb hts iX6_town_6 tyX6 tyX6_ok nmX6 hown hK hW (dk_at340 hW) hS rfl 6 (by decide) (hts (.fieldLink RX6 82 "DogKingsModel" "taped" "I") (List.mem_of_getElem? (i := 6) rfl)) rfl rfl (Nat.le_of_ble_eq_true rfl) rfl dX6_town_215 (fun I143 H143 L143 eI143 hW hS => ?_)
              have eI143 : I143 = dkU I142 340 6 0 := eI143
              have hO := dkO_set hO eI143 (dkN_sub (dkN_lit (x := 0) (0) rfl) rfl)
              have hF := dkF_set hF eI143 rfl
              have hP := dkPP_set hP eI143 rfl
              refine lv_aload_n hx hb dX6_town_218 rfl (lv_at hl 0 rfl) ?_
              refine dk_Vi (As := []) (rest := []) ⟨hx, hb, hml, hown, hts⟩ (c_X6_isWell_2 l g z I143 (show dkN [(0, 90)] (I143 340 8) from dkN_sub (by rw [eI143, dkU_sn (by decide)]; exact f142_340_8) rfl) hO) (cwV 0 hts gX6_town_X6_isWell rfl rfl rfl (by decide +kernel) ⟨Nat.le_of_ble_eq_true rfl, Nat.le_of_ble_eq_true rfl⟩) (dk_at340 hW) rfl hK hT hW hS rfl hl.1 rfl (Nat.le_of_ble_eq_true rfl) dX6_town_219 ⟨Nat.zero_le _, Nat.zero_le _⟩ (fun v144 I144 H144 L144 hp144 hW hS => ?_)
              obtain ⟨hF144, hO, hc144⟩ := hp144
              have hF := dkF_call hF hF144 rfl
              have hP := dkPP_F hP hF144 rfl
              obtain ⟨dv144, f144_340_8, -⟩ := hc144
              refine lv_if_ne (tgt := 233) hx hb dX6_town_222 (by decide) (fun c145 => ?_) (fun c145 => ?_)
              ·
                exact (dkN_nil (show dkN [] v144 from dkN_ne1 (0) dv144 (dkN_lit (x := 0) (0) rfl) (dk_ne c145) rfl)).elim
              ·
                refine lv_ldc (v := (-1000100)) hx hb hown (hts (.constant RX6 137 (-1000100)) (List.mem_of_getElem? (i := 7) rfl)) dX6_town_225 ?_
                refine lv_aload_n hx hb dX6_town_227 rfl (lv_at hl 0 rfl) ?_
                refine dk_get (k := 340) hx hb hts iX6_town_6 hown hK (dk_at340 hW) rfl 8 (by decide) (hts (.fieldLink RX6 101 "DogKingsModel" "faultPlace" "I") (List.mem_of_getElem? (i := 3) rfl)) rfl dX6_town_228 ?_
                refine lv_topi (fun v146 ev146 => ?_)
                have dv146 : dkN [(0, 90)] v146 := by rw [ev146]; exact f144_340_8
                refine lv_isub hx hb dX6_town_231 ?_
                refine lv_topi (fun v147 ev147 => ?_)
                have dv147 : dkN [(-1000190, -1000100)] v147 := by rw [ev147]; exact dkN_subt (dkN_lit (x := (-1000100)) (-1000100) rfl) dv146 rfl
                exact W.iret (v := v147) hx hb hr (fun t ht hW9 => ⟨⟨v147, I144, rfl, ⟨hF, hO, hP, ⟨trivial, (show dkN [(0, 0)] (I144 340 6) from dkN_sub (by rw [hF144 340 6 rfl]; exact (by rw [eI143, dkU_ss]; exact (dkN_lit (x := 0) (0) rfl))) rfl), (show dkN [(0, 0), (3, 9)] (I144 347 0) from dkN_sub (by rw [hF144 347 0 rfl]; exact (by rw [eI143, dkU_n (by decide)]; exact (by rw [hF142 347 0 rfl]; exact (by rw [hF138 347 0 rfl]; exact (by rw [hF136 347 0 rfl]; exact (by rw [hF135 347 0 rfl]; exact (by rw [hF101 347 0 rfl]; exact f103_1))))))) rfl), trivial⟩⟩, dkW_eq ht hW⟩, hS.F ht⟩) hS.2.2 dX6_town_232
            ·
              exact (dkN_nil (show dkN [] v140 from dkN_eq1 dv140 (dkN_lit (x := 0) (0) rfl) (congrArg Int32.toInt c141) rfl)).elim
          ·
            exact (dkN_nil (show dkN [] v138 from dkN_ne1 (0) dv138 (dkN_lit (x := 0) (0) rfl) (dk_ne c139) rfl)).elim
        ·
          exact (dkN_nil (show dkN [] v136 from dkN_ne1 (0) dv136 (dkN_lit (x := 0) (0) rfl) (dk_ne c137) rfl)).elim
      ·
        have d148 : dkN [(109, 109)] v131 := dkN_eq1 (dkN_top v131) (dkN_lit (x := 109) (109) rfl) (congrArg Int32.toInt c132) rfl
        have f149 : dkN [(109, 109)] (I101 340 12) := by rw [← ev131]; exact d148
        refine lv_iconst (v := 1) hx hb dX6_town_126 (by decide) ?_
        refine lv_goto (tgt := 131) hx hb dX6_town_127 (by decide) ?_
        refine dk_Vv (As := [.int 1]) (rest := []) ⟨hx, hb, hml, hown, hts⟩ (c_X6_must_3 l g z I101 1 (dkN_lit (x := 1) (1) rfl) (show dkN [(-1, 90)] (I101 340 8) from dkN_sub f101_340_8 rfl) hO) (cwV 1 hts gX6_town_X6_must rfl rfl rfl (by decide +kernel) ⟨Nat.le_of_ble_eq_true rfl, Nat.le_of_ble_eq_true rfl⟩) (dk_at340 hW) rfl hK hT hW hS rfl hl.1 rfl (Nat.le_of_ble_eq_true rfl) dX6_town_131 ⟨Nat.zero_le _, Nat.zero_le _⟩ (fun I150 H150 L150 hp150 hW hS => ?_)
        obtain ⟨hF150, hO, hc150⟩ := hp150
        have hF := dkF_call hF hF150 rfl
        have hP := dkPP_F hP hF150 rfl
        obtain ⟨f150_340_8, -⟩ := hc150
        refine lv_aload_n hx hb dX6_town_134 rfl (lv_at hl 0 rfl) ?_
        refine dk_Vi (As := []) (rest := []) ⟨hx, hb, hml, hown, hts⟩ (c_X6_isWell_1 l g z I150 (show dkN [(-1, 90)] (I150 340 8) from dkN_sub f150_340_8 rfl) hO) (cwV 0 hts gX6_town_X6_isWell rfl rfl rfl (by decide +kernel) ⟨Nat.le_of_ble_eq_true rfl, Nat.le_of_ble_eq_true rfl⟩) (dk_at340 hW) rfl hK hT hW hS rfl hl.1 rfl (Nat.le_of_ble_eq_true rfl) dX6_town_135 ⟨Nat.zero_le _, Nat.zero_le _⟩ (fun v151 I151 H151 L151 hp151 hW hS => ?_)
        obtain ⟨hF151, hO, hc151⟩ := hp151
        have hF := dkF_call hF hF151 rfl
        have hP := dkPP_F hP hF151 rfl
        rcases hc151 with ⟨dv151, f151_340_8, -⟩ | hc151
        ·
          refine lv_if_eq (tgt := 165) hx hb dX6_town_138 (by decide) (fun c152 => ?_) (fun c152 => ?_)
          ·
            refine lv_aload_n hx hb dX6_town_165 rfl (lv_at hl 0 rfl) ?_
            refine dk_Vi (As := []) (rest := []) ⟨hx, hb, hml, hown, hts⟩ (c_X6_isWell_2 l g z I151 (show dkN [(0, 90)] (I151 340 8) from dkN_sub f151_340_8 rfl) hO) (cwV 0 hts gX6_town_X6_isWell rfl rfl rfl (by decide +kernel) ⟨Nat.le_of_ble_eq_true rfl, Nat.le_of_ble_eq_true rfl⟩) (dk_at340 hW) rfl hK hT hW hS rfl hl.1 rfl (Nat.le_of_ble_eq_true rfl) dX6_town_166 ⟨Nat.zero_le _, Nat.zero_le _⟩ (fun v153 I153 H153 L153 hp153 hW hS => ?_)
            obtain ⟨hF153, hO, hc153⟩ := hp153
            have hF := dkF_call hF hF153 rfl
            have hP := dkPP_F hP hF153 rfl
            obtain ⟨dv153, f153_340_8, -⟩ := hc153
            refine lv_if_eq (tgt := 197) hx hb dX6_town_169 (by decide) (fun c154 => ?_) (fun c154 => ?_)
            ·
              refine lv_aload_n hx hb dX6_town_197 rfl (lv_at hl 0 rfl) ?_
              refine lv_aload_n hx hb dX6_town_198 rfl (lv_at hl 0 rfl) ?_
              refine dk_get (k := 340) hx hb hts iX6_town_6 hown hK (dk_at340 hW) rfl 11 (by decide) (hts (.fieldLink RX6 98 "DogKingsModel" "token" "I") (List.mem_of_getElem? (i := 4) rfl)) rfl dX6_town_199 ?_
              refine lv_topi (fun v155 ev155 => ?_)
              have dv155 : dkN [(1, 1)] v155 := by rw [ev155]; exact (by rw [hF153 340 11 rfl]; exact (by rw [hF151 340 11 rfl]; exact (by rw [hF150 340 11 rfl]; exact f130)))
              refine lv_if_ne (tgt := 209) hx hb dX6_town_202 (by decide) (fun c156 => ?_) (fun c156 => ?_)
              ·
                refine lv_iconst (v := 0) hx hb dX6_town_209 (by decide) ?_
                refine dk_Vv (As := [.int 0]) (rest := []) ⟨hx, hb, hml, hown, hts⟩ (c_X6_must_1 l g z I153 0 (dkN_lit (x := 0) (0) rfl) (show dkN [(0, 90)] (I153 340 8) from dkN_sub f153_340_8 rfl) hO) (cwV 1 hts gX6_town_X6_must rfl rfl rfl (by decide +kernel) ⟨Nat.le_of_ble_eq_true rfl, Nat.le_of_ble_eq_true rfl⟩) (dk_at340 hW) rfl hK hT hW hS rfl hl.1 rfl (Nat.le_of_ble_eq_true rfl) dX6_town_210 ⟨Nat.zero_le _, Nat.zero_le _⟩ (fun I157 H157 L157 hp157 hW hS => ?_)
                obtain ⟨hF157, hO, hc157⟩ := hp157
                have hF := dkF_call hF hF157 rfl
                have hP := dkPP_F hP hF157 rfl
                obtain ⟨f157_340_8, -⟩ := hc157
                refine lv_aload_n hx hb dX6_town_213 rfl (lv_at hl 0 rfl) ?_
                refine lv_iconst (v := 0) hx hb dX6_town_214 (by decide) ?_
                refine dk_put (k := 340) hx hb hts iX6_town_6 tyX6 tyX6_ok nmX6 hown hK hW (dk_at340 hW) hS rfl 6 (by decide) (hts (.fieldLink RX6 82 "DogKingsModel" "taped" "I") (List.mem_of_getElem? (i := 6) rfl)) rfl rfl (Nat.le_of_ble_eq_true rfl) rfl dX6_town_215 (fun I158 H158 L158 eI158 hW hS => ?_)
                have eI158 : I158 = dkU I157 340 6 0 := eI158
                have hO := dkO_set hO eI158 (dkN_sub (dkN_lit (x := 0) (0) rfl) rfl)
                have hF := dkF_set hF eI158 rfl
                have hP := dkPP_set hP eI158 rfl
                refine lv_aload_n hx hb dX6_town_218 rfl (lv_at hl 0 rfl) ?_
                refine dk_Vi (As := []) (rest := []) ⟨hx, hb, hml, hown, hts⟩ (c_X6_isWell_2 l g z I158 (show dkN [(0, 90)] (I158 340 8) from dkN_sub (by rw [eI158, dkU_sn (by decide)]; exact f157_340_8) rfl) hO) (cwV 0 hts gX6_town_X6_isWell rfl rfl rfl (by decide +kernel) ⟨Nat.le_of_ble_eq_true rfl, Nat.le_of_ble_eq_true rfl⟩) (dk_at340 hW) rfl hK hT hW hS rfl hl.1 rfl (Nat.le_of_ble_eq_true rfl) dX6_town_219 ⟨Nat.zero_le _, Nat.zero_le _⟩ (fun v159 I159 H159 L159 hp159 hW hS => ?_)
                obtain ⟨hF159, hO, hc159⟩ := hp159
                have hF := dkF_call hF hF159 rfl
                have hP := dkPP_F hP hF159 rfl
                obtain ⟨dv159, f159_340_8, -⟩ := hc159
                refine lv_if_ne (tgt := 233) hx hb dX6_town_222 (by decide) (fun c160 => ?_) (fun c160 => ?_)
                ·
                  exact (dkN_nil (show dkN [] v159 from dkN_ne1 (0) dv159 (dkN_lit (x := 0) (0) rfl) (dk_ne c160) rfl)).elim
                ·
                  refine lv_ldc (v := (-1000100)) hx hb hown (hts (.constant RX6 137 (-1000100)) (List.mem_of_getElem? (i := 7) rfl)) dX6_town_225 ?_
                  refine lv_aload_n hx hb dX6_town_227 rfl (lv_at hl 0 rfl) ?_
                  refine dk_get (k := 340) hx hb hts iX6_town_6 hown hK (dk_at340 hW) rfl 8 (by decide) (hts (.fieldLink RX6 101 "DogKingsModel" "faultPlace" "I") (List.mem_of_getElem? (i := 3) rfl)) rfl dX6_town_228 ?_
                  refine lv_topi (fun v161 ev161 => ?_)
                  have dv161 : dkN [(0, 90)] v161 := by rw [ev161]; exact f159_340_8
                  refine lv_isub hx hb dX6_town_231 ?_
                  refine lv_topi (fun v162 ev162 => ?_)
                  have dv162 : dkN [(-1000190, -1000100)] v162 := by rw [ev162]; exact dkN_subt (dkN_lit (x := (-1000100)) (-1000100) rfl) dv161 rfl
                  exact W.iret (v := v162) hx hb hr (fun t ht hW9 => ⟨⟨v162, I159, rfl, ⟨hF, hO, hP, ⟨trivial, (show dkN [(0, 0)] (I159 340 6) from dkN_sub (by rw [hF159 340 6 rfl]; exact (by rw [eI158, dkU_ss]; exact (dkN_lit (x := 0) (0) rfl))) rfl), (show dkN [(0, 0), (3, 9)] (I159 347 0) from dkN_sub (by rw [hF159 347 0 rfl]; exact (by rw [eI158, dkU_n (by decide)]; exact (by rw [hF157 347 0 rfl]; exact (by rw [hF153 347 0 rfl]; exact (by rw [hF151 347 0 rfl]; exact (by rw [hF150 347 0 rfl]; exact (by rw [hF101 347 0 rfl]; exact f103_1))))))) rfl), trivial⟩⟩, dkW_eq ht hW⟩, hS.F ht⟩) hS.2.2 dX6_town_232
              ·
                exact (dkN_nil (show dkN [] v155 from dkN_eq1 dv155 (dkN_lit (x := 0) (0) rfl) (congrArg Int32.toInt c156) rfl)).elim
            ·
              exact (dkN_nil (show dkN [] v153 from dkN_ne1 (0) dv153 (dkN_lit (x := 0) (0) rfl) (dk_ne c154) rfl)).elim
          ·
            exact (dkN_nil (show dkN [] v151 from dkN_ne1 (0) dv151 (dkN_lit (x := 0) (0) rfl) (dk_ne c152) rfl)).elim
        ·
          obtain ⟨dv151, f151_340_8, -⟩ := hc151
          refine lv_if_eq (tgt := 165) hx hb dX6_town_138 (by decide) (fun c163 => ?_) (fun c163 => ?_)
          ·
            exact (dkN_nil (show dkN [] v151 from dkN_eq1 dv151 (dkN_lit (x := 0) (0) rfl) (congrArg Int32.toInt c163) rfl)).elim
          ·
            refine lv_aload_n hx hb dX6_town_141 rfl (lv_at hl 0 rfl) ?_
            refine dk_get (k := 340) hx hb hts iX6_town_6 hown hK (dk_at340 hW) rfl 11 (by decide) (hts (.fieldLink RX6 98 "DogKingsModel" "token" "I") (List.mem_of_getElem? (i := 4) rfl)) rfl dX6_town_142 ?_
            refine lv_topi (fun v164 ev164 => ?_)
            have dv164 : dkN [(1, 1)] v164 := by rw [ev164]; exact (by rw [hF151 340 11 rfl]; exact (by rw [hF150 340 11 rfl]; exact f130))
            refine lv_iconst (v := 1) hx hb dX6_town_145 (by decide) ?_
            refine lv_icmp_ne (tgt := 165) hx hb dX6_town_146 (by decide) (fun c165 => ?_) (fun c165 => ?_)
            ·
              exact (dkN_nil (show dkN [] v164 from dkN_ne1 (1) dv164 (dkN_lit (x := 1) (1) rfl) (dk_ne c165) rfl)).elim
            ·
              refine lv_aload_n hx hb dX6_town_149 rfl (lv_at hl 0 rfl) ?_
              refine dk_get (k := 340) hx hb hts iX6_town_6 hown hK (dk_at340 hW) rfl 12 (by decide) (hts (.fieldLink RX6 95 "DogKingsModel" "value" "I") (List.mem_of_getElem? (i := 5) rfl)) rfl dX6_town_150 ?_
              refine lv_topi (fun v166 ev166 => ?_)
              have dv166 : dkN [(109, 109)] v166 := by rw [ev166]; exact (by rw [hF151 340 12 rfl]; exact (by rw [hF150 340 12 rfl]; exact f149))
              refine lv_bipush (v := 109) hx hb dX6_town_153 (by decide) ?_
              refine lv_icmp_ne (tgt := 165) hx hb dX6_town_155 (by decide) (fun c167 => ?_) (fun c167 => ?_)
              ·
                exact (dkN_nil (show dkN [] v166 from dkN_ne1 (109) dv166 (dkN_lit (x := 109) (109) rfl) (dk_ne c167) rfl)).elim
              ·
                refine lv_aload_n hx hb dX6_town_158 rfl (lv_at hl 0 rfl) ?_
                refine dk_Vv (As := []) (rest := []) ⟨hx, hb, hml, hown, hts⟩ (c_X6_readsPerson_0 l g z I151 hO) (cwV 0 hts gX6_town_X6_readsPerson rfl rfl rfl (by decide +kernel) ⟨Nat.le_of_ble_eq_true rfl, Nat.le_of_ble_eq_true rfl⟩) (dk_at340 hW) rfl hK hT hW hS rfl hl.1 rfl (Nat.le_of_ble_eq_true rfl) dX6_town_159 ⟨Nat.zero_le _, Nat.zero_le _⟩ (fun I168 H168 L168 hp168 hW hS => ?_)
                obtain ⟨hF168, hO, hc168⟩ := hp168
                have hF := dkF_call hF hF168 rfl
                have hP := dkPP_F hP hF168 rfl
                rcases hc168 with ⟨f168_340_8, f168_347_4, ci168_0, -⟩ | hc168
                ·
                  refine lv_goto (tgt := 134) hx hb dX6_town_162 (by decide) ?_
                  exact C134 _ I168 _ _ ls x103_1 (Nat.lt_succ_self _) hW hS hF hO hP (dkN_sub k103_0 rfl) (show dkN [(-2147483648, -1)] (I168 340 8) from dkN_sub f168_340_8 rfl) (show dkN [(0, 0), (3, 9)] (I168 347 0) from dkN_sub (by rw [hF168 347 0 rfl]; exact (by rw [hF151 347 0 rfl]; exact (by rw [hF150 347 0 rfl]; exact (by rw [hF101 347 0 rfl]; exact f103_1)))) rfl) (show dkN [(1, 5)] (I168 347 4) from dkN_sub f168_347_4 rfl) (lv_sub hl [0, 1] rfl)
                ·
                  obtain ⟨f168_340_8, -⟩ := hc168
                  refine lv_goto (tgt := 134) hx hb dX6_town_162 (by decide) ?_
                  refine lv_aload_n hx hb dX6_town_134 rfl (lv_at hl 0 rfl) ?_
                  refine dk_Vi (As := []) (rest := []) ⟨hx, hb, hml, hown, hts⟩ (c_X6_isWell_4 l g z I168 (show dkN [(0, 2147483647)] (I168 340 8) from dkN_sub f168_340_8 rfl) hO) (cwV 0 hts gX6_town_X6_isWell rfl rfl rfl (by decide +kernel) ⟨Nat.le_of_ble_eq_true rfl, Nat.le_of_ble_eq_true rfl⟩) (dk_at340 hW) rfl hK hT hW hS rfl hl.1 rfl (Nat.le_of_ble_eq_true rfl) dX6_town_135 ⟨Nat.zero_le _, Nat.zero_le _⟩ (fun v169 I169 H169 L169 hp169 hW hS => ?_)
                  obtain ⟨hF169, hO, hc169⟩ := hp169
                  have hF := dkF_call hF hF169 rfl
                  have hP := dkPP_F hP hF169 rfl
                  obtain ⟨dv169, f169_340_8, -⟩ := hc169
                  refine lv_if_eq (tgt := 165) hx hb dX6_town_138 (by decide) (fun c170 => ?_) (fun c170 => ?_)
                  ·
                    refine lv_aload_n hx hb dX6_town_165 rfl (lv_at hl 0 rfl) ?_
                    refine dk_Vi (As := []) (rest := []) ⟨hx, hb, hml, hown, hts⟩ (c_X6_isWell_4 l g z I169 (show dkN [(0, 2147483647)] (I169 340 8) from dkN_sub f169_340_8 rfl) hO) (cwV 0 hts gX6_town_X6_isWell rfl rfl rfl (by decide +kernel) ⟨Nat.le_of_ble_eq_true rfl, Nat.le_of_ble_eq_true rfl⟩) (dk_at340 hW) rfl hK hT hW hS rfl hl.1 rfl (Nat.le_of_ble_eq_true rfl) dX6_town_166 ⟨Nat.zero_le _, Nat.zero_le _⟩ (fun v171 I171 H171 L171 hp171 hW hS => ?_)
                    obtain ⟨hF171, hO, hc171⟩ := hp171
                    have hF := dkF_call hF hF171 rfl
                    have hP := dkPP_F hP hF171 rfl
                    obtain ⟨dv171, f171_340_8, -⟩ := hc171
                    refine lv_if_eq (tgt := 197) hx hb dX6_town_169 (by decide) (fun c172 => ?_) (fun c172 => ?_)
                    ·
                      refine lv_aload_n hx hb dX6_town_197 rfl (lv_at hl 0 rfl) ?_
                      refine lv_aload_n hx hb dX6_town_198 rfl (lv_at hl 0 rfl) ?_
                      refine dk_get (k := 340) hx hb hts iX6_town_6 hown hK (dk_at340 hW) rfl 11 (by decide) (hts (.fieldLink RX6 98 "DogKingsModel" "token" "I") (List.mem_of_getElem? (i := 4) rfl)) rfl dX6_town_199 ?_
                      refine lv_topi (fun v173 ev173 => ?_)
                      refine lv_if_ne (tgt := 209) hx hb dX6_town_202 (by decide) (fun c174 => ?_) (fun c174 => ?_)
                      ·
                        have d175 : dkN [(-2147483648, -1), (1, 2147483647)] v173 := dkN_ne1 (0) (dkN_top v173) (dkN_lit (x := 0) (0) rfl) (dk_ne c174) rfl
                        have f176 : dkN [(-2147483648, -1), (1, 2147483647)] (I171 340 11) := by rw [← ev173]; exact d175
                        refine lv_iconst (v := 0) hx hb dX6_town_209 (by decide) ?_
                        refine dk_Vv (As := [.int 0]) (rest := []) ⟨hx, hb, hml, hown, hts⟩ (c_X6_must_4 l g z I171 0 (dkN_lit (x := 0) (0) rfl) (show dkN [(0, 2147483647)] (I171 340 8) from dkN_sub f171_340_8 rfl) hO) (cwV 1 hts gX6_town_X6_must rfl rfl rfl (by decide +kernel) ⟨Nat.le_of_ble_eq_true rfl, Nat.le_of_ble_eq_true rfl⟩) (dk_at340 hW) rfl hK hT hW hS rfl hl.1 rfl (Nat.le_of_ble_eq_true rfl) dX6_town_210 ⟨Nat.zero_le _, Nat.zero_le _⟩ (fun I177 H177 L177 hp177 hW hS => ?_)
                        obtain ⟨hF177, hO, hc177⟩ := hp177
                        have hF := dkF_call hF hF177 rfl
                        have hP := dkPP_F hP hF177 rfl
                        obtain ⟨f177_340_8, -⟩ := hc177
                        refine lv_aload_n hx hb dX6_town_213 rfl (lv_at hl 0 rfl) ?_
                        refine lv_iconst (v := 0) hx hb dX6_town_214 (by decide) ?_
                        refine dk_put (k := 340) hx hb hts iX6_town_6 tyX6 tyX6_ok nmX6 hown hK hW (dk_at340 hW) hS rfl 6 (by decide) (hts (.fieldLink RX6 82 "DogKingsModel" "taped" "I") (List.mem_of_getElem? (i := 6) rfl)) rfl rfl (Nat.le_of_ble_eq_true rfl) rfl dX6_town_215 (fun I178 H178 L178 eI178 hW hS => ?_)
                        have eI178 : I178 = dkU I177 340 6 0 := eI178
                        have hO := dkO_set hO eI178 (dkN_sub (dkN_lit (x := 0) (0) rfl) rfl)
                        have hF := dkF_set hF eI178 rfl
                        have hP := dkPP_set hP eI178 rfl
                        refine lv_aload_n hx hb dX6_town_218 rfl (lv_at hl 0 rfl) ?_
                        refine dk_Vi (As := []) (rest := []) ⟨hx, hb, hml, hown, hts⟩ (c_X6_isWell_4 l g z I178 (show dkN [(0, 2147483647)] (I178 340 8) from dkN_sub (by rw [eI178, dkU_sn (by decide)]; exact f177_340_8) rfl) hO) (cwV 0 hts gX6_town_X6_isWell rfl rfl rfl (by decide +kernel) ⟨Nat.le_of_ble_eq_true rfl, Nat.le_of_ble_eq_true rfl⟩) (dk_at340 hW) rfl hK hT hW hS rfl hl.1 rfl (Nat.le_of_ble_eq_true rfl) dX6_town_219 ⟨Nat.zero_le _, Nat.zero_le _⟩ (fun v179 I179 H179 L179 hp179 hW hS => ?_)
                        obtain ⟨hF179, hO, hc179⟩ := hp179
                        have hF := dkF_call hF hF179 rfl
                        have hP := dkPP_F hP hF179 rfl
                        obtain ⟨dv179, f179_340_8, -⟩ := hc179
                        refine lv_if_ne (tgt := 233) hx hb dX6_town_222 (by decide) (fun c180 => ?_) (fun c180 => ?_)
                        ·
                          exact (dkN_nil (show dkN [] v179 from dkN_ne1 (0) dv179 (dkN_lit (x := 0) (0) rfl) (dk_ne c180) rfl)).elim
                        ·
                          refine lv_ldc (v := (-1000100)) hx hb hown (hts (.constant RX6 137 (-1000100)) (List.mem_of_getElem? (i := 7) rfl)) dX6_town_225 ?_
                          refine lv_aload_n hx hb dX6_town_227 rfl (lv_at hl 0 rfl) ?_
                          refine dk_get (k := 340) hx hb hts iX6_town_6 hown hK (dk_at340 hW) rfl 8 (by decide) (hts (.fieldLink RX6 101 "DogKingsModel" "faultPlace" "I") (List.mem_of_getElem? (i := 3) rfl)) rfl dX6_town_228 ?_
                          refine lv_topi (fun v181 ev181 => ?_)
                          have dv181 : dkN [(0, 2147483647)] v181 := by rw [ev181]; exact f179_340_8
                          refine lv_isub hx hb dX6_town_231 ?_
                          refine lv_topi (fun v182 ev182 => ?_)
                          exact W.iret (v := v182) hx hb hr (fun t ht hW9 => ⟨⟨v182, I179, rfl, ⟨hF, hO, hP, ⟨trivial, (show dkN [(0, 0)] (I179 340 6) from dkN_sub (by rw [hF179 340 6 rfl]; exact (by rw [eI178, dkU_ss]; exact (dkN_lit (x := 0) (0) rfl))) rfl), (show dkN [(0, 0), (3, 9)] (I179 347 0) from dkN_sub (by rw [hF179 347 0 rfl]; exact (by rw [eI178, dkU_n (by decide)]; exact (by rw [hF177 347 0 rfl]; exact (by rw [hF171 347 0 rfl]; exact (by rw [hF169 347 0 rfl]; exact (by rw [hF168 347 0 rfl]; exact (by rw [hF151 347 0 rfl]; exact (by rw [hF150 347 0 rfl]; exact (by rw [hF101 347 0 rfl]; exact f103_1))))))))) rfl), trivial⟩⟩, dkW_eq ht hW⟩, hS.F ht⟩) hS.2.2 dX6_town_232
                      ·
                        have d183 : dkN [(0, 0)] v173 := dkN_eq1 (dkN_top v173) (dkN_lit (x := 0) (0) rfl) (congrArg Int32.toInt c174) rfl
                        have f184 : dkN [(0, 0)] (I171 340 11) := by rw [← ev173]; exact d183
                        refine lv_iconst (v := 1) hx hb dX6_town_205 (by decide) ?_
                        refine lv_goto (tgt := 210) hx hb dX6_town_206 (by decide) ?_
                        refine dk_Vv (As := [.int 1]) (rest := []) ⟨hx, hb, hml, hown, hts⟩ (c_X6_must_5 l g z I171 1 (dkN_lit (x := 1) (1) rfl) (show dkN [(0, 2147483647)] (I171 340 8) from dkN_sub f171_340_8 rfl) hO) (cwV 1 hts gX6_town_X6_must rfl rfl rfl (by decide +kernel) ⟨Nat.le_of_ble_eq_true rfl, Nat.le_of_ble_eq_true rfl⟩) (dk_at340 hW) rfl hK hT hW hS rfl hl.1 rfl (Nat.le_of_ble_eq_true rfl) dX6_town_210 ⟨Nat.zero_le _, Nat.zero_le _⟩ (fun I185 H185 L185 hp185 hW hS => ?_)
                        obtain ⟨hF185, hO, hc185⟩ := hp185
                        have hF := dkF_call hF hF185 rfl
                        have hP := dkPP_F hP hF185 rfl
                        obtain ⟨f185_340_8, -⟩ := hc185
                        refine lv_aload_n hx hb dX6_town_213 rfl (lv_at hl 0 rfl) ?_
                        refine lv_iconst (v := 0) hx hb dX6_town_214 (by decide) ?_
                        refine dk_put (k := 340) hx hb hts iX6_town_6 tyX6 tyX6_ok nmX6 hown hK hW (dk_at340 hW) hS rfl 6 (by decide) (hts (.fieldLink RX6 82 "DogKingsModel" "taped" "I") (List.mem_of_getElem? (i := 6) rfl)) rfl rfl (Nat.le_of_ble_eq_true rfl) rfl dX6_town_215 (fun I186 H186 L186 eI186 hW hS => ?_)
                        have eI186 : I186 = dkU I185 340 6 0 := eI186
                        have hO := dkO_set hO eI186 (dkN_sub (dkN_lit (x := 0) (0) rfl) rfl)
                        have hF := dkF_set hF eI186 rfl
                        have hP := dkPP_set hP eI186 rfl
                        refine lv_aload_n hx hb dX6_town_218 rfl (lv_at hl 0 rfl) ?_
                        refine dk_Vi (As := []) (rest := []) ⟨hx, hb, hml, hown, hts⟩ (c_X6_isWell_4 l g z I186 (show dkN [(0, 2147483647)] (I186 340 8) from dkN_sub (by rw [eI186, dkU_sn (by decide)]; exact f185_340_8) rfl) hO) (cwV 0 hts gX6_town_X6_isWell rfl rfl rfl (by decide +kernel) ⟨Nat.le_of_ble_eq_true rfl, Nat.le_of_ble_eq_true rfl⟩) (dk_at340 hW) rfl hK hT hW hS rfl hl.1 rfl (Nat.le_of_ble_eq_true rfl) dX6_town_219 ⟨Nat.zero_le _, Nat.zero_le _⟩ (fun v187 I187 H187 L187 hp187 hW hS => ?_)
                        obtain ⟨hF187, hO, hc187⟩ := hp187
                        have hF := dkF_call hF hF187 rfl
                        have hP := dkPP_F hP hF187 rfl
                        obtain ⟨dv187, f187_340_8, -⟩ := hc187
                        refine lv_if_ne (tgt := 233) hx hb dX6_town_222 (by decide) (fun c188 => ?_) (fun c188 => ?_)
                        ·
                          exact (dkN_nil (show dkN [] v187 from dkN_ne1 (0) dv187 (dkN_lit (x := 0) (0) rfl) (dk_ne c188) rfl)).elim
                        ·
                          refine lv_ldc (v := (-1000100)) hx hb hown (hts (.constant RX6 137 (-1000100)) (List.mem_of_getElem? (i := 7) rfl)) dX6_town_225 ?_
                          refine lv_aload_n hx hb dX6_town_227 rfl (lv_at hl 0 rfl) ?_
                          refine dk_get (k := 340) hx hb hts iX6_town_6 hown hK (dk_at340 hW) rfl 8 (by decide) (hts (.fieldLink RX6 101 "DogKingsModel" "faultPlace" "I") (List.mem_of_getElem? (i := 3) rfl)) rfl dX6_town_228 ?_
                          refine lv_topi (fun v189 ev189 => ?_)
                          have dv189 : dkN [(0, 2147483647)] v189 := by rw [ev189]; exact f187_340_8
                          refine lv_isub hx hb dX6_town_231 ?_
                          refine lv_topi (fun v190 ev190 => ?_)
                          exact W.iret (v := v190) hx hb hr (fun t ht hW9 => ⟨⟨v190, I187, rfl, ⟨hF, hO, hP, ⟨trivial, (show dkN [(0, 0)] (I187 340 6) from dkN_sub (by rw [hF187 340 6 rfl]; exact (by rw [eI186, dkU_ss]; exact (dkN_lit (x := 0) (0) rfl))) rfl), (show dkN [(0, 0), (3, 9)] (I187 347 0) from dkN_sub (by rw [hF187 347 0 rfl]; exact (by rw [eI186, dkU_n (by decide)]; exact (by rw [hF185 347 0 rfl]; exact (by rw [hF171 347 0 rfl]; exact (by rw [hF169 347 0 rfl]; exact (by rw [hF168 347 0 rfl]; exact (by rw [hF151 347 0 rfl]; exact (by rw [hF150 347 0 rfl]; exact (by rw [hF101 347 0 rfl]; exact f103_1))))))))) rfl), trivial⟩⟩, dkW_eq ht hW⟩, hS.F ht⟩) hS.2.2 dX6_town_232
                    ·
                      exact (dkN_nil (show dkN [] v171 from dkN_ne1 (0) dv171 (dkN_lit (x := 0) (0) rfl) (dk_ne c172) rfl)).elim
                  ·
                    exact (dkN_nil (show dkN [] v169 from dkN_ne1 (0) dv169 (dkN_lit (x := 0) (0) rfl) (dk_ne c170) rfl)).elim
  have C58 : ∀ (I : dkI) (H : Heap) (locs : List Loc) (ls : Array Slot) (x58_1 : Int32) (x58_s0 : Int32), dkW g z I H → va_S (dkA z) s.heap H locs → dkF [(340, 340, 6, 12), (340, 340, 17, 17), (346, 346, 0, 53), (347, 347, 0, 53)] I0 I → dkOk I → dkPP I → dkN [(54, 54)] x58_1 → dkN [(0, 1)] x58_s0 → dkN [(0, 5)] (I 340 11) → dkN [(-1, -1)] (I 340 8) → lv_has ls 2 [(0, .ref (z + 340)), (1, .int x58_1)] → W p l e (headSpec wsX6_town (dkR 6)).room s m args below meth c H locs 0 0 (MQ below (dkQi g z (fun r I1 => dkF [(340, 340, 6, 12), (340, 340, 17, 17), (346, 346, 0, 53), (347, 347, 0, 53)] I0 I1 ∧ dkOk I1 ∧ dkPP I1 ∧ ((True ∧ dkN [(0, 0)] (I1 340 6) ∧ dkN [(0, 0), (3, 9)] (I1 347 0) ∧ True)))) args s 0 0 (dkA z)) (F0 m 58 ls [.int x58_s0, .ref (z + 340)]) := by
    intro I58_ H locs ls x58_1 x58_s0 hW hS hF_58 hO hP k58_0 k58_1 f58_0 f58_1 hl
    have hF := hF_58
    refine lv_iconst (v := 1) hx hb dX6_town_58 (by decide) ?_
    refine dk_Vi (As := [.int x58_s0, .int 1]) (rest := []) ⟨hx, hb, hml, hown, hts⟩ (c_X6_takes_0 l g z I58_ x58_s0 1 k58_1 (dkN_lit (x := 1) (1) rfl) (show dkN [(-1, -1)] (I58_ 340 8) from dkN_sub f58_1 rfl) hO) (cwV 2 hts gX6_town_X6_takes rfl rfl rfl (by decide +kernel) ⟨Nat.le_of_ble_eq_true rfl, Nat.le_of_ble_eq_true rfl⟩) (dk_at340 hW) rfl hK hT hW hS rfl hl.1 rfl (Nat.le_of_ble_eq_true rfl) dX6_town_59 ⟨Nat.zero_le _, Nat.zero_le _⟩ (fun v191 I191 H191 L191 hp191 hW hS => ?_)
    obtain ⟨hF191, hO, hc191⟩ := hp191
    have hF := dkF_call hF hF191 rfl
    have hP := dkPP_F hP hF191 rfl
    obtain ⟨_, f191_340_8, -⟩ := hc191
    refine lv_pop hx hb dX6_town_62 rfl ?_
    refine lv_aload_n hx hb dX6_town_63 rfl (lv_at hl 0 rfl) ?_
    refine dk_get (k := 340) hx hb hts iX6_town_6 hown hK (dk_at340 hW) rfl 14 (by decide) (hts (.fieldLink RX6 28 "DogKingsModel" "draft" "[I") (List.mem_of_getElem? (i := 1) rfl)) rfl dX6_town_64 ?_
    refine lv_iconst (v := 0) hx hb dX6_town_67 (by decide) ?_
    refine lv_aload_n hx hb dX6_town_68 rfl (lv_at hl 0 rfl) ?_
    refine lv_iconst (v := 3) hx hb dX6_town_69 (by decide) ?_
    refine lv_bipush (v := 9) hx hb dX6_town_70 (by decide) ?_
    refine dk_Vi (As := [.int 3, .int 9]) (rest := [.int 0, .ref (z + 347)]) ⟨hx, hb, hml, hown, hts⟩ (c_X6_figure_0 l g z I191 3 9 (dkN_lit (x := 3) (3) rfl) (dkN_lit (x := 9) (9) rfl) (show dkN [(-1, 90)] (I191 340 8) from dkN_sub f191_340_8 rfl) hO) (cwV 2 hts gX6_town_X6_figure rfl rfl rfl (by decide +kernel) ⟨Nat.le_of_ble_eq_true rfl, Nat.le_of_ble_eq_true rfl⟩) (dk_at340 hW) rfl hK hT hW hS rfl hl.1 rfl (Nat.le_of_ble_eq_true rfl) dX6_town_72 ⟨Nat.zero_le _, Nat.zero_le _⟩ (fun v192 I192 H192 L192 hp192 hW hS => ?_)
    obtain ⟨hF192, hO, hc192⟩ := hp192
    have hF := dkF_call hF hF192 rfl
    have hP := dkPP_F hP hF192 rfl
    rcases hc192 with ⟨dv192, f192_340_8, -⟩ | hc192
    ·
      refine dk_ist (k := 347) hx hb hK hW (fun _ => rfl) (by decide) hS (dkN_in (n := 54) (dkN_lit (x := 0) (0) rfl) rfl) dX6_town_75 (fun I193 H193 L193 eI193 hW hS => ?_)
      have eI193 : I193 = dkU I192 347 0 v192 := eI193
      have hO := dkO_set hO eI193 (dkN_sub dv192 rfl)
      have hF := dkF_set hF eI193 rfl
      have hP := dkPP_set hP eI193 rfl
      refine lv_aload_n hx hb dX6_town_76 rfl (lv_at hl 0 rfl) ?_
      refine dk_get (k := 340) hx hb hts iX6_town_6 hown hK (dk_at340 hW) rfl 14 (by decide) (hts (.fieldLink RX6 28 "DogKingsModel" "draft" "[I") (List.mem_of_getElem? (i := 1) rfl)) rfl dX6_town_77 ?_
      refine lv_iconst (v := 1) hx hb dX6_town_80 (by decide) ?_
      refine lv_aload_n hx hb dX6_town_81 rfl (lv_at hl 0 rfl) ?_
      refine lv_iconst (v := 1) hx hb dX6_town_82 (by decide) ?_
      refine lv_bipush (v := 30) hx hb dX6_town_83 (by decide) ?_
      refine dk_Vi (As := [.int 1, .int 30]) (rest := [.int 1, .ref (z + 347)]) ⟨hx, hb, hml, hown, hts⟩ (c_X6_follows_0 l g z I193 1 30 (dkN_lit (x := 1) (1) rfl) (dkN_lit (x := 30) (30) rfl) (show dkN [(0, 90)] (I193 340 8) from dkN_sub (by rw [eI193, dkU_n (by decide)]; exact f192_340_8) rfl) hO) (cwV 2 hts gX6_town_X6_follows rfl rfl rfl (by decide +kernel) ⟨Nat.le_of_ble_eq_true rfl, Nat.le_of_ble_eq_true rfl⟩) (dk_at340 hW) rfl hK hT hW hS rfl hl.1 rfl (Nat.le_of_ble_eq_true rfl) dX6_town_85 ⟨Nat.zero_le _, Nat.zero_le _⟩ (fun v194 I194 H194 L194 hp194 hW hS => ?_)
      obtain ⟨hF194, hO, hc194⟩ := hp194
      have hF := dkF_call hF hF194 rfl
      have hP := dkPP_F hP hF194 rfl
      obtain ⟨dv194, f194_340_8, -⟩ := hc194
      refine dk_ist (k := 347) hx hb hK hW (fun _ => rfl) (by decide) hS (dkN_in (n := 54) (dkN_lit (x := 1) (1) rfl) rfl) dX6_town_88 (fun I195 H195 L195 eI195 hW hS => ?_)
      have eI195 : I195 = dkU I194 347 1 v194 := eI195
      have hO := dkO_set hO eI195 (dkN_sub dv194 rfl)
      have hF := dkF_set hF eI195 rfl
      have hP := dkPP_set hP eI195 rfl
      refine lv_aload_n hx hb dX6_town_89 rfl (lv_at hl 0 rfl) ?_
      refine lv_aload_n hx hb dX6_town_90 rfl (lv_at hl 0 rfl) ?_
      refine dk_get (k := 340) hx hb hts iX6_town_6 hown hK (dk_at340 hW) rfl 11 (by decide) (hts (.fieldLink RX6 98 "DogKingsModel" "token" "I") (List.mem_of_getElem? (i := 4) rfl)) rfl dX6_town_91 ?_
      refine lv_topi (fun v196 ev196 => ?_)
      refine lv_iconst (v := 4) hx hb dX6_town_94 (by decide) ?_
      refine lv_icmp_ne (tgt := 102) hx hb dX6_town_95 (by decide) (fun c197 => ?_) (fun c197 => ?_)
      ·
        have d198 : dkN [(-2147483648, 3), (5, 2147483647)] v196 := dkN_ne1 (4) (dkN_top v196) (dkN_lit (x := 4) (4) rfl) (dk_ne c197) rfl
        have f199 : dkN [(-2147483648, 3), (5, 2147483647)] (I195 340 11) := by rw [← ev196]; exact d198
        refine lv_iconst (v := 0) hx hb dX6_town_102 (by decide) ?_
        exact C103 I195 _ _ ls x58_1 0 hW hS hF hO hP (dkN_sub k58_0 rfl) (dkN_sub (dkN_lit (x := 0) (0) rfl) rfl) (show dkN [(-1, 90)] (I195 340 8) from dkN_sub (by rw [eI195, dkU_n (by decide)]; exact f194_340_8) rfl) (show dkN [(0, 0), (3, 9)] (I195 347 0) from dkN_sub (by rw [eI195, dkU_sn (by decide)]; exact (by rw [hF194 347 0 rfl]; exact (by rw [eI193, dkU_ss]; exact dv192))) rfl) (lv_sub hl [0, 1] rfl)
      ·
        have d200 : dkN [(4, 4)] v196 := dkN_eq1 (dkN_top v196) (dkN_lit (x := 4) (4) rfl) (congrArg Int32.toInt c197) rfl
        have f201 : dkN [(4, 4)] (I195 340 11) := by rw [← ev196]; exact d200
        refine lv_iconst (v := 1) hx hb dX6_town_98 (by decide) ?_
        refine lv_goto (tgt := 103) hx hb dX6_town_99 (by decide) ?_
        exact C103 I195 _ _ ls x58_1 1 hW hS hF hO hP (dkN_sub k58_0 rfl) (dkN_sub (dkN_lit (x := 1) (1) rfl) rfl) (show dkN [(-1, 90)] (I195 340 8) from dkN_sub (by rw [eI195, dkU_n (by decide)]; exact f194_340_8) rfl) (show dkN [(0, 0), (3, 9)] (I195 347 0) from dkN_sub (by rw [eI195, dkU_sn (by decide)]; exact (by rw [hF194 347 0 rfl]; exact (by rw [eI193, dkU_ss]; exact dv192))) rfl) (lv_sub hl [0, 1] rfl)
    ·
      obtain ⟨dv192, f192_340_11, f192_340_8, -⟩ := hc192
      refine dk_ist (k := 347) hx hb hK hW (fun _ => rfl) (by decide) hS (dkN_in (n := 54) (dkN_lit (x := 0) (0) rfl) rfl) dX6_town_75 (fun I202 H202 L202 eI202 hW hS => ?_)
      have eI202 : I202 = dkU I192 347 0 v192 := eI202
      have hO := dkO_set hO eI202 (dkN_sub dv192 rfl)
      have hF := dkF_set hF eI202 rfl
      have hP := dkPP_set hP eI202 rfl
      refine lv_aload_n hx hb dX6_town_76 rfl (lv_at hl 0 rfl) ?_
      refine dk_get (k := 340) hx hb hts iX6_town_6 hown hK (dk_at340 hW) rfl 14 (by decide) (hts (.fieldLink RX6 28 "DogKingsModel" "draft" "[I") (List.mem_of_getElem? (i := 1) rfl)) rfl dX6_town_77 ?_
      refine lv_iconst (v := 1) hx hb dX6_town_80 (by decide) ?_
      refine lv_aload_n hx hb dX6_town_81 rfl (lv_at hl 0 rfl) ?_
      refine lv_iconst (v := 1) hx hb dX6_town_82 (by decide) ?_
      refine lv_bipush (v := 30) hx hb dX6_town_83 (by decide) ?_
      refine dk_Vi (As := [.int 1, .int 30]) (rest := [.int 1, .ref (z + 347)]) ⟨hx, hb, hml, hown, hts⟩ (c_X6_follows_1 l g z I202 1 30 (dkN_lit (x := 1) (1) rfl) (dkN_lit (x := 30) (30) rfl) (show dkN [(-1, -1)] (I202 340 8) from dkN_sub (by rw [eI202, dkU_n (by decide)]; exact f192_340_8) rfl) hO) (cwV 2 hts gX6_town_X6_follows rfl rfl rfl (by decide +kernel) ⟨Nat.le_of_ble_eq_true rfl, Nat.le_of_ble_eq_true rfl⟩) (dk_at340 hW) rfl hK hT hW hS rfl hl.1 rfl (Nat.le_of_ble_eq_true rfl) dX6_town_85 ⟨Nat.zero_le _, Nat.zero_le _⟩ (fun v203 I203 H203 L203 hp203 hW hS => ?_)
      obtain ⟨hF203, hO, hc203⟩ := hp203
      have hF := dkF_call hF hF203 rfl
      have hP := dkPP_F hP hF203 rfl
      rcases hc203 with ⟨dv203, f203_340_8, -⟩ | hc203
      ·
        refine dk_ist (k := 347) hx hb hK hW (fun _ => rfl) (by decide) hS (dkN_in (n := 54) (dkN_lit (x := 1) (1) rfl) rfl) dX6_town_88 (fun I204 H204 L204 eI204 hW hS => ?_)
        have eI204 : I204 = dkU I203 347 1 v203 := eI204
        have hO := dkO_set hO eI204 (dkN_sub dv203 rfl)
        have hF := dkF_set hF eI204 rfl
        have hP := dkPP_set hP eI204 rfl
        refine lv_aload_n hx hb dX6_town_89 rfl (lv_at hl 0 rfl) ?_
        refine lv_aload_n hx hb dX6_town_90 rfl (lv_at hl 0 rfl) ?_
        refine dk_get (k := 340) hx hb hts iX6_town_6 hown hK (dk_at340 hW) rfl 11 (by decide) (hts (.fieldLink RX6 98 "DogKingsModel" "token" "I") (List.mem_of_getElem? (i := 4) rfl)) rfl dX6_town_91 ?_
        refine lv_topi (fun v205 ev205 => ?_)
        refine lv_iconst (v := 4) hx hb dX6_town_94 (by decide) ?_
        refine lv_icmp_ne (tgt := 102) hx hb dX6_town_95 (by decide) (fun c206 => ?_) (fun c206 => ?_)
        ·
          have d207 : dkN [(-2147483648, 3), (5, 2147483647)] v205 := dkN_ne1 (4) (dkN_top v205) (dkN_lit (x := 4) (4) rfl) (dk_ne c206) rfl
          have f208 : dkN [(-2147483648, 3), (5, 2147483647)] (I204 340 11) := by rw [← ev205]; exact d207
          refine lv_iconst (v := 0) hx hb dX6_town_102 (by decide) ?_
          exact C103 I204 _ _ ls x58_1 0 hW hS hF hO hP (dkN_sub k58_0 rfl) (dkN_sub (dkN_lit (x := 0) (0) rfl) rfl) (show dkN [(-1, 90)] (I204 340 8) from dkN_sub (by rw [eI204, dkU_n (by decide)]; exact f203_340_8) rfl) (show dkN [(0, 0), (3, 9)] (I204 347 0) from dkN_sub (by rw [eI204, dkU_sn (by decide)]; exact (by rw [hF203 347 0 rfl]; exact (by rw [eI202, dkU_ss]; exact dv192))) rfl) (lv_sub hl [0, 1] rfl)
        ·
          have d209 : dkN [(4, 4)] v205 := dkN_eq1 (dkN_top v205) (dkN_lit (x := 4) (4) rfl) (congrArg Int32.toInt c206) rfl
          have f210 : dkN [(4, 4)] (I204 340 11) := by rw [← ev205]; exact d209
          refine lv_iconst (v := 1) hx hb dX6_town_98 (by decide) ?_
          refine lv_goto (tgt := 103) hx hb dX6_town_99 (by decide) ?_
          exact C103 I204 _ _ ls x58_1 1 hW hS hF hO hP (dkN_sub k58_0 rfl) (dkN_sub (dkN_lit (x := 1) (1) rfl) rfl) (show dkN [(-1, 90)] (I204 340 8) from dkN_sub (by rw [eI204, dkU_n (by decide)]; exact f203_340_8) rfl) (show dkN [(0, 0), (3, 9)] (I204 347 0) from dkN_sub (by rw [eI204, dkU_sn (by decide)]; exact (by rw [hF203 347 0 rfl]; exact (by rw [eI202, dkU_ss]; exact dv192))) rfl) (lv_sub hl [0, 1] rfl)
      ·
        obtain ⟨dv203, f203_340_11, f203_340_8, -⟩ := hc203
        refine dk_ist (k := 347) hx hb hK hW (fun _ => rfl) (by decide) hS (dkN_in (n := 54) (dkN_lit (x := 1) (1) rfl) rfl) dX6_town_88 (fun I211 H211 L211 eI211 hW hS => ?_)
        have eI211 : I211 = dkU I203 347 1 v203 := eI211
        have hO := dkO_set hO eI211 (dkN_sub dv203 rfl)
        have hF := dkF_set hF eI211 rfl
        have hP := dkPP_set hP eI211 rfl
        refine lv_aload_n hx hb dX6_town_89 rfl (lv_at hl 0 rfl) ?_
        refine lv_aload_n hx hb dX6_town_90 rfl (lv_at hl 0 rfl) ?_
        refine dk_get (k := 340) hx hb hts iX6_town_6 hown hK (dk_at340 hW) rfl 11 (by decide) (hts (.fieldLink RX6 98 "DogKingsModel" "token" "I") (List.mem_of_getElem? (i := 4) rfl)) rfl dX6_town_91 ?_
        refine lv_topi (fun v212 ev212 => ?_)
        have dv212 : dkN [(0, 5)] v212 := by rw [ev212]; exact (by rw [eI211, dkU_n (by decide)]; exact f203_340_11)
        refine lv_iconst (v := 4) hx hb dX6_town_94 (by decide) ?_
        refine lv_icmp_ne (tgt := 102) hx hb dX6_town_95 (by decide) (fun c213 => ?_) (fun c213 => ?_)
        ·
          have d214 : dkN [(0, 3), (5, 5)] v212 := dkN_ne1 (4) dv212 (dkN_lit (x := 4) (4) rfl) (dk_ne c213) rfl
          have f215 : dkN [(0, 3), (5, 5)] (I211 340 11) := by rw [← ev212]; exact d214
          refine lv_iconst (v := 0) hx hb dX6_town_102 (by decide) ?_
          exact C103 I211 _ _ ls x58_1 0 hW hS hF hO hP (dkN_sub k58_0 rfl) (dkN_sub (dkN_lit (x := 0) (0) rfl) rfl) (show dkN [(-1, 90)] (I211 340 8) from dkN_sub (by rw [eI211, dkU_n (by decide)]; exact f203_340_8) rfl) (show dkN [(0, 0), (3, 9)] (I211 347 0) from dkN_sub (by rw [eI211, dkU_sn (by decide)]; exact (by rw [hF203 347 0 rfl]; exact (by rw [eI202, dkU_ss]; exact dv192))) rfl) (lv_sub hl [0, 1] rfl)
        ·
          have d216 : dkN [(4, 4)] v212 := dkN_eq1 dv212 (dkN_lit (x := 4) (4) rfl) (congrArg Int32.toInt c213) rfl
          have f217 : dkN [(4, 4)] (I211 340 11) := by rw [← ev212]; exact d216
          refine lv_iconst (v := 1) hx hb dX6_town_98 (by decide) ?_
          refine lv_goto (tgt := 103) hx hb dX6_town_99 (by decide) ?_
          exact C103 I211 _ _ ls x58_1 1 hW hS hF hO hP (dkN_sub k58_0 rfl) (dkN_sub (dkN_lit (x := 1) (1) rfl) rfl) (show dkN [(-1, 90)] (I211 340 8) from dkN_sub (by rw [eI211, dkU_n (by decide)]; exact f203_340_8) rfl) (show dkN [(0, 0), (3, 9)] (I211 347 0) from dkN_sub (by rw [eI211, dkU_sn (by decide)]; exact (by rw [hF203 347 0 rfl]; exact (by rw [eI202, dkU_ss]; exact dv192))) rfl) (lv_sub hl [0, 1] rfl)
  have C57 : ∀ (I : dkI) (H : Heap) (locs : List Loc) (ls : Array Slot) (x57_1 : Int32), dkW g z I H → va_S (dkA z) s.heap H locs → dkF [(340, 340, 6, 12), (340, 340, 17, 17), (346, 346, 0, 53), (347, 347, 0, 53)] I0 I → dkOk I → dkPP I → dkN [(54, 54)] x57_1 → dkN [(0, 5)] (I 340 11) → dkN [(-1, -1)] (I 340 8) → lv_has ls 2 [(0, .ref (z + 340)), (1, .int x57_1)] → W p l e (headSpec wsX6_town (dkR 6)).room s m args below meth c H locs 0 0 (MQ below (dkQi g z (fun r I1 => dkF [(340, 340, 6, 12), (340, 340, 17, 17), (346, 346, 0, 53), (347, 347, 0, 53)] I0 I1 ∧ dkOk I1 ∧ dkPP I1 ∧ ((True ∧ dkN [(0, 0)] (I1 340 6) ∧ dkN [(0, 0), (3, 9)] (I1 347 0) ∧ True)))) args s 0 0 (dkA z)) (F0 m 57 ls [.ref (z + 340)]) := by
    intro I57_ H locs ls x57_1 hW hS hF_57 hO hP k57_0 f57_0 f57_1 hl
    have hF := hF_57
    refine lv_iconst (v := 0) hx hb dX6_town_57 (by decide) ?_
    exact C58 I57_ _ _ ls x57_1 0 hW hS hF hO hP (dkN_sub k57_0 rfl) (dkN_sub (dkN_lit (x := 0) (0) rfl) rfl) (show dkN [(0, 5)] (I57_ 340 11) from dkN_sub f57_0 rfl) (show dkN [(-1, -1)] (I57_ 340 8) from dkN_sub f57_1 rfl) (lv_sub hl [0, 1] rfl)
  have C2 : ∀ (n : Nat), ∀ (I : dkI) (H : Heap) (locs : List Loc) (ls : Array Slot) (x2_1 : Int32), (54 - x2_1.toInt).toNat < n → dkW g z I H → va_S (dkA z) s.heap H locs → dkF [(340, 340, 6, 12), (340, 340, 17, 17), (346, 346, 0, 53), (347, 347, 0, 53)] I0 I → dkOk I → dkPP I → dkN [(0, 54)] x2_1 → lv_has ls 2 [(0, .ref (z + 340)), (1, .int x2_1)] → W p l e (headSpec wsX6_town (dkR 6)).room s m args below meth c H locs 0 0 (MQ below (dkQi g z (fun r I1 => dkF [(340, 340, 6, 12), (340, 340, 17, 17), (346, 346, 0, 53), (347, 347, 0, 53)] I0 I1 ∧ dkOk I1 ∧ dkPP I1 ∧ ((True ∧ dkN [(0, 0)] (I1 340 6) ∧ dkN [(0, 0), (3, 9)] (I1 347 0) ∧ True)))) args s 0 0 (dkA z)) (F0 m 2 ls []) := by
    intro n
    induction n with
    | zero => intro I H locs ls x2_1 hn; exact absurd hn (Nat.not_lt_zero _)
    | succ n ih2 =>
      intro I2_ H locs ls x2_1 hn2 hW hS hF_2 hO hP k2_0 hl
      have hF := hF_2
      refine lv_iload_n hx hb dX6_town_2 rfl (lv_at hl 1 rfl) ?_
      refine lv_bipush (v := 54) hx hb dX6_town_3 (by decide) ?_
      refine lv_icmp_ge (tgt := 21) hx hb dX6_town_5 (by decide) (fun c218 => ?_) (fun c218 => ?_)
      ·
        have d219 : dkN [(54, 54)] x2_1 := dkN_le2 0 (dkN_lit (x := 54) (54) rfl) k2_0 (dkc_le c218) rfl
        refine lv_aload_n hx hb dX6_town_21 rfl (lv_at hl 0 rfl) ?_
        refine lv_iconst (v := 0) hx hb dX6_town_22 (by decide) ?_
        refine dk_put (k := 340) hx hb hts iX6_town_6 tyX6 tyX6_ok nmX6 hown hK hW (dk_at340 hW) hS rfl 9 (by decide) (hts (.fieldLink RX6 86 "DogKingsModel" "at" "I") (List.mem_of_getElem? (i := 2) rfl)) rfl rfl (Nat.le_of_ble_eq_true rfl) rfl dX6_town_23 (fun I220 H220 L220 eI220 hW hS => ?_)
        have eI220 : I220 = dkU I2_ 340 9 0 := eI220
        have hO := dkO_set hO eI220 (dkN_sub (dkN_lit (x := 0) (0) rfl) rfl)
        have hF := dkF_set hF eI220 rfl
        have hP := dkPP_set hP eI220 rfl
        refine lv_aload_n hx hb dX6_town_26 rfl (lv_at hl 0 rfl) ?_
        refine lv_iconst (v := (-1)) hx hb dX6_town_27 (by decide) ?_
        refine dk_put (k := 340) hx hb hts iX6_town_6 tyX6 tyX6_ok nmX6 hown hK hW (dk_at340 hW) hS rfl 8 (by decide) (hts (.fieldLink RX6 101 "DogKingsModel" "faultPlace" "I") (List.mem_of_getElem? (i := 3) rfl)) rfl rfl (Nat.le_of_ble_eq_true rfl) rfl dX6_town_28 (fun I221 H221 L221 eI221 hW hS => ?_)
        have eI221 : I221 = dkU I220 340 8 ((-1)) := eI221
        have hO := dkO_set hO eI221 (dkN_sub (dkN_lit (x := (-1)) (-1) rfl) rfl)
        have hF := dkF_set hF eI221 rfl
        have hP := dkPP_set hP eI221 rfl
        refine lv_aload_n hx hb dX6_town_31 rfl (lv_at hl 0 rfl) ?_
        refine dk_Vv (As := []) (rest := []) ⟨hx, hb, hml, hown, hts⟩ (c_X6_advances_0 l g z I221 hO) (cwV 0 hts gX6_town_X6_advances rfl rfl rfl (by decide +kernel) ⟨Nat.le_of_ble_eq_true rfl, Nat.le_of_ble_eq_true rfl⟩) (dk_at340 hW) rfl hK hT hW hS rfl hl.1 rfl (Nat.le_of_ble_eq_true rfl) dX6_town_32 ⟨Nat.zero_le _, Nat.zero_le _⟩ (fun I222 H222 L222 hp222 hW hS => ?_)
        obtain ⟨hF222, hO, hc222⟩ := hp222
        have hF := dkF_call hF hF222 rfl
        have hP := dkPP_F hP hF222 rfl
        obtain ⟨f222_340_11, -⟩ := hc222
        refine lv_aload_n hx hb dX6_town_35 rfl (lv_at hl 0 rfl) ?_
        refine lv_aload_n hx hb dX6_town_36 rfl (lv_at hl 0 rfl) ?_
        refine dk_get (k := 340) hx hb hts iX6_town_6 hown hK (dk_at340 hW) rfl 11 (by decide) (hts (.fieldLink RX6 98 "DogKingsModel" "token" "I") (List.mem_of_getElem? (i := 4) rfl)) rfl dX6_town_37 ?_
        refine lv_topi (fun v223 ev223 => ?_)
        have dv223 : dkN [(0, 5)] v223 := by rw [ev223]; exact f222_340_11
        refine lv_iconst (v := 1) hx hb dX6_town_40 (by decide) ?_
        refine lv_icmp_ne (tgt := 57) hx hb dX6_town_41 (by decide) (fun c224 => ?_) (fun c224 => ?_)
        ·
          have d225 : dkN [(0, 0), (2, 5)] v223 := dkN_ne1 (1) dv223 (dkN_lit (x := 1) (1) rfl) (dk_ne c224) rfl
          have f226 : dkN [(0, 0), (2, 5)] (I222 340 11) := by rw [← ev223]; exact d225
          exact C57 I222 _ _ ls x2_1 hW hS hF hO hP (dkN_sub d219 rfl) (show dkN [(0, 5)] (I222 340 11) from dkN_sub f226 rfl) (show dkN [(-1, -1)] (I222 340 8) from dkN_sub (by rw [hF222 340 8 rfl]; exact (by rw [eI221, dkU_ss]; exact (dkN_lit (x := (-1)) (-1) rfl))) rfl) (lv_sub hl [0, 1] rfl)
        ·
          have d227 : dkN [(1, 1)] v223 := dkN_eq1 dv223 (dkN_lit (x := 1) (1) rfl) (congrArg Int32.toInt c224) rfl
          have f228 : dkN [(1, 1)] (I222 340 11) := by rw [← ev223]; exact d227
          refine lv_aload_n hx hb dX6_town_44 rfl (lv_at hl 0 rfl) ?_
          refine dk_get (k := 340) hx hb hts iX6_town_6 hown hK (dk_at340 hW) rfl 12 (by decide) (hts (.fieldLink RX6 95 "DogKingsModel" "value" "I") (List.mem_of_getElem? (i := 5) rfl)) rfl dX6_town_45 ?_
          refine lv_topi (fun v229 ev229 => ?_)
          refine lv_bipush (v := 116) hx hb dX6_town_48 (by decide) ?_
          refine lv_icmp_ne (tgt := 57) hx hb dX6_town_50 (by decide) (fun c230 => ?_) (fun c230 => ?_)
          ·
            have d231 : dkN [(-2147483648, 115), (117, 2147483647)] v229 := dkN_ne1 (116) (dkN_top v229) (dkN_lit (x := 116) (116) rfl) (dk_ne c230) rfl
            have f232 : dkN [(-2147483648, 115), (117, 2147483647)] (I222 340 12) := by rw [← ev229]; exact d231
            exact C57 I222 _ _ ls x2_1 hW hS hF hO hP (dkN_sub d219 rfl) (show dkN [(0, 5)] (I222 340 11) from dkN_sub f228 rfl) (show dkN [(-1, -1)] (I222 340 8) from dkN_sub (by rw [hF222 340 8 rfl]; exact (by rw [eI221, dkU_ss]; exact (dkN_lit (x := (-1)) (-1) rfl))) rfl) (lv_sub hl [0, 1] rfl)
          ·
            have d233 : dkN [(116, 116)] v229 := dkN_eq1 (dkN_top v229) (dkN_lit (x := 116) (116) rfl) (congrArg Int32.toInt c230) rfl
            have f234 : dkN [(116, 116)] (I222 340 12) := by rw [← ev229]; exact d233
            refine lv_iconst (v := 1) hx hb dX6_town_53 (by decide) ?_
            refine lv_goto (tgt := 58) hx hb dX6_town_54 (by decide) ?_
            exact C58 I222 _ _ ls x2_1 1 hW hS hF hO hP (dkN_sub d219 rfl) (dkN_sub (dkN_lit (x := 1) (1) rfl) rfl) (show dkN [(0, 5)] (I222 340 11) from dkN_sub f228 rfl) (show dkN [(-1, -1)] (I222 340 8) from dkN_sub (by rw [hF222 340 8 rfl]; exact (by rw [eI221, dkU_ss]; exact (dkN_lit (x := (-1)) (-1) rfl))) rfl) (lv_sub hl [0, 1] rfl)
      ·
        have d235 : dkN [(0, 53)] x2_1 := dkN_le1 1 k2_0 (dkN_lit (x := 54) (54) rfl) (dkc_nle c218) rfl
        refine lv_aload_n hx hb dX6_town_8 rfl (lv_at hl 0 rfl) ?_
        refine dk_get (k := 340) hx hb hts iX6_town_6 hown hK (dk_at340 hW) rfl 14 (by decide) (hts (.fieldLink RX6 28 "DogKingsModel" "draft" "[I") (List.mem_of_getElem? (i := 1) rfl)) rfl dX6_town_9 ?_
        refine lv_iload_n hx hb dX6_town_12 rfl (lv_at hl 1 rfl) ?_
        refine lv_iconst (v := 0) hx hb dX6_town_13 (by decide) ?_
        refine dk_ist (k := 347) hx hb hK hW (fun _ => rfl) (by decide) hS (dkN_in (n := 54) d235 rfl) dX6_town_14 (fun I236 H236 L236 eI236 hW hS => ?_)
        have hO := dkO_set hO eI236 (dkB_zero (k := 347) (by decide) _)
        have hF := dkF_set hF eI236 (dkIn_v d235 rfl)
        have hP := dkPP_set hP eI236 (dkPPb_v d235 rfl)
        obtain ⟨v237, ev237⟩ : ∃ y : Int32, y = x2_1 + 1 := ⟨_, rfl⟩
        have dv237 : dkN [(1, 54)] v237 := by rw [ev237]; exact dkN_add d235 (dkN_lit (x := 1) (1) rfl) rfl
        refine lv_iinc (v := v237) (lv' := [(1, .int v237), (0, .ref (z + 340))]) hx hb dX6_town_15 hl (k := 1) rfl (by rw [ev237]; rfl) (by decide) rfl (fun ls hl => ?_)
        refine lv_goto (tgt := 2) hx hb dX6_town_18 (by decide) ?_
        exact ih2 I236 _ _ ls v237 (dk_near hn2 (by rw [ev237]; exact dk_inc d235 rfl) (dkN_lt d235 rfl)) hW hS hF hO hP (dkN_sub dv237 rfl) (lv_sub hl [1, 0] rfl)
  refine lv_iconst (v := 0) hx hb dX6_town_0 (by decide) ?_
  refine lv_istore_n (lv' := [(1, .int 0), (0, .ref (z + 340))]) hx hb dX6_town_1 rfl hl (by decide) rfl (fun ls hl => ?_)
  exact C2 _ I0 _ _ ls 0 (Nat.lt_succ_self _) hW hS hF hO hP (dkN_sub (dkN_lit (x := 0) (0) rfl) rfl) (lv_sub hl [1, 0] rfl)
