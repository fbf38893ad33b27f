set_option maxHeartbeats 4000000 in
set_option maxRecDepth 100000 in
theorem c_X6_isWell_1 (l : Launch) (g : dkG) (z : Nat) (I0 : dkI) (np0 : dkN [(-1, 90)] (I0 340 8))  (hO : dkOk I0) : Met l yX6_isWell wsX6_isWell (dkR 0) (dkPc g z [.ref (z + 340)] I0) (dkQi g z (fun r I1 => dkF [] I0 I1 ∧ dkOk I1 ∧ ((dkN [(0, 0)] r ∧ dkN [(0, 90)] (I1 340 8) ∧ True) ∨ (dkN [(1, 1)] r ∧ dkN [(-1, -1)] (I1 340 8) ∧ True)))) 0 0 (dkA z) := by
  refine Met.ofW (cc := cX6_isWell) (maxL := 1) (ret := (some .boolean)) (by decide) rfl ?_
  intro p e s m args below meth c s₁ B hml hv
  obtain ⟨ha, hW, hK, hT⟩ := hv
  have hx := B.exec
  have hb := B.bytes
  have hr := B.returns
  have hts := atoms_spec (ws := wsX6_isWell) B.pre
  have hown : s.vm.findClass RX6 = some m.cls := findClass_of_methodNamed B.named
  have hlocks := B.notSynchronized
  have hS : va_S (dkA z) s.heap s.heap [] := va_S.rf
  have hF : dkF [] I0 I0 := dkF_rf _ _
  have hl := lv_entry ([.ref (z + 340)]) (n := 1) (Nat.le_of_ble_eq_true rfl)
  have hgo : entryFrame m args 1 = entryFrame m ([.ref (z + 340)] : List Value).toArray 1 := by rw [ha]
  rw [hgo, lg_entry_eq]
  generalize (lg_sl ([.ref (z + 340)]) ++ List.replicate (1 - (lg_sl ([.ref (z + 340)])).length) Slot.unset).toArray = ls at hl ⊢
  have hl : lv_has ls 1 [(0, .ref (z + 340))] := hl
  refine lv_aload_n hx hb dX6_isWell_0 rfl (lv_at hl 0 rfl) ?_
  refine dk_get (k := 340) hx hb hts iX6_isWell_6 hown hK (dk_at340 hW) rfl 8 (by decide) (hts (.fieldLink RX6 101 "DogKingsModel" "faultPlace" "I") (List.mem_of_getElem? (i := 1) rfl)) rfl dX6_isWell_1 ?_
  refine lv_topi (fun v1 ev1 => ?_)
  have dv1 : dkN [(-1, 90)] v1 := by rw [ev1]; exact np0
  refine lv_if_ge (tgt := 11) hx hb dX6_isWell_4 (by decide) (fun c2 => ?_) (fun c2 => ?_)
  ·
    have d3 : dkN [(0, 90)] v1 := dkN_le2 0 (dkN_lit (x := 0) (0) rfl) dv1 (dkc_le c2) rfl
    have f4 : dkN [(0, 90)] (I0 340 8) := by rw [← ev1]; exact d3
    refine lv_iconst (v := 0) hx hb dX6_isWell_11 (by decide) ?_
    exact W.zret (v := 0) (ty := .boolean) hx hb hr rfl (fun t ht hW9 => ⟨⟨0, I0, rfl, ⟨hF, hO, Or.inl ⟨dkN_sub (dkN_lit (x := 0) (0) rfl) rfl, (show dkN [(0, 90)] (I0 340 8) from dkN_sub f4 rfl), trivial⟩⟩, dkW_eq ht hW⟩, hS.F ht⟩) hS.2.2 dX6_isWell_12
  ·
    have d5 : dkN [(-1, -1)] v1 := dkN_le1 1 dv1 (dkN_lit (x := 0) (0) rfl) (dkc_nle c2) rfl
    have f6 : dkN [(-1, -1)] (I0 340 8) := by rw [← ev1]; exact d5
    refine lv_iconst (v := 1) hx hb dX6_isWell_7 (by decide) ?_
    refine lv_goto (tgt := 12) hx hb dX6_isWell_8 (by decide) ?_
    exact W.zret (v := 1) (ty := .boolean) hx hb hr rfl (fun t ht hW9 => ⟨⟨1, I0, rfl, ⟨hF, hO, Or.inr (⟨dkN_sub (dkN_lit (x := 1) (1) rfl) rfl, (show dkN [(-1, -1)] (I0 340 8) from dkN_sub f6 rfl), trivial⟩)⟩, dkW_eq ht hW⟩, hS.F ht⟩) hS.2.2 dX6_isWell_12
set_option maxHeartbeats 4000000 in
set_option maxRecDepth 100000 in
theorem c_X6_takes_1 (l : Launch) (g : dkG) (z : Nat) (I0 : dkI) (p0 : Int32) (p1 : Int32) (dp0 : dkN [(0, 0)] p0) (dp1 : dkN [(1, 1)] p1) (np0 : dkN [(-1, -1)] (I0 340 8))  (hO : dkOk I0) : Met l yX6_takes wsX6_takes (dkR 1) (dkPc g z [.ref (z + 340), .int p0, .int p1] I0) (dkQi g z (fun r I1 => dkF [(340, 340, 7, 8)] I0 I1 ∧ dkOk I1 ∧ ((dkN [(0, 0)] r ∧ dkN [(1, 1)] (I1 340 7) ∧ dkN [(0, 90)] (I1 340 8) ∧ True)))) 0 0 (dkA z) := by
  refine Met.ofW (cc := cX6_takes) (maxL := 4) (ret := (some .int)) (by decide) rfl ?_
  intro p e s m args below meth c s₁ B hml hv
  obtain ⟨ha, hW, hK, hT⟩ := hv
  have hx := B.exec
  have hb := B.bytes
  have hr := B.returns
  have hts := atoms_spec (ws := wsX6_takes) B.pre
  have hown : s.vm.findClass RX6 = some m.cls := findClass_of_methodNamed B.named
  have hlocks := B.notSynchronized
  have hS : va_S (dkA z) s.heap s.heap [] := va_S.rf
  have hF : dkF [(340, 340, 7, 8)] I0 I0 := dkF_rf _ _
  have hl := lv_entry ([.ref (z + 340), .int p0, .int p1]) (n := 4) (Nat.le_of_ble_eq_true rfl)
  have hgo : entryFrame m args 4 = entryFrame m ([.ref (z + 340), .int p0, .int p1] : List Value).toArray 4 := by rw [ha]
  rw [hgo, lg_entry_eq]
  generalize (lg_sl ([.ref (z + 340), .int p0, .int p1]) ++ List.replicate (4 - (lg_sl ([.ref (z + 340), .int p0, .int p1])).length) Slot.unset).toArray = ls at hl ⊢
  have hl : lv_has ls 4 [(0, .ref (z + 340)), (1, .int p0), (2, .int p1)] := hl
  refine lv_aload_n hx hb dX6_takes_0 rfl (lv_at hl 0 rfl) ?_
  refine dk_Vi (As := []) (rest := []) ⟨hx, hb, hml, hown, hts⟩ (c_X6_isWell_0 l g z I0 (show dkN [(-1, -1)] (I0 340 8) from dkN_sub np0 rfl) hO) (cwV 0 hts gX6_takes_X6_isWell rfl rfl rfl (by decide +kernel) ⟨Nat.le_of_ble_eq_true rfl, Nat.le_of_ble_eq_true rfl⟩) (dk_at340 hW) rfl hK hT hW hS rfl hl.1 rfl (Nat.le_of_ble_eq_true rfl) dX6_takes_1 ⟨Nat.zero_le _, Nat.zero_le _⟩ (fun v1 I1 H1 L1 hp1 hW hS => ?_)
  obtain ⟨hF1, hO, hc1⟩ := hp1
  have hF := dkF_call hF hF1 rfl
  obtain ⟨dv1, f1_340_8, -⟩ := hc1
  refine lv_if_ne (tgt := 9) hx hb dX6_takes_4 (by decide) (fun c2 => ?_) (fun c2 => ?_)
  ·
    refine lv_iload_n hx hb dX6_takes_9 rfl (lv_at hl 1 rfl) ?_
    refine lv_if_ne (tgt := 28) hx hb dX6_takes_10 (by decide) (fun c3 => ?_) (fun c3 => ?_)
    ·
      exact (dkN_nil (show dkN [] p0 from dkN_ne1 (0) dp0 (dkN_lit (x := 0) (0) rfl) (dk_ne c3) rfl)).elim
    ·
      refine lv_aload_n hx hb dX6_takes_13 rfl (lv_at hl 0 rfl) ?_
      refine lv_aload_n hx hb dX6_takes_14 rfl (lv_at hl 0 rfl) ?_
      refine dk_get (k := 340) hx hb hts iX6_takes_6 hown hK (dk_at340 hW) rfl 10 (by decide) (hts (.fieldLink RX6 89 "DogKingsModel" "start" "I") (List.mem_of_getElem? (i := 1) rfl)) rfl dX6_takes_15 ?_
      refine lv_topi (fun v4 ev4 => ?_)
      have dv4 : dkN [(0, 90)] v4 := by rw [ev4]; exact (hO 340 10)
      refine dk_put (k := 340) hx hb hts iX6_takes_6 tyX6 tyX6_ok nmX6 hown hK hW (dk_at340 hW) hS rfl 8 (by decide) (hts (.fieldLink RX6 101 "DogKingsModel" "faultPlace" "I") (List.mem_of_getElem? (i := 2) rfl)) rfl rfl (Nat.le_of_ble_eq_true rfl) rfl dX6_takes_18 (fun I5 H5 L5 eI5 hW hS => ?_)
      have eI5 : I5 = dkU I1 340 8 v4 := eI5
      have hO := dkO_set hO eI5 (dkN_sub dv4 rfl)
      have hF := dkF_set hF eI5 rfl
      refine lv_aload_n hx hb dX6_takes_21 rfl (lv_at hl 0 rfl) ?_
      refine lv_iload_n hx hb dX6_takes_22 rfl (lv_at hl 2 rfl) ?_
      refine dk_put (k := 340) hx hb hts iX6_takes_6 tyX6 tyX6_ok nmX6 hown hK hW (dk_at340 hW) hS rfl 7 (by decide) (hts (.fieldLink RX6 108 "DogKingsModel" "faultKind" "I") (List.mem_of_getElem? (i := 3) rfl)) rfl rfl (Nat.le_of_ble_eq_true rfl) rfl dX6_takes_23 (fun I6 H6 L6 eI6 hW hS => ?_)
      have eI6 : I6 = dkU I5 340 7 p1 := eI6
      have hO := dkO_set hO eI6 (dkN_sub dp1 rfl)
      have hF := dkF_set hF eI6 rfl
      refine lv_iconst (v := 0) hx hb dX6_takes_26 (by decide) ?_
      exact W.iret (v := 0) hx hb hr (fun t ht hW9 => ⟨⟨0, I6, rfl, ⟨hF, hO, ⟨dkN_sub (dkN_lit (x := 0) (0) rfl) rfl, (show dkN [(1, 1)] (I6 340 7) from dkN_sub (by rw [eI6, dkU_ss]; exact dp1) rfl), (show dkN [(0, 90)] (I6 340 8) from dkN_sub (by rw [eI6, dkU_sn (by decide)]; exact (by rw [eI5, dkU_ss]; exact dv4)) rfl), trivial⟩⟩, dkW_eq ht hW⟩, hS.F ht⟩) hS.2.2 dX6_takes_27
  ·
    exact (dkN_nil (show dkN [] v1 from dkN_eq1 dv1 (dkN_lit (x := 0) (0) rfl) (congrArg Int32.toInt c2) rfl)).elim
set_option maxHeartbeats 4000000 in
set_option maxRecDepth 100000 in
theorem c_X6_in_7 (l : Launch) (g : dkG) (z : Nat) (I0 : dkI) (p0 : Int32) (p1 : Int32) (p2 : Int32) (dp1 : dkN [(3, 3)] p1) (dp2 : dkN [(9, 9)] p2)  (hO : dkOk I0) : Met l yX6_in wsX6_in (dkR 0) (dkPc g z [.int p0, .int p1, .int p2] I0) (dkQi g z (fun r I1 => dkF [] I0 I1 ∧ dkOk I1 ∧ ((dkN [(0, 0)] r ∧ dkN [(-2147483648, 2), (10, 2147483647)] p0 ∧ True) ∨ (dkN [(1, 1)] r ∧ dkN [(3, 9)] p0 ∧ True)))) 0 0 (dkA z) := by
  refine Met.ofW (cc := cX6_in) (maxL := 3) (ret := (some .boolean)) (by decide) rfl ?_
  intro p e s m args below meth c s₁ B hml hv
  obtain ⟨ha, hW, hK, hT⟩ := hv
  have hx := B.exec
  have hb := B.bytes
  have hr := B.returns
  have hts := atoms_spec (ws := wsX6_in) B.pre
  have hown : s.vm.findClass RX6 = some m.cls := findClass_of_methodNamed B.named
  have hlocks := B.notSynchronized
  have hS : va_S (dkA z) s.heap s.heap [] := va_S.rf
  have hF : dkF [] I0 I0 := dkF_rf _ _
  have hl := lv_entry ([.int p0, .int p1, .int p2]) (n := 3) (Nat.le_of_ble_eq_true rfl)
  have hgo : entryFrame m args 3 = entryFrame m ([.int p0, .int p1, .int p2] : List Value).toArray 3 := by rw [ha]
  rw [hgo, lg_entry_eq]
  generalize (lg_sl ([.int p0, .int p1, .int p2]) ++ List.replicate (3 - (lg_sl ([.int p0, .int p1, .int p2])).length) Slot.unset).toArray = ls at hl ⊢
  have hl : lv_has ls 3 [(0, .int p0), (1, .int p1), (2, .int p2)] := hl
  refine lv_iload_n hx hb dX6_in_0 rfl (lv_at hl 0 rfl) ?_
  refine lv_iload_n hx hb dX6_in_1 rfl (lv_at hl 1 rfl) ?_
  refine lv_icmp_lt (tgt := 14) hx hb dX6_in_2 (by decide) (fun c1 => ?_) (fun c1 => ?_)
  ·
    have d2 : dkN [(-2147483648, 2)] p0 := dkN_le1 1 (dkN_top p0) dp1 (dkc_lt c1) rfl
    refine lv_iconst (v := 0) hx hb dX6_in_14 (by decide) ?_
    exact W.zret (v := 0) (ty := .boolean) hx hb hr rfl (fun t ht hW9 => ⟨⟨0, I0, rfl, ⟨hF, hO, Or.inl ⟨dkN_sub (dkN_lit (x := 0) (0) rfl) rfl, dkN_sub d2 rfl, trivial⟩⟩, dkW_eq ht hW⟩, hS.F ht⟩) hS.2.2 dX6_in_15
  ·
    have d3 : dkN [(3, 2147483647)] p0 := dkN_le2 0 dp1 (dkN_top p0) (dkc_nlt c1) rfl
    refine lv_iload_n hx hb dX6_in_5 rfl (lv_at hl 0 rfl) ?_
    refine lv_iload_n hx hb dX6_in_6 rfl (lv_at hl 2 rfl) ?_
    refine lv_icmp_gt (tgt := 14) hx hb dX6_in_7 (by decide) (fun c4 => ?_) (fun c4 => ?_)
    ·
      have d5 : dkN [(10, 2147483647)] p0 := dkN_le2 1 dp2 d3 (dkc_lt c4) rfl
      refine lv_iconst (v := 0) hx hb dX6_in_14 (by decide) ?_
      exact W.zret (v := 0) (ty := .boolean) hx hb hr rfl (fun t ht hW9 => ⟨⟨0, I0, rfl, ⟨hF, hO, Or.inl ⟨dkN_sub (dkN_lit (x := 0) (0) rfl) rfl, dkN_sub d5 rfl, trivial⟩⟩, dkW_eq ht hW⟩, hS.F ht⟩) hS.2.2 dX6_in_15
    ·
      have d6 : dkN [(3, 9)] p0 := dkN_le1 0 d3 dp2 (dkc_nlt c4) rfl
      refine lv_iconst (v := 1) hx hb dX6_in_10 (by decide) ?_
      refine lv_goto (tgt := 15) hx hb dX6_in_11 (by decide) ?_
      exact W.zret (v := 1) (ty := .boolean) hx hb hr rfl (fun t ht hW9 => ⟨⟨1, I0, rfl, ⟨hF, hO, Or.inr (⟨dkN_sub (dkN_lit (x := 1) (1) rfl) rfl, dkN_sub d6 rfl, trivial⟩)⟩, dkW_eq ht hW⟩, hS.F ht⟩) hS.2.2 dX6_in_15
set_option maxHeartbeats 4000000 in
set_option maxRecDepth 100000 in
theorem c_X6_takes_2 (l : Launch) (g : dkG) (z : Nat) (I0 : dkI) (p0 : Int32) (p1 : Int32) (dp0 : dkN [(0, 0)] p0) (dp1 : dkN [(2, 2)] p1) (np0 : dkN [(-2147483648, 2), (10, 2147483647)] (I0 340 12)) (np1 : dkN [(-1, 90)] (I0 340 8))  (hO : dkOk I0) : Met l yX6_takes wsX6_takes (dkR 1) (dkPc g z [.ref (z + 340), .int p0, .int p1] I0) (dkQi g z (fun r I1 => dkF [(340, 340, 7, 8)] I0 I1 ∧ dkOk I1 ∧ ((dkN [(0, 0)] r ∧ dkN [(-2147483648, 2), (10, 2147483647)] (I1 340 12) ∧ dkN [(0, 90)] (I1 340 8) ∧ True)))) 0 0 (dkA z) := by
  refine Met.ofW (cc := cX6_takes) (maxL := 4) (ret := (some .int)) (by decide) rfl ?_
  intro p e s m args below meth c s₁ B hml hv
  obtain ⟨ha, hW, hK, hT⟩ := hv
  have hx := B.exec
  have hb := B.bytes
  have hr := B.returns
  have hts := atoms_spec (ws := wsX6_takes) B.pre
  have hown : s.vm.findClass RX6 = some m.cls := findClass_of_methodNamed B.named
  have hlocks := B.notSynchronized
  have hS : va_S (dkA z) s.heap s.heap [] := va_S.rf
  have hF : dkF [(340, 340, 7, 8)] I0 I0 := dkF_rf _ _
  have hl := lv_entry ([.ref (z + 340), .int p0, .int p1]) (n := 4) (Nat.le_of_ble_eq_true rfl)
  have hgo : entryFrame m args 4 = entryFrame m ([.ref (z + 340), .int p0, .int p1] : List Value).toArray 4 := by rw [ha]
  rw [hgo, lg_entry_eq]
  generalize (lg_sl ([.ref (z + 340), .int p0, .int p1]) ++ List.replicate (4 - (lg_sl ([.ref (z + 340), .int p0, .int p1])).length) Slot.unset).toArray = ls at hl ⊢
  have hl : lv_has ls 4 [(0, .ref (z + 340)), (1, .int p0), (2, .int p1)] := hl
  refine lv_aload_n hx hb dX6_takes_0 rfl (lv_at hl 0 rfl) ?_
  refine dk_Vi (As := []) (rest := []) ⟨hx, hb, hml, hown, hts⟩ (c_X6_isWell_1 l g z I0 (show dkN [(-1, 90)] (I0 340 8) from dkN_sub np1 rfl) hO) (cwV 0 hts gX6_takes_X6_isWell rfl rfl rfl (by decide +kernel) ⟨Nat.le_of_ble_eq_true rfl, Nat.le_of_ble_eq_true rfl⟩) (dk_at340 hW) rfl hK hT hW hS rfl hl.1 rfl (Nat.le_of_ble_eq_true rfl) dX6_takes_1 ⟨Nat.zero_le _, Nat.zero_le _⟩ (fun v1 I1 H1 L1 hp1 hW hS => ?_)
  obtain ⟨hF1, hO, hc1⟩ := hp1
  have hF := dkF_call hF hF1 rfl
  rcases hc1 with ⟨dv1, f1_340_8, -⟩ | hc1
  ·
    refine lv_if_ne (tgt := 9) hx hb dX6_takes_4 (by decide) (fun c2 => ?_) (fun c2 => ?_)
    ·
      exact (dkN_nil (show dkN [] v1 from dkN_ne1 (0) dv1 (dkN_lit (x := 0) (0) rfl) (dk_ne c2) rfl)).elim
    ·
      refine lv_iconst (v := 0) hx hb dX6_takes_7 (by decide) ?_
      exact W.iret (v := 0) hx hb hr (fun t ht hW9 => ⟨⟨0, I1, rfl, ⟨hF, hO, ⟨dkN_sub (dkN_lit (x := 0) (0) rfl) rfl, (show dkN [(-2147483648, 2), (10, 2147483647)] (I1 340 12) from dkN_sub (by rw [hF1 340 12 rfl]; exact np0) rfl), (show dkN [(0, 90)] (I1 340 8) from dkN_sub f1_340_8 rfl), trivial⟩⟩, dkW_eq ht hW⟩, hS.F ht⟩) hS.2.2 dX6_takes_8
  ·
    obtain ⟨dv1, f1_340_8, -⟩ := hc1
    refine lv_if_ne (tgt := 9) hx hb dX6_takes_4 (by decide) (fun c3 => ?_) (fun c3 => ?_)
    ·
      refine lv_iload_n hx hb dX6_takes_9 rfl (lv_at hl 1 rfl) ?_
      refine lv_if_ne (tgt := 28) hx hb dX6_takes_10 (by decide) (fun c4 => ?_) (fun c4 => ?_)
      ·
        exact (dkN_nil (show dkN [] p0 from dkN_ne1 (0) dp0 (dkN_lit (x := 0) (0) rfl) (dk_ne c4) rfl)).elim
      ·
        refine lv_aload_n hx hb dX6_takes_13 rfl (lv_at hl 0 rfl) ?_
        refine lv_aload_n hx hb dX6_takes_14 rfl (lv_at hl 0 rfl) ?_
        refine dk_get (k := 340) hx hb hts iX6_takes_6 hown hK (dk_at340 hW) rfl 10 (by decide) (hts (.fieldLink RX6 89 "DogKingsModel" "start" "I") (List.mem_of_getElem? (i := 1) rfl)) rfl dX6_takes_15 ?_
        refine lv_topi (fun v5 ev5 => ?_)
        have dv5 : dkN [(0, 90)] v5 := by rw [ev5]; exact (hO 340 10)
        refine dk_put (k := 340) hx hb hts iX6_takes_6 tyX6 tyX6_ok nmX6 hown hK hW (dk_at340 hW) hS rfl 8 (by decide) (hts (.fieldLink RX6 101 "DogKingsModel" "faultPlace" "I") (List.mem_of_getElem? (i := 2) rfl)) rfl rfl (Nat.le_of_ble_eq_true rfl) rfl dX6_takes_18 (fun I6 H6 L6 eI6 hW hS => ?_)
        have eI6 : I6 = dkU I1 340 8 v5 := eI6
        have hO := dkO_set hO eI6 (dkN_sub dv5 rfl)
        have hF := dkF_set hF eI6 rfl
        refine lv_aload_n hx hb dX6_takes_21 rfl (lv_at hl 0 rfl) ?_
        refine lv_iload_n hx hb dX6_takes_22 rfl (lv_at hl 2 rfl) ?_
        refine dk_put (k := 340) hx hb hts iX6_takes_6 tyX6 tyX6_ok nmX6 hown hK hW (dk_at340 hW) hS rfl 7 (by decide) (hts (.fieldLink RX6 108 "DogKingsModel" "faultKind" "I") (List.mem_of_getElem? (i := 3) rfl)) rfl rfl (Nat.le_of_ble_eq_true rfl) rfl dX6_takes_23 (fun I7 H7 L7 eI7 hW hS => ?_)
        have eI7 : I7 = dkU I6 340 7 p1 := eI7
        have hO := dkO_set hO eI7 (dkN_sub dp1 rfl)
        have hF := dkF_set hF eI7 rfl
        refine lv_iconst (v := 0) hx hb dX6_takes_26 (by decide) ?_
        exact W.iret (v := 0) hx hb hr (fun t ht hW9 => ⟨⟨0, I7, rfl, ⟨hF, hO, ⟨dkN_sub (dkN_lit (x := 0) (0) rfl) rfl, (show dkN [(-2147483648, 2), (10, 2147483647)] (I7 340 12) from dkN_sub (by rw [eI7, dkU_sn (by decide)]; exact (by rw [eI6, dkU_sn (by decide)]; exact (by rw [hF1 340 12 rfl]; exact np0))) rfl), (show dkN [(0, 90)] (I7 340 8) from dkN_sub (by rw [eI7, dkU_sn (by decide)]; exact (by rw [eI6, dkU_ss]; exact dv5)) rfl), trivial⟩⟩, dkW_eq ht hW⟩, hS.F ht⟩) hS.2.2 dX6_takes_27
    ·
      exact (dkN_nil (show dkN [] v1 from dkN_eq1 dv1 (dkN_lit (x := 0) (0) rfl) (congrArg Int32.toInt c3) rfl)).elim
set_option maxHeartbeats 4000000 in
set_option maxRecDepth 100000 in
theorem c_X6_takes_3 (l : Launch) (g : dkG) (z : Nat) (I0 : dkI) (p0 : Int32) (p1 : Int32) (dp0 : dkN [(1, 1)] p0) (dp1 : dkN [(2, 2)] p1) (np0 : dkN [(3, 9)] (I0 340 12)) (np1 : dkN [(-1, 90)] (I0 340 8))  (hO : dkOk I0) : Met l yX6_takes wsX6_takes (dkR 2) (dkPc g z [.ref (z + 340), .int p0, .int p1] I0) (dkQi g z (fun r I1 => dkF [(340, 340, 9, 12)] I0 I1 ∧ dkOk I1 ∧ ((dkN [(0, 0)] r ∧ dkN [(3, 9)] (I1 340 12) ∧ dkN [(0, 90)] (I1 340 8) ∧ True) ∨ (dkN [(3, 9)] r ∧ dkN [(0, 5)] (I1 340 11) ∧ dkN [(-1, -1)] (I1 340 8) ∧ True)))) 0 0 (dkA z) := by
  refine Met.ofW (cc := cX6_takes) (maxL := 4) (ret := (some .int)) (by decide) rfl ?_
  intro p e s m args below meth c s₁ B hml hv
  obtain ⟨ha, hW, hK, hT⟩ := hv
  have hx := B.exec
  have hb := B.bytes
  have hr := B.returns
  have hts := atoms_spec (ws := wsX6_takes) B.pre
  have hown : s.vm.findClass RX6 = some m.cls := findClass_of_methodNamed B.named
  have hlocks := B.notSynchronized
  have hS : va_S (dkA z) s.heap s.heap [] := va_S.rf
  have hF : dkF [(340, 340, 9, 12)] I0 I0 := dkF_rf _ _
  have hl := lv_entry ([.ref (z + 340), .int p0, .int p1]) (n := 4) (Nat.le_of_ble_eq_true rfl)
  have hgo : entryFrame m args 4 = entryFrame m ([.ref (z + 340), .int p0, .int p1] : List Value).toArray 4 := by rw [ha]
  rw [hgo, lg_entry_eq]
  generalize (lg_sl ([.ref (z + 340), .int p0, .int p1]) ++ List.replicate (4 - (lg_sl ([.ref (z + 340), .int p0, .int p1])).length) Slot.unset).toArray = ls at hl ⊢
  have hl : lv_has ls 4 [(0, .ref (z + 340)), (1, .int p0), (2, .int p1)] := hl
  refine lv_aload_n hx hb dX6_takes_0 rfl (lv_at hl 0 rfl) ?_
  refine dk_Vi (As := []) (rest := []) ⟨hx, hb, hml, hown, hts⟩ (c_X6_isWell_1 l g z I0 (show dkN [(-1, 90)] (I0 340 8) from dkN_sub np1 rfl) hO) (cwV 0 hts gX6_takes_X6_isWell rfl rfl rfl (by decide +kernel) ⟨Nat.le_of_ble_eq_true rfl, Nat.le_of_ble_eq_true rfl⟩) (dk_at340 hW) rfl hK hT hW hS rfl hl.1 rfl (Nat.le_of_ble_eq_true rfl) dX6_takes_1 ⟨Nat.zero_le _, Nat.zero_le _⟩ (fun v1 I1 H1 L1 hp1 hW hS => ?_)
  obtain ⟨hF1, hO, hc1⟩ := hp1
  have hF := dkF_call hF hF1 rfl
  rcases hc1 with ⟨dv1, f1_340_8, -⟩ | hc1
  ·
    refine lv_if_ne (tgt := 9) hx hb dX6_takes_4 (by decide) (fun c2 => ?_) (fun c2 => ?_)
    ·
      exact (dkN_nil (show dkN [] v1 from dkN_ne1 (0) dv1 (dkN_lit (x := 0) (0) rfl) (dk_ne c2) rfl)).elim
    ·
      refine lv_iconst (v := 0) hx hb dX6_takes_7 (by decide) ?_
      exact W.iret (v := 0) hx hb hr (fun t ht hW9 => ⟨⟨0, I1, rfl, ⟨hF, hO, Or.inl ⟨dkN_sub (dkN_lit (x := 0) (0) rfl) rfl, (show dkN [(3, 9)] (I1 340 12) from dkN_sub (by rw [hF1 340 12 rfl]; exact np0) rfl), (show dkN [(0, 90)] (I1 340 8) from dkN_sub f1_340_8 rfl), trivial⟩⟩, dkW_eq ht hW⟩, hS.F ht⟩) hS.2.2 dX6_takes_8
  ·
    obtain ⟨dv1, f1_340_8, -⟩ := hc1
    refine lv_if_ne (tgt := 9) hx hb dX6_takes_4 (by decide) (fun c3 => ?_) (fun c3 => ?_)
    ·
      refine lv_iload_n hx hb dX6_takes_9 rfl (lv_at hl 1 rfl) ?_
      refine lv_if_ne (tgt := 28) hx hb dX6_takes_10 (by decide) (fun c4 => ?_) (fun c4 => ?_)
      ·
        refine lv_aload_n hx hb dX6_takes_28 rfl (lv_at hl 0 rfl) ?_
        refine dk_get (k := 340) hx hb hts iX6_takes_6 hown hK (dk_at340 hW) rfl 12 (by decide) (hts (.fieldLink RX6 95 "DogKingsModel" "value" "I") (List.mem_of_getElem? (i := 4) rfl)) rfl dX6_takes_29 ?_
        refine lv_topi (fun v5 ev5 => ?_)
        have dv5 : dkN [(3, 9)] v5 := by rw [ev5]; exact (by rw [hF1 340 12 rfl]; exact np0)
        refine lv_istore_n (lv' := [(3, .int v5), (0, .ref (z + 340)), (1, .int p0), (2, .int p1)]) hx hb dX6_takes_32 rfl hl (by decide) rfl (fun ls hl => ?_)
        refine lv_aload_n hx hb dX6_takes_33 rfl (lv_at hl 1 rfl) ?_
        refine dk_Vv (As := []) (rest := []) ⟨hx, hb, hml, hown, hts⟩ (c_X6_advances_0 l g z I1 hO) (cwV 0 hts gX6_takes_X6_advances rfl rfl rfl (by decide +kernel) ⟨Nat.le_of_ble_eq_true rfl, Nat.le_of_ble_eq_true rfl⟩) (dk_at340 hW) rfl hK hT hW hS rfl hl.1 rfl (Nat.le_of_ble_eq_true rfl) dX6_takes_34 ⟨Nat.zero_le _, Nat.zero_le _⟩ (fun I6 H6 L6 hp6 hW hS => ?_)
        obtain ⟨hF6, hO, hc6⟩ := hp6
        have hF := dkF_call hF hF6 rfl
        obtain ⟨f6_340_11, -⟩ := hc6
        refine lv_iload_n hx hb dX6_takes_37 rfl (lv_at hl 0 rfl) ?_
        exact W.iret (v := v5) hx hb hr (fun t ht hW9 => ⟨⟨v5, I6, rfl, ⟨hF, hO, Or.inr (⟨dkN_sub dv5 rfl, (show dkN [(0, 5)] (I6 340 11) from dkN_sub f6_340_11 rfl), (show dkN [(-1, -1)] (I6 340 8) from dkN_sub (by rw [hF6 340 8 rfl]; exact f1_340_8) rfl), trivial⟩)⟩, dkW_eq ht hW⟩, hS.F ht⟩) hS.2.2 dX6_takes_38
      ·
        exact (dkN_nil (show dkN [] p0 from dkN_eq1 dp0 (dkN_lit (x := 0) (0) rfl) (congrArg Int32.toInt c4) rfl)).elim
    ·
      exact (dkN_nil (show dkN [] v1 from dkN_eq1 dv1 (dkN_lit (x := 0) (0) rfl) (congrArg Int32.toInt c3) rfl)).elim
set_option maxHeartbeats 4000000 in
set_option maxRecDepth 100000 in
theorem c_X6_figure_0 (l : Launch) (g : dkG) (z : Nat) (I0 : dkI) (p0 : Int32) (p1 : Int32) (dp0 : dkN [(3, 3)] p0) (dp1 : dkN [(9, 9)] p1) (np0 : dkN [(-1, 90)] (I0 340 8))  (hO : dkOk I0) : Met l yX6_figure wsX6_figure (dkR 3) (dkPc g z [.ref (z + 340), .int p0, .int p1] I0) (dkQi g z (fun r I1 => dkF [(340, 340, 7, 12)] I0 I1 ∧ dkOk I1 ∧ ((dkN [(0, 0)] r ∧ dkN [(0, 90)] (I1 340 8) ∧ True) ∨ (dkN [(3, 9)] r ∧ dkN [(0, 5)] (I1 340 11) ∧ dkN [(-1, -1)] (I1 340 8) ∧ True)))) 0 0 (dkA z) := by
  refine Met.ofW (cc := cX6_figure) (maxL := 3) (ret := (some .int)) (by decide) rfl ?_
  intro p e s m args below meth c s₁ B hml hv
  obtain ⟨ha, hW, hK, hT⟩ := hv
  have hx := B.exec
  have hb := B.bytes
  have hr := B.returns
  have hts := atoms_spec (ws := wsX6_figure) B.pre
  have hown : s.vm.findClass RX6 = some m.cls := findClass_of_methodNamed B.named
  have hlocks := B.notSynchronized
  have hS : va_S (dkA z) s.heap s.heap [] := va_S.rf
  have hF : dkF [(340, 340, 7, 12)] I0 I0 := dkF_rf _ _
  have hl := lv_entry ([.ref (z + 340), .int p0, .int p1]) (n := 3) (Nat.le_of_ble_eq_true rfl)
  have hgo : entryFrame m args 3 = entryFrame m ([.ref (z + 340), .int p0, .int p1] : List Value).toArray 3 := by rw [ha]
  rw [hgo, lg_entry_eq]
  generalize (lg_sl ([.ref (z + 340), .int p0, .int p1]) ++ List.replicate (3 - (lg_sl ([.ref (z + 340), .int p0, .int p1])).length) Slot.unset).toArray = ls at hl ⊢
  have hl : lv_has ls 3 [(0, .ref (z + 340)), (1, .int p0), (2, .int p1)] := hl
  have C22 : ∀ (I : dkI) (H : Heap) (locs : List Loc) (ls : Array Slot), dkW g z I H → va_S (dkA z) s.heap H locs → dkF [(340, 340, 7, 12)] I0 I → dkOk I → dkN [(-1, 90)] (I 340 8) → lv_has ls 3 [(0, .ref (z + 340)), (1, .int p0), (2, .int p1)] → W p l e (headSpec wsX6_figure (dkR 3)).room s m args below meth c H locs 0 0 (MQ below (dkQi g z (fun r I1 => dkF [(340, 340, 7, 12)] I0 I1 ∧ dkOk I1 ∧ ((dkN [(0, 0)] r ∧ dkN [(0, 90)] (I1 340 8) ∧ True) ∨ (dkN [(3, 9)] r ∧ dkN [(0, 5)] (I1 340 11) ∧ dkN [(-1, -1)] (I1 340 8) ∧ True)))) args s 0 0 (dkA z)) (F0 m 22 ls []) := by
    intro I22_ H locs ls hW hS hF_22 hO f22_0 hl
    have hF := hF_22
    refine lv_aload_n hx hb dX6_figure_22 rfl (lv_at hl 0 rfl) ?_
    refine lv_aload_n hx hb dX6_figure_23 rfl (lv_at hl 0 rfl) ?_
    refine dk_get (k := 340) hx hb hts iX6_figure_6 hown hK (dk_at340 hW) rfl 12 (by decide) (hts (.fieldLink RX6 95 "DogKingsModel" "value" "I") (List.mem_of_getElem? (i := 2) rfl)) rfl dX6_figure_24 ?_
    refine lv_topi (fun v1 ev1 => ?_)
    refine lv_iload_n hx hb dX6_figure_27 rfl (lv_at hl 1 rfl) ?_
    refine lv_iload_n hx hb dX6_figure_28 rfl (lv_at hl 2 rfl) ?_
    refine dk_Si (As := [.int v1, .int p0, .int p1]) (rest := [.ref (z + 340)]) ⟨hx, hb, hml, hown, hts⟩ (c_X6_in_7 l g z I22_ v1 p0 p1 dp0 dp1 hO) (va_cwS 3 hts gX6_figure_X6_in rfl rfl rfl (by decide +kernel) ⟨Nat.le_of_ble_eq_true rfl, Nat.le_of_ble_eq_true rfl⟩) hK hT hW hS rfl hl.1 rfl (Nat.le_of_ble_eq_true rfl) dX6_figure_29 ⟨Nat.zero_le _, Nat.zero_le _⟩ (fun v2 I2 H2 L2 hp2 hW hS => ?_)
    obtain ⟨hF2, hO, hc2⟩ := hp2
    have hF := dkF_call hF hF2 rfl
    rcases hc2 with ⟨dv2, a2_0, -⟩ | hc2
    ·
      have e3 : v1 = I2 340 12 := by rw [hF2 340 12 rfl]; exact ev1
      have d4 : dkN [(-2147483648, 2), (10, 2147483647)] v1 := dkN_eq1 (dkN_top v1) a2_0 rfl rfl
      have f5 : dkN [(-2147483648, 2), (10, 2147483647)] (I2 340 12) := by rw [← e3]; exact d4
      refine lv_iconst (v := 2) hx hb dX6_figure_32 (by decide) ?_
      refine dk_Vi (As := [.int v2, .int 2]) (rest := []) ⟨hx, hb, hml, hown, hts⟩ (c_X6_takes_2 l g z I2 v2 2 dv2 (dkN_lit (x := 2) (2) rfl) (show dkN [(-2147483648, 2), (10, 2147483647)] (I2 340 12) from dkN_sub f5 rfl) (show dkN [(-1, 90)] (I2 340 8) from dkN_sub (by rw [hF2 340 8 rfl]; exact f22_0) rfl) hO) (cwV 2 hts gX6_figure_X6_takes rfl rfl rfl (by decide +kernel) ⟨Nat.le_of_ble_eq_true rfl, Nat.le_of_ble_eq_true rfl⟩) (dk_at340 hW) rfl hK hT hW hS rfl hl.1 rfl (Nat.le_of_ble_eq_true rfl) dX6_figure_33 ⟨Nat.zero_le _, Nat.zero_le _⟩ (fun v6 I6 H6 L6 hp6 hW hS => ?_)
      obtain ⟨hF6, hO, hc6⟩ := hp6
      have hF := dkF_call hF hF6 rfl
      obtain ⟨dv6, f6_340_12, f6_340_8, -⟩ := hc6
      exact W.iret (v := v6) hx hb hr (fun t ht hW9 => ⟨⟨v6, I6, rfl, ⟨hF, hO, Or.inl ⟨dkN_sub dv6 rfl, (show dkN [(0, 90)] (I6 340 8) from dkN_sub f6_340_8 rfl), trivial⟩⟩, dkW_eq ht hW⟩, hS.F ht⟩) hS.2.2 dX6_figure_36
    ·
      obtain ⟨dv2, a2_0, -⟩ := hc2
      have e7 : v1 = I2 340 12 := by rw [hF2 340 12 rfl]; exact ev1
      have d8 : dkN [(3, 9)] v1 := dkN_eq1 (dkN_top v1) a2_0 rfl rfl
      have f9 : dkN [(3, 9)] (I2 340 12) := by rw [← e7]; exact d8
      refine lv_iconst (v := 2) hx hb dX6_figure_32 (by decide) ?_
      refine dk_Vi (As := [.int v2, .int 2]) (rest := []) ⟨hx, hb, hml, hown, hts⟩ (c_X6_takes_3 l g z I2 v2 2 dv2 (dkN_lit (x := 2) (2) rfl) (show dkN [(3, 9)] (I2 340 12) from dkN_sub f9 rfl) (show dkN [(-1, 90)] (I2 340 8) from dkN_sub (by rw [hF2 340 8 rfl]; exact f22_0) rfl) hO) (cwV 2 hts gX6_figure_X6_takes rfl rfl rfl (by decide +kernel) ⟨Nat.le_of_ble_eq_true rfl, Nat.le_of_ble_eq_true rfl⟩) (dk_at340 hW) rfl hK hT hW hS rfl hl.1 rfl (Nat.le_of_ble_eq_true rfl) dX6_figure_33 ⟨Nat.zero_le _, Nat.zero_le _⟩ (fun v10 I10 H10 L10 hp10 hW hS => ?_)
      obtain ⟨hF10, hO, hc10⟩ := hp10
      have hF := dkF_call hF hF10 rfl
      rcases hc10 with ⟨dv10, f10_340_12, f10_340_8, -⟩ | hc10
      ·
        exact W.iret (v := v10) hx hb hr (fun t ht hW9 => ⟨⟨v10, I10, rfl, ⟨hF, hO, Or.inl ⟨dkN_sub dv10 rfl, (show dkN [(0, 90)] (I10 340 8) from dkN_sub f10_340_8 rfl), trivial⟩⟩, dkW_eq ht hW⟩, hS.F ht⟩) hS.2.2 dX6_figure_36
      ·
        obtain ⟨dv10, f10_340_11, f10_340_8, -⟩ := hc10
        exact W.iret (v := v10) hx hb hr (fun t ht hW9 => ⟨⟨v10, I10, rfl, ⟨hF, hO, Or.inr (⟨dkN_sub dv10 rfl, (show dkN [(0, 5)] (I10 340 11) from dkN_sub f10_340_11 rfl), (show dkN [(-1, -1)] (I10 340 8) from dkN_sub f10_340_8 rfl), trivial⟩)⟩, dkW_eq ht hW⟩, hS.F ht⟩) hS.2.2 dX6_figure_36
  refine lv_aload_n hx hb dX6_figure_0 rfl (lv_at hl 0 rfl) ?_
  refine dk_Vi (As := []) (rest := []) ⟨hx, hb, hml, hown, hts⟩ (c_X6_isWell_1 l g z I0 (show dkN [(-1, 90)] (I0 340 8) from dkN_sub np0 rfl) hO) (cwV 0 hts gX6_figure_X6_isWell rfl rfl rfl (by decide +kernel) ⟨Nat.le_of_ble_eq_true rfl, Nat.le_of_ble_eq_true rfl⟩) (dk_at340 hW) rfl hK hT hW hS rfl hl.1 rfl (Nat.le_of_ble_eq_true rfl) dX6_figure_1 ⟨Nat.zero_le _, Nat.zero_le _⟩ (fun v11 I11 H11 L11 hp11 hW hS => ?_)
  obtain ⟨hF11, hO, hc11⟩ := hp11
  have hF := dkF_call hF hF11 rfl
  rcases hc11 with ⟨dv11, f11_340_8, -⟩ | hc11
  ·
    refine lv_if_eq (tgt := 22) hx hb dX6_figure_4 (by decide) (fun c12 => ?_) (fun c12 => ?_)
    ·
      exact C22 I11 _ _ ls  hW hS hF hO (show dkN [(-1, 90)] (I11 340 8) from dkN_sub f11_340_8 rfl) (lv_sub hl [0, 1, 2] rfl)
    ·
      exact (dkN_nil (show dkN [] v11 from dkN_ne1 (0) dv11 (dkN_lit (x := 0) (0) rfl) (dk_ne c12) rfl)).elim
  ·
    obtain ⟨dv11, f11_340_8, -⟩ := hc11
    refine lv_if_eq (tgt := 22) hx hb dX6_figure_4 (by decide) (fun c13 => ?_) (fun c13 => ?_)
    ·
      exact (dkN_nil (show dkN [] v11 from dkN_eq1 dv11 (dkN_lit (x := 0) (0) rfl) (congrArg Int32.toInt c13) rfl)).elim
    ·
      refine lv_aload_n hx hb dX6_figure_7 rfl (lv_at hl 0 rfl) ?_
      refine dk_get (k := 340) hx hb hts iX6_figure_6 hown hK (dk_at340 hW) rfl 11 (by decide) (hts (.fieldLink RX6 98 "DogKingsModel" "token" "I") (List.mem_of_getElem? (i := 1) rfl)) rfl dX6_figure_8 ?_
      refine lv_topi (fun v14 ev14 => ?_)
      refine lv_iconst (v := 2) hx hb dX6_figure_11 (by decide) ?_
      refine lv_icmp_eq (tgt := 22) hx hb dX6_figure_12 (by decide) (fun c15 => ?_) (fun c15 => ?_)
      ·
        have d16 : dkN [(2, 2)] v14 := dkN_eq1 (dkN_top v14) (dkN_lit (x := 2) (2) rfl) (congrArg Int32.toInt c15) rfl
        have f17 : dkN [(2, 2)] (I11 340 11) := by rw [← ev14]; exact d16
        exact C22 I11 _ _ ls  hW hS hF hO (show dkN [(-1, 90)] (I11 340 8) from dkN_sub f11_340_8 rfl) (lv_sub hl [0, 1, 2] rfl)
      ·
        have d18 : dkN [(-2147483648, 1), (3, 2147483647)] v14 := dkN_ne1 (2) (dkN_top v14) (dkN_lit (x := 2) (2) rfl) (dk_ne c15) rfl
        have f19 : dkN [(-2147483648, 1), (3, 2147483647)] (I11 340 11) := by rw [← ev14]; exact d18
        refine lv_aload_n hx hb dX6_figure_15 rfl (lv_at hl 0 rfl) ?_
        refine lv_iconst (v := 0) hx hb dX6_figure_16 (by decide) ?_
        refine lv_iconst (v := 1) hx hb dX6_figure_17 (by decide) ?_
        refine dk_Vi (As := [.int 0, .int 1]) (rest := []) ⟨hx, hb, hml, hown, hts⟩ (c_X6_takes_1 l g z I11 0 1 (dkN_lit (x := 0) (0) rfl) (dkN_lit (x := 1) (1) rfl) (show dkN [(-1, -1)] (I11 340 8) from dkN_sub f11_340_8 rfl) hO) (cwV 2 hts gX6_figure_X6_takes rfl rfl rfl (by decide +kernel) ⟨Nat.le_of_ble_eq_true rfl, Nat.le_of_ble_eq_true rfl⟩) (dk_at340 hW) rfl hK hT hW hS rfl hl.1 rfl (Nat.le_of_ble_eq_true rfl) dX6_figure_18 ⟨Nat.zero_le _, Nat.zero_le _⟩ (fun v20 I20 H20 L20 hp20 hW hS => ?_)
        obtain ⟨hF20, hO, hc20⟩ := hp20
        have hF := dkF_call hF hF20 rfl
        obtain ⟨dv20, f20_340_7, f20_340_8, -⟩ := hc20
        exact W.iret (v := v20) hx hb hr (fun t ht hW9 => ⟨⟨v20, I20, rfl, ⟨hF, hO, Or.inl ⟨dkN_sub dv20 rfl, (show dkN [(0, 90)] (I20 340 8) from dkN_sub f20_340_8 rfl), trivial⟩⟩, dkW_eq ht hW⟩, hS.F ht⟩) hS.2.2 dX6_figure_21
set_option maxHeartbeats 4000000 in
set_option maxRecDepth 100000 in
theorem c_X6_isWell_2 (l : Launch) (g : dkG) (z : Nat) (I0 : dkI) (np0 : dkN [(0, 90)] (I0 340 8))  (hO : dkOk I0) : Met l yX6_isWell wsX6_isWell (dkR 0) (dkPc g z [.ref (z + 340)] I0) (dkQi g z (fun r I1 => dkF [] I0 I1 ∧ dkOk I1 ∧ ((dkN [(0, 0)] r ∧ dkN [(0, 90)] (I1 340 8) ∧ True)))) 0 0 (dkA z) := by
  refine Met.ofW (cc := cX6_isWell) (maxL := 1) (ret := (some .boolean)) (by decide) rfl ?_
  intro p e s m args below meth c s₁ B hml hv
  obtain ⟨ha, hW, hK, hT⟩ := hv
  have hx := B.exec
  have hb := B.bytes
  have hr := B.returns
  have hts := atoms_spec (ws := wsX6_isWell) B.pre
  have hown : s.vm.findClass RX6 = some m.cls := findClass_of_methodNamed B.named
  have hlocks := B.notSynchronized
  have hS : va_S (dkA z) s.heap s.heap [] := va_S.rf
  have hF : dkF [] I0 I0 := dkF_rf _ _
  have hl := lv_entry ([.ref (z + 340)]) (n := 1) (Nat.le_of_ble_eq_true rfl)
  have hgo : entryFrame m args 1 = entryFrame m ([.ref (z + 340)] : List Value).toArray 1 := by rw [ha]
  rw [hgo, lg_entry_eq]
  generalize (lg_sl ([.ref (z + 340)]) ++ List.replicate (1 - (lg_sl ([.ref (z + 340)])).length) Slot.unset).toArray = ls at hl ⊢
  have hl : lv_has ls 1 [(0, .ref (z + 340))] := hl
  refine lv_aload_n hx hb dX6_isWell_0 rfl (lv_at hl 0 rfl) ?_
  refine dk_get (k := 340) hx hb hts iX6_isWell_6 hown hK (dk_at340 hW) rfl 8 (by decide) (hts (.fieldLink RX6 101 "DogKingsModel" "faultPlace" "I") (List.mem_of_getElem? (i := 1) rfl)) rfl dX6_isWell_1 ?_
  refine lv_topi (fun v1 ev1 => ?_)
  have dv1 : dkN [(0, 90)] v1 := by rw [ev1]; exact np0
  refine lv_if_ge (tgt := 11) hx hb dX6_isWell_4 (by decide) (fun c2 => ?_) (fun c2 => ?_)
  ·
    refine lv_iconst (v := 0) hx hb dX6_isWell_11 (by decide) ?_
    exact W.zret (v := 0) (ty := .boolean) hx hb hr rfl (fun t ht hW9 => ⟨⟨0, I0, rfl, ⟨hF, hO, ⟨dkN_sub (dkN_lit (x := 0) (0) rfl) rfl, (show dkN [(0, 90)] (I0 340 8) from dkN_sub np0 rfl), trivial⟩⟩, dkW_eq ht hW⟩, hS.F ht⟩) hS.2.2 dX6_isWell_12
  ·
    exact (dkN_nil (show dkN [] 0 from dkN_le2 1 dv1 (dkN_lit (x := 0) (0) rfl) (dkc_nle c2) rfl)).elim
set_option maxHeartbeats 4000000 in
set_option maxRecDepth 100000 in
theorem c_X6_takes_4 (l : Launch) (g : dkG) (z : Nat) (I0 : dkI) (p0 : Int32) (p1 : Int32) (dp0 : dkN [(0, 1)] p0) (dp1 : dkN [(1, 1)] p1) (np0 : dkN [(0, 90)] (I0 340 8))  (hO : dkOk I0) : Met l yX6_takes wsX6_takes (dkR 1) (dkPc g z [.ref (z + 340), .int p0, .int p1] I0) (dkQi g z (fun r I1 => dkF [] I0 I1 ∧ dkOk I1 ∧ ((dkN [(0, 0)] r ∧ dkN [(0, 90)] (I1 340 8) ∧ True)))) 0 0 (dkA z) := by
  refine Met.ofW (cc := cX6_takes) (maxL := 4) (ret := (some .int)) (by decide) rfl ?_
  intro p e s m args below meth c s₁ B hml hv
  obtain ⟨ha, hW, hK, hT⟩ := hv
  have hx := B.exec
  have hb := B.bytes
  have hr := B.returns
  have hts := atoms_spec (ws := wsX6_takes) B.pre
  have hown : s.vm.findClass RX6 = some m.cls := findClass_of_methodNamed B.named
  have hlocks := B.notSynchronized
  have hS : va_S (dkA z) s.heap s.heap [] := va_S.rf
  have hF : dkF [] I0 I0 := dkF_rf _ _
  have hl := lv_entry ([.ref (z + 340), .int p0, .int p1]) (n := 4) (Nat.le_of_ble_eq_true rfl)
  have hgo : entryFrame m args 4 = entryFrame m ([.ref (z + 340), .int p0, .int p1] : List Value).toArray 4 := by rw [ha]
  rw [hgo, lg_entry_eq]
  generalize (lg_sl ([.ref (z + 340), .int p0, .int p1]) ++ List.replicate (4 - (lg_sl ([.ref (z + 340), .int p0, .int p1])).length) Slot.unset).toArray = ls at hl ⊢
  have hl : lv_has ls 4 [(0, .ref (z + 340)), (1, .int p0), (2, .int p1)] := hl
  refine lv_aload_n hx hb dX6_takes_0 rfl (lv_at hl 0 rfl) ?_
  refine dk_Vi (As := []) (rest := []) ⟨hx, hb, hml, hown, hts⟩ (c_X6_isWell_2 l g z I0 (show dkN [(0, 90)] (I0 340 8) from dkN_sub np0 rfl) hO) (cwV 0 hts gX6_takes_X6_isWell rfl rfl rfl (by decide +kernel) ⟨Nat.le_of_ble_eq_true rfl, Nat.le_of_ble_eq_true rfl⟩) (dk_at340 hW) rfl hK hT hW hS rfl hl.1 rfl (Nat.le_of_ble_eq_true rfl) dX6_takes_1 ⟨Nat.zero_le _, Nat.zero_le _⟩ (fun v1 I1 H1 L1 hp1 hW hS => ?_)
  obtain ⟨hF1, hO, hc1⟩ := hp1
  have hF := dkF_call hF hF1 rfl
  obtain ⟨dv1, f1_340_8, -⟩ := hc1
  refine lv_if_ne (tgt := 9) hx hb dX6_takes_4 (by decide) (fun c2 => ?_) (fun c2 => ?_)
  ·
    exact (dkN_nil (show dkN [] v1 from dkN_ne1 (0) dv1 (dkN_lit (x := 0) (0) rfl) (dk_ne c2) rfl)).elim
  ·
    refine lv_iconst (v := 0) hx hb dX6_takes_7 (by decide) ?_
    exact W.iret (v := 0) hx hb hr (fun t ht hW9 => ⟨⟨0, I1, rfl, ⟨hF, hO, ⟨dkN_sub (dkN_lit (x := 0) (0) rfl) rfl, (show dkN [(0, 90)] (I1 340 8) from dkN_sub f1_340_8 rfl), trivial⟩⟩, dkW_eq ht hW⟩, hS.F ht⟩) hS.2.2 dX6_takes_8
set_option maxHeartbeats 4000000 in
set_option maxRecDepth 100000 in
theorem c_X6_in_8 (l : Launch) (g : dkG) (z : Nat) (I0 : dkI) (p0 : Int32) (p1 : Int32) (p2 : Int32) (dp1 : dkN [(1, 1)] p1) (dp2 : dkN [(30, 30)] p2)  (hO : dkOk I0) : Met l yX6_in wsX6_in (dkR 0) (dkPc g z [.int p0, .int p1, .int p2] I0) (dkQi g z (fun r I1 => dkF [] I0 I1 ∧ dkOk I1 ∧ ((dkN [(0, 0)] r ∧ dkN [(-2147483648, 0), (31, 2147483647)] p0 ∧ True) ∨ (dkN [(1, 1)] r ∧ dkN [(1, 30)] p0 ∧ True)))) 0 0 (dkA z) := by
  refine Met.ofW (cc := cX6_in) (maxL := 3) (ret := (some .boolean)) (by decide) rfl ?_
  intro p e s m args below meth c s₁ B hml hv
  obtain ⟨ha, hW, hK, hT⟩ := hv
  have hx := B.exec
  have hb := B.bytes
  have hr := B.returns
  have hts := atoms_spec (ws := wsX6_in) B.pre
  have hown : s.vm.findClass RX6 = some m.cls := findClass_of_methodNamed B.named
  have hlocks := B.notSynchronized
  have hS : va_S (dkA z) s.heap s.heap [] := va_S.rf
  have hF : dkF [] I0 I0 := dkF_rf _ _
  have hl := lv_entry ([.int p0, .int p1, .int p2]) (n := 3) (Nat.le_of_ble_eq_true rfl)
  have hgo : entryFrame m args 3 = entryFrame m ([.int p0, .int p1, .int p2] : List Value).toArray 3 := by rw [ha]
  rw [hgo, lg_entry_eq]
  generalize (lg_sl ([.int p0, .int p1, .int p2]) ++ List.replicate (3 - (lg_sl ([.int p0, .int p1, .int p2])).length) Slot.unset).toArray = ls at hl ⊢
  have hl : lv_has ls 3 [(0, .int p0), (1, .int p1), (2, .int p2)] := hl
  refine lv_iload_n hx hb dX6_in_0 rfl (lv_at hl 0 rfl) ?_
  refine lv_iload_n hx hb dX6_in_1 rfl (lv_at hl 1 rfl) ?_
  refine lv_icmp_lt (tgt := 14) hx hb dX6_in_2 (by decide) (fun c1 => ?_) (fun c1 => ?_)
  ·
    have d2 : dkN [(-2147483648, 0)] p0 := dkN_le1 1 (dkN_top p0) dp1 (dkc_lt c1) rfl
    refine lv_iconst (v := 0) hx hb dX6_in_14 (by decide) ?_
    exact W.zret (v := 0) (ty := .boolean) hx hb hr rfl (fun t ht hW9 => ⟨⟨0, I0, rfl, ⟨hF, hO, Or.inl ⟨dkN_sub (dkN_lit (x := 0) (0) rfl) rfl, dkN_sub d2 rfl, trivial⟩⟩, dkW_eq ht hW⟩, hS.F ht⟩) hS.2.2 dX6_in_15
  ·
    have d3 : dkN [(1, 2147483647)] p0 := dkN_le2 0 dp1 (dkN_top p0) (dkc_nlt c1) rfl
    refine lv_iload_n hx hb dX6_in_5 rfl (lv_at hl 0 rfl) ?_
    refine lv_iload_n hx hb dX6_in_6 rfl (lv_at hl 2 rfl) ?_
    refine lv_icmp_gt (tgt := 14) hx hb dX6_in_7 (by decide) (fun c4 => ?_) (fun c4 => ?_)
    ·
      have d5 : dkN [(31, 2147483647)] p0 := dkN_le2 1 dp2 d3 (dkc_lt c4) rfl
      refine lv_iconst (v := 0) hx hb dX6_in_14 (by decide) ?_
      exact W.zret (v := 0) (ty := .boolean) hx hb hr rfl (fun t ht hW9 => ⟨⟨0, I0, rfl, ⟨hF, hO, Or.inl ⟨dkN_sub (dkN_lit (x := 0) (0) rfl) rfl, dkN_sub d5 rfl, trivial⟩⟩, dkW_eq ht hW⟩, hS.F ht⟩) hS.2.2 dX6_in_15
    ·
      have d6 : dkN [(1, 30)] p0 := dkN_le1 0 d3 dp2 (dkc_nlt c4) rfl
      refine lv_iconst (v := 1) hx hb dX6_in_10 (by decide) ?_
      refine lv_goto (tgt := 15) hx hb dX6_in_11 (by decide) ?_
      exact W.zret (v := 1) (ty := .boolean) hx hb hr rfl (fun t ht hW9 => ⟨⟨1, I0, rfl, ⟨hF, hO, Or.inr (⟨dkN_sub (dkN_lit (x := 1) (1) rfl) rfl, dkN_sub d6 rfl, trivial⟩)⟩, dkW_eq ht hW⟩, hS.F ht⟩) hS.2.2 dX6_in_15
set_option maxHeartbeats 4000000 in
set_option maxRecDepth 100000 in
theorem c_X6_takes_5 (l : Launch) (g : dkG) (z : Nat) (I0 : dkI) (p0 : Int32) (p1 : Int32) (dp0 : dkN [(0, 0)] p0) (dp1 : dkN [(2, 2)] p1) (np0 : dkN [(-2147483648, 0), (31, 2147483647)] (I0 340 12)) (np1 : dkN [(0, 90)] (I0 340 8))  (hO : dkOk I0) : Met l yX6_takes wsX6_takes (dkR 1) (dkPc g z [.ref (z + 340), .int p0, .int p1] I0) (dkQi g z (fun r I1 => dkF [] I0 I1 ∧ dkOk I1 ∧ ((dkN [(0, 0)] r ∧ dkN [(-2147483648, 0), (31, 2147483647)] (I1 340 12) ∧ dkN [(0, 90)] (I1 340 8) ∧ True)))) 0 0 (dkA z) := by
  refine Met.ofW (cc := cX6_takes) (maxL := 4) (ret := (some .int)) (by decide) rfl ?_
  intro p e s m args below meth c s₁ B hml hv
  obtain ⟨ha, hW, hK, hT⟩ := hv
  have hx := B.exec
  have hb := B.bytes
  have hr := B.returns
  have hts := atoms_spec (ws := wsX6_takes) B.pre
  have hown : s.vm.findClass RX6 = some m.cls := findClass_of_methodNamed B.named
  have hlocks := B.notSynchronized
  have hS : va_S (dkA z) s.heap s.heap [] := va_S.rf
  have hF : dkF [] I0 I0 := dkF_rf _ _
  have hl := lv_entry ([.ref (z + 340), .int p0, .int p1]) (n := 4) (Nat.le_of_ble_eq_true rfl)
  have hgo : entryFrame m args 4 = entryFrame m ([.ref (z + 340), .int p0, .int p1] : List Value).toArray 4 := by rw [ha]
  rw [hgo, lg_entry_eq]
  generalize (lg_sl ([.ref (z + 340), .int p0, .int p1]) ++ List.replicate (4 - (lg_sl ([.ref (z + 340), .int p0, .int p1])).length) Slot.unset).toArray = ls at hl ⊢
  have hl : lv_has ls 4 [(0, .ref (z + 340)), (1, .int p0), (2, .int p1)] := hl
  refine lv_aload_n hx hb dX6_takes_0 rfl (lv_at hl 0 rfl) ?_
  refine dk_Vi (As := []) (rest := []) ⟨hx, hb, hml, hown, hts⟩ (c_X6_isWell_2 l g z I0 (show dkN [(0, 90)] (I0 340 8) from dkN_sub np1 rfl) hO) (cwV 0 hts gX6_takes_X6_isWell rfl rfl rfl (by decide +kernel) ⟨Nat.le_of_ble_eq_true rfl, Nat.le_of_ble_eq_true rfl⟩) (dk_at340 hW) rfl hK hT hW hS rfl hl.1 rfl (Nat.le_of_ble_eq_true rfl) dX6_takes_1 ⟨Nat.zero_le _, Nat.zero_le _⟩ (fun v1 I1 H1 L1 hp1 hW hS => ?_)
  obtain ⟨hF1, hO, hc1⟩ := hp1
  have hF := dkF_call hF hF1 rfl
  obtain ⟨dv1, f1_340_8, -⟩ := hc1
  refine lv_if_ne (tgt := 9) hx hb dX6_takes_4 (by decide) (fun c2 => ?_) (fun c2 => ?_)
  ·
    exact (dkN_nil (show dkN [] v1 from dkN_ne1 (0) dv1 (dkN_lit (x := 0) (0) rfl) (dk_ne c2) rfl)).elim
  ·
    refine lv_iconst (v := 0) hx hb dX6_takes_7 (by decide) ?_
    exact W.iret (v := 0) hx hb hr (fun t ht hW9 => ⟨⟨0, I1, rfl, ⟨hF, hO, ⟨dkN_sub (dkN_lit (x := 0) (0) rfl) rfl, (show dkN [(-2147483648, 0), (31, 2147483647)] (I1 340 12) from dkN_sub (by rw [hF1 340 12 rfl]; exact np0) rfl), (show dkN [(0, 90)] (I1 340 8) from dkN_sub f1_340_8 rfl), trivial⟩⟩, dkW_eq ht hW⟩, hS.F ht⟩) hS.2.2 dX6_takes_8
set_option maxHeartbeats 4000000 in
set_option maxRecDepth 100000 in
theorem c_X6_takes_6 (l : Launch) (g : dkG) (z : Nat) (I0 : dkI) (p0 : Int32) (p1 : Int32) (dp0 : dkN [(1, 1)] p0) (dp1 : dkN [(2, 2)] p1) (np0 : dkN [(1, 30)] (I0 340 12)) (np1 : dkN [(0, 90)] (I0 340 8))  (hO : dkOk I0) : Met l yX6_takes wsX6_takes (dkR 1) (dkPc g z [.ref (z + 340), .int p0, .int p1] I0) (dkQi g z (fun r I1 => dkF [] I0 I1 ∧ dkOk I1 ∧ ((dkN [(0, 0)] r ∧ dkN [(1, 30)] (I1 340 12) ∧ dkN [(0, 90)] (I1 340 8) ∧ True)))) 0 0 (dkA z) := by
  refine Met.ofW (cc := cX6_takes) (maxL := 4) (ret := (some .int)) (by decide) rfl ?_
  intro p e s m args below meth c s₁ B hml hv
  obtain ⟨ha, hW, hK, hT⟩ := hv
  have hx := B.exec
  have hb := B.bytes
  have hr := B.returns
  have hts := atoms_spec (ws := wsX6_takes) B.pre
  have hown : s.vm.findClass RX6 = some m.cls := findClass_of_methodNamed B.named
  have hlocks := B.notSynchronized
  have hS : va_S (dkA z) s.heap s.heap [] := va_S.rf
  have hF : dkF [] I0 I0 := dkF_rf _ _
  have hl := lv_entry ([.ref (z + 340), .int p0, .int p1]) (n := 4) (Nat.le_of_ble_eq_true rfl)
  have hgo : entryFrame m args 4 = entryFrame m ([.ref (z + 340), .int p0, .int p1] : List Value).toArray 4 := by rw [ha]
  rw [hgo, lg_entry_eq]
  generalize (lg_sl ([.ref (z + 340), .int p0, .int p1]) ++ List.replicate (4 - (lg_sl ([.ref (z + 340), .int p0, .int p1])).length) Slot.unset).toArray = ls at hl ⊢
  have hl : lv_has ls 4 [(0, .ref (z + 340)), (1, .int p0), (2, .int p1)] := hl
  refine lv_aload_n hx hb dX6_takes_0 rfl (lv_at hl 0 rfl) ?_
  refine dk_Vi (As := []) (rest := []) ⟨hx, hb, hml, hown, hts⟩ (c_X6_isWell_2 l g z I0 (show dkN [(0, 90)] (I0 340 8) from dkN_sub np1 rfl) hO) (cwV 0 hts gX6_takes_X6_isWell rfl rfl rfl (by decide +kernel) ⟨Nat.le_of_ble_eq_true rfl, Nat.le_of_ble_eq_true rfl⟩) (dk_at340 hW) rfl hK hT hW hS rfl hl.1 rfl (Nat.le_of_ble_eq_true rfl) dX6_takes_1 ⟨Nat.zero_le _, Nat.zero_le _⟩ (fun v1 I1 H1 L1 hp1 hW hS => ?_)
  obtain ⟨hF1, hO, hc1⟩ := hp1
  have hF := dkF_call hF hF1 rfl
  obtain ⟨dv1, f1_340_8, -⟩ := hc1
  refine lv_if_ne (tgt := 9) hx hb dX6_takes_4 (by decide) (fun c2 => ?_) (fun c2 => ?_)
  ·
    exact (dkN_nil (show dkN [] v1 from dkN_ne1 (0) dv1 (dkN_lit (x := 0) (0) rfl) (dk_ne c2) rfl)).elim
  ·
    refine lv_iconst (v := 0) hx hb dX6_takes_7 (by decide) ?_
    exact W.iret (v := 0) hx hb hr (fun t ht hW9 => ⟨⟨0, I1, rfl, ⟨hF, hO, ⟨dkN_sub (dkN_lit (x := 0) (0) rfl) rfl, (show dkN [(1, 30)] (I1 340 12) from dkN_sub (by rw [hF1 340 12 rfl]; exact np0) rfl), (show dkN [(0, 90)] (I1 340 8) from dkN_sub f1_340_8 rfl), trivial⟩⟩, dkW_eq ht hW⟩, hS.F ht⟩) hS.2.2 dX6_takes_8
set_option maxHeartbeats 4000000 in
set_option maxRecDepth 100000 in
theorem c_X6_figure_1 (l : Launch) (g : dkG) (z : Nat) (I0 : dkI) (p0 : Int32) (p1 : Int32) (dp0 : dkN [(1, 1)] p0) (dp1 : dkN [(30, 30)] p1) (np0 : dkN [(0, 90)] (I0 340 8))  (hO : dkOk I0) : Met l yX6_figure wsX6_figure (dkR 2) (dkPc g z [.ref (z + 340), .int p0, .int p1] I0) (dkQi g z (fun r I1 => dkF [] I0 I1 ∧ dkOk I1 ∧ ((dkN [(0, 0)] r ∧ dkN [(0, 90)] (I1 340 8) ∧ True)))) 0 0 (dkA z) := by
  refine Met.ofW (cc := cX6_figure) (maxL := 3) (ret := (some .int)) (by decide) rfl ?_
  intro p e s m args below meth c s₁ B hml hv
  obtain ⟨ha, hW, hK, hT⟩ := hv
  have hx := B.exec
  have hb := B.bytes
  have hr := B.returns
  have hts := atoms_spec (ws := wsX6_figure) B.pre
  have hown : s.vm.findClass RX6 = some m.cls := findClass_of_methodNamed B.named
  have hlocks := B.notSynchronized
  have hS : va_S (dkA z) s.heap s.heap [] := va_S.rf
  have hF : dkF [] I0 I0 := dkF_rf _ _
  have hl := lv_entry ([.ref (z + 340), .int p0, .int p1]) (n := 3) (Nat.le_of_ble_eq_true rfl)
  have hgo : entryFrame m args 3 = entryFrame m ([.ref (z + 340), .int p0, .int p1] : List Value).toArray 3 := by rw [ha]
  rw [hgo, lg_entry_eq]
  generalize (lg_sl ([.ref (z + 340), .int p0, .int p1]) ++ List.replicate (3 - (lg_sl ([.ref (z + 340), .int p0, .int p1])).length) Slot.unset).toArray = ls at hl ⊢
  have hl : lv_has ls 3 [(0, .ref (z + 340)), (1, .int p0), (2, .int p1)] := hl
  have C22 : ∀ (I : dkI) (H : Heap) (locs : List Loc) (ls : Array Slot), dkW g z I H → va_S (dkA z) s.heap H locs → dkF [] I0 I → dkOk I → dkN [(0, 90)] (I 340 8) → lv_has ls 3 [(0, .ref (z + 340)), (1, .int p0), (2, .int p1)] → W p l e (headSpec wsX6_figure (dkR 2)).room s m args below meth c H locs 0 0 (MQ below (dkQi g z (fun r I1 => dkF [] I0 I1 ∧ dkOk I1 ∧ ((dkN [(0, 0)] r ∧ dkN [(0, 90)] (I1 340 8) ∧ True)))) args s 0 0 (dkA z)) (F0 m 22 ls []) := by
    intro I22_ H locs ls hW hS hF_22 hO f22_0 hl
    have hF := hF_22
    refine lv_aload_n hx hb dX6_figure_22 rfl (lv_at hl 0 rfl) ?_
    refine lv_aload_n hx hb dX6_figure_23 rfl (lv_at hl 0 rfl) ?_
    refine dk_get (k := 340) hx hb hts iX6_figure_6 hown hK (dk_at340 hW) rfl 12 (by decide) (hts (.fieldLink RX6 95 "DogKingsModel" "value" "I") (List.mem_of_getElem? (i := 2) rfl)) rfl dX6_figure_24 ?_
    refine lv_topi (fun v1 ev1 => ?_)
    refine lv_iload_n hx hb dX6_figure_27 rfl (lv_at hl 1 rfl) ?_
    refine lv_iload_n hx hb dX6_figure_28 rfl (lv_at hl 2 rfl) ?_
    refine dk_Si (As := [.int v1, .int p0, .int p1]) (rest := [.ref (z + 340)]) ⟨hx, hb, hml, hown, hts⟩ (c_X6_in_8 l g z I22_ v1 p0 p1 dp0 dp1 hO) (va_cwS 3 hts gX6_figure_X6_in rfl rfl rfl (by decide +kernel) ⟨Nat.le_of_ble_eq_true rfl, Nat.le_of_ble_eq_true rfl⟩) hK hT hW hS rfl hl.1 rfl (Nat.le_of_ble_eq_true rfl) dX6_figure_29 ⟨Nat.zero_le _, Nat.zero_le _⟩ (fun v2 I2 H2 L2 hp2 hW hS => ?_)
    obtain ⟨hF2, hO, hc2⟩ := hp2
    have hF := dkF_call hF hF2 rfl
    rcases hc2 with ⟨dv2, a2_0, -⟩ | hc2
    ·
      have e3 : v1 = I2 340 12 := by rw [hF2 340 12 rfl]; exact ev1
      have d4 : dkN [(-2147483648, 0), (31, 2147483647)] v1 := dkN_eq1 (dkN_top v1) a2_0 rfl rfl
      have f5 : dkN [(-2147483648, 0), (31, 2147483647)] (I2 340 12) := by rw [← e3]; exact d4
      refine lv_iconst (v := 2) hx hb dX6_figure_32 (by decide) ?_
      refine dk_Vi (As := [.int v2, .int 2]) (rest := []) ⟨hx, hb, hml, hown, hts⟩ (c_X6_takes_5 l g z I2 v2 2 dv2 (dkN_lit (x := 2) (2) rfl) (show dkN [(-2147483648, 0), (31, 2147483647)] (I2 340 12) from dkN_sub f5 rfl) (show dkN [(0, 90)] (I2 340 8) from dkN_sub (by rw [hF2 340 8 rfl]; exact f22_0) rfl) hO) (cwV 2 hts gX6_figure_X6_takes rfl rfl rfl (by decide +kernel) ⟨Nat.le_of_ble_eq_true rfl, Nat.le_of_ble_eq_true rfl⟩) (dk_at340 hW) rfl hK hT hW hS rfl hl.1 rfl (Nat.le_of_ble_eq_true rfl) dX6_figure_33 ⟨Nat.zero_le _, Nat.zero_le _⟩ (fun v6 I6 H6 L6 hp6 hW hS => ?_)
      obtain ⟨hF6, hO, hc6⟩ := hp6
      have hF := dkF_call hF hF6 rfl
      obtain ⟨dv6, f6_340_12, f6_340_8, -⟩ := hc6
      exact W.iret (v := v6) hx hb hr (fun t ht hW9 => ⟨⟨v6, I6, rfl, ⟨hF, hO, ⟨dkN_sub dv6 rfl, (show dkN [(0, 90)] (I6 340 8) from dkN_sub f6_340_8 rfl), trivial⟩⟩, dkW_eq ht hW⟩, hS.F ht⟩) hS.2.2 dX6_figure_36
    ·
      obtain ⟨dv2, a2_0, -⟩ := hc2
      have e7 : v1 = I2 340 12 := by rw [hF2 340 12 rfl]; exact ev1
      have d8 : dkN [(1, 30)] v1 := dkN_eq1 (dkN_top v1) a2_0 rfl rfl
      have f9 : dkN [(1, 30)] (I2 340 12) := by rw [← e7]; exact d8
      refine lv_iconst (v := 2) hx hb dX6_figure_32 (by decide) ?_
      refine dk_Vi (As := [.int v2, .int 2]) (rest := []) ⟨hx, hb, hml, hown, hts⟩ (c_X6_takes_6 l g z I2 v2 2 dv2 (dkN_lit (x := 2) (2) rfl) (show dkN [(1, 30)] (I2 340 12) from dkN_sub f9 rfl) (show dkN [(0, 90)] (I2 340 8) from dkN_sub (by rw [hF2 340 8 rfl]; exact f22_0) rfl) hO) (cwV 2 hts gX6_figure_X6_takes rfl rfl rfl (by decide +kernel) ⟨Nat.le_of_ble_eq_true rfl, Nat.le_of_ble_eq_true rfl⟩) (dk_at340 hW) rfl hK hT hW hS rfl hl.1 rfl (Nat.le_of_ble_eq_true rfl) dX6_figure_33 ⟨Nat.zero_le _, Nat.zero_le _⟩ (fun v10 I10 H10 L10 hp10 hW hS => ?_)
      obtain ⟨hF10, hO, hc10⟩ := hp10
      have hF := dkF_call hF hF10 rfl
      obtain ⟨dv10, f10_340_12, f10_340_8, -⟩ := hc10
      exact W.iret (v := v10) hx hb hr (fun t ht hW9 => ⟨⟨v10, I10, rfl, ⟨hF, hO, ⟨dkN_sub dv10 rfl, (show dkN [(0, 90)] (I10 340 8) from dkN_sub f10_340_8 rfl), trivial⟩⟩, dkW_eq ht hW⟩, hS.F ht⟩) hS.2.2 dX6_figure_36
  refine lv_aload_n hx hb dX6_figure_0 rfl (lv_at hl 0 rfl) ?_
  refine dk_Vi (As := []) (rest := []) ⟨hx, hb, hml, hown, hts⟩ (c_X6_isWell_2 l g z I0 (show dkN [(0, 90)] (I0 340 8) from dkN_sub np0 rfl) hO) (cwV 0 hts gX6_figure_X6_isWell rfl rfl rfl (by decide +kernel) ⟨Nat.le_of_ble_eq_true rfl, Nat.le_of_ble_eq_true rfl⟩) (dk_at340 hW) rfl hK hT hW hS rfl hl.1 rfl (Nat.le_of_ble_eq_true rfl) dX6_figure_1 ⟨Nat.zero_le _, Nat.zero_le _⟩ (fun v11 I11 H11 L11 hp11 hW hS => ?_)
  obtain ⟨hF11, hO, hc11⟩ := hp11
  have hF := dkF_call hF hF11 rfl
  obtain ⟨dv11, f11_340_8, -⟩ := hc11
  refine lv_if_eq (tgt := 22) hx hb dX6_figure_4 (by decide) (fun c12 => ?_) (fun c12 => ?_)
  ·
    exact C22 I11 _ _ ls  hW hS hF hO (show dkN [(0, 90)] (I11 340 8) from dkN_sub f11_340_8 rfl) (lv_sub hl [0, 1, 2] rfl)
  ·
    exact (dkN_nil (show dkN [] v11 from dkN_ne1 (0) dv11 (dkN_lit (x := 0) (0) rfl) (dk_ne c12) rfl)).elim
set_option maxHeartbeats 4000000 in
set_option maxRecDepth 100000 in
theorem c_X6_follows_0 (l : Launch) (g : dkG) (z : Nat) (I0 : dkI) (p0 : Int32) (p1 : Int32) (dp0 : dkN [(1, 1)] p0) (dp1 : dkN [(30, 30)] p1) (np0 : dkN [(0, 90)] (I0 340 8))  (hO : dkOk I0) : Met l yX6_follows wsX6_follows (dkR 3) (dkPc g z [.ref (z + 340), .int p0, .int p1] I0) (dkQi g z (fun r I1 => dkF [] I0 I1 ∧ dkOk I1 ∧ ((dkN [(0, 0)] r ∧ dkN [(0, 90)] (I1 340 8) ∧ True)))) 0 0 (dkA z) := by
  refine Met.ofW (cc := cX6_follows) (maxL := 3) (ret := (some .int)) (by decide) rfl ?_
  intro p e s m args below meth c s₁ B hml hv
  obtain ⟨ha, hW, hK, hT⟩ := hv
  have hx := B.exec
  have hb := B.bytes
  have hr := B.returns
  have hts := atoms_spec (ws := wsX6_follows) B.pre
  have hown : s.vm.findClass RX6 = some m.cls := findClass_of_methodNamed B.named
  have hlocks := B.notSynchronized
  have hS : va_S (dkA z) s.heap s.heap [] := va_S.rf
  have hF : dkF [] I0 I0 := dkF_rf _ _
  have hl := lv_entry ([.ref (z + 340), .int p0, .int p1]) (n := 3) (Nat.le_of_ble_eq_true rfl)
  have hgo : entryFrame m args 3 = entryFrame m ([.ref (z + 340), .int p0, .int p1] : List Value).toArray 3 := by rw [ha]
  rw [hgo, lg_entry_eq]
  generalize (lg_sl ([.ref (z + 340), .int p0, .int p1]) ++ List.replicate (3 - (lg_sl ([.ref (z + 340), .int p0, .int p1])).length) Slot.unset).toArray = ls at hl ⊢
  have hl : lv_has ls 3 [(0, .ref (z + 340)), (1, .int p0), (2, .int p1)] := hl
  have C14 : ∀ (I : dkI) (H : Heap) (locs : List Loc) (ls : Array Slot) (x14_s0 : Int32), dkW g z I H → va_S (dkA z) s.heap H locs → dkF [] I0 I → dkOk I → dkN [(0, 1)] x14_s0 → dkN [(0, 90)] (I 340 8) → lv_has ls 3 [(0, .ref (z + 340)), (1, .int p0), (2, .int p1)] → W p l e (headSpec wsX6_follows (dkR 3)).room s m args below meth c H locs 0 0 (MQ below (dkQi g z (fun r I1 => dkF [] I0 I1 ∧ dkOk I1 ∧ ((dkN [(0, 0)] r ∧ dkN [(0, 90)] (I1 340 8) ∧ True)))) args s 0 0 (dkA z)) (F0 m 14 ls [.int x14_s0, .ref (z + 340)]) := by
    intro I14_ H locs ls x14_s0 hW hS hF_14 hO k14_0 f14_0 hl
    have hF := hF_14
    refine lv_iconst (v := 1) hx hb dX6_follows_14 (by decide) ?_
    refine dk_Vi (As := [.int x14_s0, .int 1]) (rest := []) ⟨hx, hb, hml, hown, hts⟩ (c_X6_takes_4 l g z I14_ x14_s0 1 k14_0 (dkN_lit (x := 1) (1) rfl) (show dkN [(0, 90)] (I14_ 340 8) from dkN_sub f14_0 rfl) hO) (cwV 2 hts gX6_follows_X6_takes rfl rfl rfl (by decide +kernel) ⟨Nat.le_of_ble_eq_true rfl, Nat.le_of_ble_eq_true rfl⟩) (dk_at340 hW) rfl hK hT hW hS rfl hl.1 rfl (Nat.le_of_ble_eq_true rfl) dX6_follows_15 ⟨Nat.zero_le _, Nat.zero_le _⟩ (fun v1 I1 H1 L1 hp1 hW hS => ?_)
    obtain ⟨hF1, hO, hc1⟩ := hp1
    have hF := dkF_call hF hF1 rfl
    obtain ⟨dv1, f1_340_8, -⟩ := hc1
    refine lv_pop hx hb dX6_follows_18 rfl ?_
    refine lv_aload_n hx hb dX6_follows_19 rfl (lv_at hl 0 rfl) ?_
    refine lv_iload_n hx hb dX6_follows_20 rfl (lv_at hl 1 rfl) ?_
    refine lv_iload_n hx hb dX6_follows_21 rfl (lv_at hl 2 rfl) ?_
    refine dk_Vi (As := [.int p0, .int p1]) (rest := []) ⟨hx, hb, hml, hown, hts⟩ (c_X6_figure_1 l g z I1 p0 p1 dp0 dp1 (show dkN [(0, 90)] (I1 340 8) from dkN_sub f1_340_8 rfl) hO) (cwV 2 hts gX6_follows_X6_figure rfl rfl rfl (by decide +kernel) ⟨Nat.le_of_ble_eq_true rfl, Nat.le_of_ble_eq_true rfl⟩) (dk_at340 hW) rfl hK hT hW hS rfl hl.1 rfl (Nat.le_of_ble_eq_true rfl) dX6_follows_22 ⟨Nat.zero_le _, Nat.zero_le _⟩ (fun v2 I2 H2 L2 hp2 hW hS => ?_)
    obtain ⟨hF2, hO, hc2⟩ := hp2
    have hF := dkF_call hF hF2 rfl
    obtain ⟨dv2, f2_340_8, -⟩ := hc2
    exact W.iret (v := v2) hx hb hr (fun t ht hW9 => ⟨⟨v2, I2, rfl, ⟨hF, hO, ⟨dkN_sub dv2 rfl, (show dkN [(0, 90)] (I2 340 8) from dkN_sub f2_340_8 rfl), trivial⟩⟩, dkW_eq ht hW⟩, hS.F ht⟩) hS.2.2 dX6_follows_25
  refine lv_aload_n hx hb dX6_follows_0 rfl (lv_at hl 0 rfl) ?_
  refine lv_aload_n hx hb dX6_follows_1 rfl (lv_at hl 0 rfl) ?_
  refine dk_get (k := 340) hx hb hts iX6_follows_6 hown hK (dk_at340 hW) rfl 11 (by decide) (hts (.fieldLink RX6 98 "DogKingsModel" "token" "I") (List.mem_of_getElem? (i := 1) rfl)) rfl dX6_follows_2 ?_
  refine lv_topi (fun v3 ev3 => ?_)
  refine lv_iconst (v := 3) hx hb dX6_follows_5 (by decide) ?_
  refine lv_icmp_ne (tgt := 13) hx hb dX6_follows_6 (by decide) (fun c4 => ?_) (fun c4 => ?_)
  ·
    have d5 : dkN [(-2147483648, 2), (4, 2147483647)] v3 := dkN_ne1 (3) (dkN_top v3) (dkN_lit (x := 3) (3) rfl) (dk_ne c4) rfl
    have f6 : dkN [(-2147483648, 2), (4, 2147483647)] (I0 340 11) := by rw [← ev3]; exact d5
    refine lv_iconst (v := 0) hx hb dX6_follows_13 (by decide) ?_
    exact C14 I0 _ _ ls 0 hW hS hF hO (dkN_sub (dkN_lit (x := 0) (0) rfl) rfl) (show dkN [(0, 90)] (I0 340 8) from dkN_sub np0 rfl) (lv_sub hl [0, 1, 2] rfl)
  ·
    have d7 : dkN [(3, 3)] v3 := dkN_eq1 (dkN_top v3) (dkN_lit (x := 3) (3) rfl) (congrArg Int32.toInt c4) rfl
    have f8 : dkN [(3, 3)] (I0 340 11) := by rw [← ev3]; exact d7
    refine lv_iconst (v := 1) hx hb dX6_follows_9 (by decide) ?_
    refine lv_goto (tgt := 14) hx hb dX6_follows_10 (by decide) ?_
    exact C14 I0 _ _ ls 1 hW hS hF hO (dkN_sub (dkN_lit (x := 1) (1) rfl) rfl) (show dkN [(0, 90)] (I0 340 8) from dkN_sub np0 rfl) (lv_sub hl [0, 1, 2] rfl)
set_option maxHeartbeats 4000000 in
set_option maxRecDepth 100000 in
theorem c_X6_takes_7 (l : Launch) (g : dkG) (z : Nat) (I0 : dkI) (p0 : Int32) (p1 : Int32) (dp0 : dkN [(0, 0)] p0) (dp1 : dkN [(2, 2)] p1) (np0 : dkN [(-2147483648, 0), (31, 2147483647)] (I0 340 12)) (np1 : dkN [(-1, 90)] (I0 340 8))  (hO : dkOk I0) : Met l yX6_takes wsX6_takes (dkR 1) (dkPc g z [.ref (z + 340), .int p0, .int p1] I0) (dkQi g z (fun r I1 => dkF [(340, 340, 7, 8)] I0 I1 ∧ dkOk I1 ∧ ((dkN [(0, 0)] r ∧ dkN [(-2147483648, 0), (31, 2147483647)] (I1 340 12) ∧ dkN [(0, 90)] (I1 340 8) ∧ True)))) 0 0 (dkA z) := by
  refine Met.ofW (cc := cX6_takes) (maxL := 4) (ret := (some .int)) (by decide) rfl ?_
  intro p e s m args below meth c s₁ B hml hv
  obtain ⟨ha, hW, hK, hT⟩ := hv
  have hx := B.exec
  have hb := B.bytes
  have hr := B.returns
  have hts := atoms_spec (ws := wsX6_takes) B.pre
  have hown : s.vm.findClass RX6 = some m.cls := findClass_of_methodNamed B.named
  have hlocks := B.notSynchronized
  have hS : va_S (dkA z) s.heap s.heap [] := va_S.rf
  have hF : dkF [(340, 340, 7, 8)] I0 I0 := dkF_rf _ _
  have hl := lv_entry ([.ref (z + 340), .int p0, .int p1]) (n := 4) (Nat.le_of_ble_eq_true rfl)
  have hgo : entryFrame m args 4 = entryFrame m ([.ref (z + 340), .int p0, .int p1] : List Value).toArray 4 := by rw [ha]
  rw [hgo, lg_entry_eq]
  generalize (lg_sl ([.ref (z + 340), .int p0, .int p1]) ++ List.replicate (4 - (lg_sl ([.ref (z + 340), .int p0, .int p1])).length) Slot.unset).toArray = ls at hl ⊢
  have hl : lv_has ls 4 [(0, .ref (z + 340)), (1, .int p0), (2, .int p1)] := hl
  refine lv_aload_n hx hb dX6_takes_0 rfl (lv_at hl 0 rfl) ?_
  refine dk_Vi (As := []) (rest := []) ⟨hx, hb, hml, hown, hts⟩ (c_X6_isWell_1 l g z I0 (show dkN [(-1, 90)] (I0 340 8) from dkN_sub np1 rfl) hO) (cwV 0 hts gX6_takes_X6_isWell rfl rfl rfl (by decide +kernel) ⟨Nat.le_of_ble_eq_true rfl, Nat.le_of_ble_eq_true rfl⟩) (dk_at340 hW) rfl hK hT hW hS rfl hl.1 rfl (Nat.le_of_ble_eq_true rfl) dX6_takes_1 ⟨Nat.zero_le _, Nat.zero_le _⟩ (fun v1 I1 H1 L1 hp1 hW hS => ?_)
  obtain ⟨hF1, hO, hc1⟩ := hp1
  have hF := dkF_call hF hF1 rfl
  rcases hc1 with ⟨dv1, f1_340_8, -⟩ | hc1
  ·
    refine lv_if_ne (tgt := 9) hx hb dX6_takes_4 (by decide) (fun c2 => ?_) (fun c2 => ?_)
    ·
      exact (dkN_nil (show dkN [] v1 from dkN_ne1 (0) dv1 (dkN_lit (x := 0) (0) rfl) (dk_ne c2) rfl)).elim
    ·
      refine lv_iconst (v := 0) hx hb dX6_takes_7 (by decide) ?_
      exact W.iret (v := 0) hx hb hr (fun t ht hW9 => ⟨⟨0, I1, rfl, ⟨hF, hO, ⟨dkN_sub (dkN_lit (x := 0) (0) rfl) rfl, (show dkN [(-2147483648, 0), (31, 2147483647)] (I1 340 12) from dkN_sub (by rw [hF1 340 12 rfl]; exact np0) rfl), (show dkN [(0, 90)] (I1 340 8) from dkN_sub f1_340_8 rfl), trivial⟩⟩, dkW_eq ht hW⟩, hS.F ht⟩) hS.2.2 dX6_takes_8
  ·
    obtain ⟨dv1, f1_340_8, -⟩ := hc1
    refine lv_if_ne (tgt := 9) hx hb dX6_takes_4 (by decide) (fun c3 => ?_) (fun c3 => ?_)
    ·
      refine lv_iload_n hx hb dX6_takes_9 rfl (lv_at hl 1 rfl) ?_
      refine lv_if_ne (tgt := 28) hx hb dX6_takes_10 (by decide) (fun c4 => ?_) (fun c4 => ?_)
      ·
        exact (dkN_nil (show dkN [] p0 from dkN_ne1 (0) dp0 (dkN_lit (x := 0) (0) rfl) (dk_ne c4) rfl)).elim
      ·
        refine lv_aload_n hx hb dX6_takes_13 rfl (lv_at hl 0 rfl) ?_
        refine lv_aload_n hx hb dX6_takes_14 rfl (lv_at hl 0 rfl) ?_
        refine dk_get (k := 340) hx hb hts iX6_takes_6 hown hK (dk_at340 hW) rfl 10 (by decide) (hts (.fieldLink RX6 89 "DogKingsModel" "start" "I") (List.mem_of_getElem? (i := 1) rfl)) rfl dX6_takes_15 ?_
        refine lv_topi (fun v5 ev5 => ?_)
        have dv5 : dkN [(0, 90)] v5 := by rw [ev5]; exact (hO 340 10)
        refine dk_put (k := 340) hx hb hts iX6_takes_6 tyX6 tyX6_ok nmX6 hown hK hW (dk_at340 hW) hS rfl 8 (by decide) (hts (.fieldLink RX6 101 "DogKingsModel" "faultPlace" "I") (List.mem_of_getElem? (i := 2) rfl)) rfl rfl (Nat.le_of_ble_eq_true rfl) rfl dX6_takes_18 (fun I6 H6 L6 eI6 hW hS => ?_)
        have eI6 : I6 = dkU I1 340 8 v5 := eI6
        have hO := dkO_set hO eI6 (dkN_sub dv5 rfl)
        have hF := dkF_set hF eI6 rfl
        refine lv_aload_n hx hb dX6_takes_21 rfl (lv_at hl 0 rfl) ?_
        refine lv_iload_n hx hb dX6_takes_22 rfl (lv_at hl 2 rfl) ?_
        refine dk_put (k := 340) hx hb hts iX6_takes_6 tyX6 tyX6_ok nmX6 hown hK hW (dk_at340 hW) hS rfl 7 (by decide) (hts (.fieldLink RX6 108 "DogKingsModel" "faultKind" "I") (List.mem_of_getElem? (i := 3) rfl)) rfl rfl (Nat.le_of_ble_eq_true rfl) rfl dX6_takes_23 (fun I7 H7 L7 eI7 hW hS => ?_)
        have eI7 : I7 = dkU I6 340 7 p1 := eI7
        have hO := dkO_set hO eI7 (dkN_sub dp1 rfl)
        have hF := dkF_set hF eI7 rfl
        refine lv_iconst (v := 0) hx hb dX6_takes_26 (by decide) ?_
        exact W.iret (v := 0) hx hb hr (fun t ht hW9 => ⟨⟨0, I7, rfl, ⟨hF, hO, ⟨dkN_sub (dkN_lit (x := 0) (0) rfl) rfl, (show dkN [(-2147483648, 0), (31, 2147483647)] (I7 340 12) from dkN_sub (by rw [eI7, dkU_sn (by decide)]; exact (by rw [eI6, dkU_sn (by decide)]; exact (by rw [hF1 340 12 rfl]; exact np0))) rfl), (show dkN [(0, 90)] (I7 340 8) from dkN_sub (by rw [eI7, dkU_sn (by decide)]; exact (by rw [eI6, dkU_ss]; exact dv5)) rfl), trivial⟩⟩, dkW_eq ht hW⟩, hS.F ht⟩) hS.2.2 dX6_takes_27
    ·
      exact (dkN_nil (show dkN [] v1 from dkN_eq1 dv1 (dkN_lit (x := 0) (0) rfl) (congrArg Int32.toInt c3) rfl)).elim
set_option maxHeartbeats 4000000 in
set_option maxRecDepth 100000 in
theorem c_X6_takes_8 (l : Launch) (g : dkG) (z : Nat) (I0 : dkI) (p0 : Int32) (p1 : Int32) (dp0 : dkN [(1, 1)] p0) (dp1 : dkN [(2, 2)] p1) (np0 : dkN [(1, 30)] (I0 340 12)) (np1 : dkN [(-1, 90)] (I0 340 8))  (hO : dkOk I0) : Met l yX6_takes wsX6_takes (dkR 2) (dkPc g z [.ref (z + 340), .int p0, .int p1] I0) (dkQi g z (fun r I1 => dkF [(340, 340, 9, 12)] I0 I1 ∧ dkOk I1 ∧ ((dkN [(0, 0)] r ∧ dkN [(1, 30)] (I1 340 12) ∧ dkN [(0, 90)] (I1 340 8) ∧ True) ∨ (dkN [(1, 30)] r ∧ dkN [(0, 5)] (I1 340 11) ∧ dkN [(-1, -1)] (I1 340 8) ∧ True)))) 0 0 (dkA z) := by
  refine Met.ofW (cc := cX6_takes) (maxL := 4) (ret := (some .int)) (by decide) rfl ?_
  intro p e s m args below meth c s₁ B hml hv
  obtain ⟨ha, hW, hK, hT⟩ := hv
  have hx := B.exec
  have hb := B.bytes
  have hr := B.returns
  have hts := atoms_spec (ws := wsX6_takes) B.pre
  have hown : s.vm.findClass RX6 = some m.cls := findClass_of_methodNamed B.named
  have hlocks := B.notSynchronized
  have hS : va_S (dkA z) s.heap s.heap [] := va_S.rf
  have hF : dkF [(340, 340, 9, 12)] I0 I0 := dkF_rf _ _
  have hl := lv_entry ([.ref (z + 340), .int p0, .int p1]) (n := 4) (Nat.le_of_ble_eq_true rfl)
  have hgo : entryFrame m args 4 = entryFrame m ([.ref (z + 340), .int p0, .int p1] : List Value).toArray 4 := by rw [ha]
  rw [hgo, lg_entry_eq]
  generalize (lg_sl ([.ref (z + 340), .int p0, .int p1]) ++ List.replicate (4 - (lg_sl ([.ref (z + 340), .int p0, .int p1])).length) Slot.unset).toArray = ls at hl ⊢
  have hl : lv_has ls 4 [(0, .ref (z + 340)), (1, .int p0), (2, .int p1)] := hl
  refine lv_aload_n hx hb dX6_takes_0 rfl (lv_at hl 0 rfl) ?_
  refine dk_Vi (As := []) (rest := []) ⟨hx, hb, hml, hown, hts⟩ (c_X6_isWell_1 l g z I0 (show dkN [(-1, 90)] (I0 340 8) from dkN_sub np1 rfl) hO) (cwV 0 hts gX6_takes_X6_isWell rfl rfl rfl (by decide +kernel) ⟨Nat.le_of_ble_eq_true rfl, Nat.le_of_ble_eq_true rfl⟩) (dk_at340 hW) rfl hK hT hW hS rfl hl.1 rfl (Nat.le_of_ble_eq_true rfl) dX6_takes_1 ⟨Nat.zero_le _, Nat.zero_le _⟩ (fun v1 I1 H1 L1 hp1 hW hS => ?_)
  obtain ⟨hF1, hO, hc1⟩ := hp1
  have hF := dkF_call hF hF1 rfl
  rcases hc1 with ⟨dv1, f1_340_8, -⟩ | hc1
  ·
    refine lv_if_ne (tgt := 9) hx hb dX6_takes_4 (by decide) (fun c2 => ?_) (fun c2 => ?_)
    ·
      exact (dkN_nil (show dkN [] v1 from dkN_ne1 (0) dv1 (dkN_lit (x := 0) (0) rfl) (dk_ne c2) rfl)).elim
    ·
      refine lv_iconst (v := 0) hx hb dX6_takes_7 (by decide) ?_
      exact W.iret (v := 0) hx hb hr (fun t ht hW9 => ⟨⟨0, I1, rfl, ⟨hF, hO, Or.inl ⟨dkN_sub (dkN_lit (x := 0) (0) rfl) rfl, (show dkN [(1, 30)] (I1 340 12) from dkN_sub (by rw [hF1 340 12 rfl]; exact np0) rfl), (show dkN [(0, 90)] (I1 340 8) from dkN_sub f1_340_8 rfl), trivial⟩⟩, dkW_eq ht hW⟩, hS.F ht⟩) hS.2.2 dX6_takes_8
  ·
    obtain ⟨dv1, f1_340_8, -⟩ := hc1
    refine lv_if_ne (tgt := 9) hx hb dX6_takes_4 (by decide) (fun c3 => ?_) (fun c3 => ?_)
    ·
      refine lv_iload_n hx hb dX6_takes_9 rfl (lv_at hl 1 rfl) ?_
      refine lv_if_ne (tgt := 28) hx hb dX6_takes_10 (by decide) (fun c4 => ?_) (fun c4 => ?_)
      ·
        refine lv_aload_n hx hb dX6_takes_28 rfl (lv_at hl 0 rfl) ?_
        refine dk_get (k := 340) hx hb hts iX6_takes_6 hown hK (dk_at340 hW) rfl 12 (by decide) (hts (.fieldLink RX6 95 "DogKingsModel" "value" "I") (List.mem_of_getElem? (i := 4) rfl)) rfl dX6_takes_29 ?_
        refine lv_topi (fun v5 ev5 => ?_)
        have dv5 : dkN [(1, 30)] v5 := by rw [ev5]; exact (by rw [hF1 340 12 rfl]; exact np0)
        refine lv_istore_n (lv' := [(3, .int v5), (0, .ref (z + 340)), (1, .int p0), (2, .int p1)]) hx hb dX6_takes_32 rfl hl (by decide) rfl (fun ls hl => ?_)
        refine lv_aload_n hx hb dX6_takes_33 rfl (lv_at hl 1 rfl) ?_
        refine dk_Vv (As := []) (rest := []) ⟨hx, hb, hml, hown, hts⟩ (c_X6_advances_0 l g z I1 hO) (cwV 0 hts gX6_takes_X6_advances rfl rfl rfl (by decide +kernel) ⟨Nat.le_of_ble_eq_true rfl, Nat.le_of_ble_eq_true rfl⟩) (dk_at340 hW) rfl hK hT hW hS rfl hl.1 rfl (Nat.le_of_ble_eq_true rfl) dX6_takes_34 ⟨Nat.zero_le _, Nat.zero_le _⟩ (fun I6 H6 L6 hp6 hW hS => ?_)
        obtain ⟨hF6, hO, hc6⟩ := hp6
        have hF := dkF_call hF hF6 rfl
        obtain ⟨f6_340_11, -⟩ := hc6
        refine lv_iload_n hx hb dX6_takes_37 rfl (lv_at hl 0 rfl) ?_
        exact W.iret (v := v5) hx hb hr (fun t ht hW9 => ⟨⟨v5, I6, rfl, ⟨hF, hO, Or.inr (⟨dkN_sub dv5 rfl, (show dkN [(0, 5)] (I6 340 11) from dkN_sub f6_340_11 rfl), (show dkN [(-1, -1)] (I6 340 8) from dkN_sub (by rw [hF6 340 8 rfl]; exact f1_340_8) rfl), trivial⟩)⟩, dkW_eq ht hW⟩, hS.F ht⟩) hS.2.2 dX6_takes_38
      ·
        exact (dkN_nil (show dkN [] p0 from dkN_eq1 dp0 (dkN_lit (x := 0) (0) rfl) (congrArg Int32.toInt c4) rfl)).elim
    ·
      exact (dkN_nil (show dkN [] v1 from dkN_eq1 dv1 (dkN_lit (x := 0) (0) rfl) (congrArg Int32.toInt c3) rfl)).elim
set_option maxHeartbeats 4000000 in
set_option maxRecDepth 100000 in
theorem c_X6_figure_2 (l : Launch) (g : dkG) (z : Nat) (I0 : dkI) (p0 : Int32) (p1 : Int32) (dp0 : dkN [(1, 1)] p0) (dp1 : dkN [(30, 30)] p1) (np0 : dkN [(-1, 90)] (I0 340 8))  (hO : dkOk I0) : Met l yX6_figure wsX6_figure (dkR 3) (dkPc g z [.ref (z + 340), .int p0, .int p1] I0) (dkQi g z (fun r I1 => dkF [(340, 340, 7, 12)] I0 I1 ∧ dkOk I1 ∧ ((dkN [(0, 0)] r ∧ dkN [(0, 90)] (I1 340 8) ∧ True) ∨ (dkN [(1, 30)] r ∧ dkN [(0, 5)] (I1 340 11) ∧ dkN [(-1, -1)] (I1 340 8) ∧ True)))) 0 0 (dkA z) := by
  refine Met.ofW (cc := cX6_figure) (maxL := 3) (ret := (some .int)) (by decide) rfl ?_
  intro p e s m args below meth c s₁ B hml hv
  obtain ⟨ha, hW, hK, hT⟩ := hv
  have hx := B.exec
  have hb := B.bytes
  have hr := B.returns
  have hts := atoms_spec (ws := wsX6_figure) B.pre
  have hown : s.vm.findClass RX6 = some m.cls := findClass_of_methodNamed B.named
  have hlocks := B.notSynchronized
  have hS : va_S (dkA z) s.heap s.heap [] := va_S.rf
  have hF : dkF [(340, 340, 7, 12)] I0 I0 := dkF_rf _ _
  have hl := lv_entry ([.ref (z + 340), .int p0, .int p1]) (n := 3) (Nat.le_of_ble_eq_true rfl)
  have hgo : entryFrame m args 3 = entryFrame m ([.ref (z + 340), .int p0, .int p1] : List Value).toArray 3 := by rw [ha]
  rw [hgo, lg_entry_eq]
  generalize (lg_sl ([.ref (z + 340), .int p0, .int p1]) ++ List.replicate (3 - (lg_sl ([.ref (z + 340), .int p0, .int p1])).length) Slot.unset).toArray = ls at hl ⊢
  have hl : lv_has ls 3 [(0, .ref (z + 340)), (1, .int p0), (2, .int p1)] := hl
  have C22 : ∀ (I : dkI) (H : Heap) (locs : List Loc) (ls : Array Slot), dkW g z I H → va_S (dkA z) s.heap H locs → dkF [(340, 340, 7, 12)] I0 I → dkOk I → dkN [(-1, 90)] (I 340 8) → lv_has ls 3 [(0, .ref (z + 340)), (1, .int p0), (2, .int p1)] → W p l e (headSpec wsX6_figure (dkR 3)).room s m args below meth c H locs 0 0 (MQ below (dkQi g z (fun r I1 => dkF [(340, 340, 7, 12)] I0 I1 ∧ dkOk I1 ∧ ((dkN [(0, 0)] r ∧ dkN [(0, 90)] (I1 340 8) ∧ True) ∨ (dkN [(1, 30)] r ∧ dkN [(0, 5)] (I1 340 11) ∧ dkN [(-1, -1)] (I1 340 8) ∧ True)))) args s 0 0 (dkA z)) (F0 m 22 ls []) := by
    intro I22_ H locs ls hW hS hF_22 hO f22_0 hl
    have hF := hF_22
    refine lv_aload_n hx hb dX6_figure_22 rfl (lv_at hl 0 rfl) ?_
    refine lv_aload_n hx hb dX6_figure_23 rfl (lv_at hl 0 rfl) ?_
    refine dk_get (k := 340) hx hb hts iX6_figure_6 hown hK (dk_at340 hW) rfl 12 (by decide) (hts (.fieldLink RX6 95 "DogKingsModel" "value" "I") (List.mem_of_getElem? (i := 2) rfl)) rfl dX6_figure_24 ?_
    refine lv_topi (fun v1 ev1 => ?_)
    refine lv_iload_n hx hb dX6_figure_27 rfl (lv_at hl 1 rfl) ?_
    refine lv_iload_n hx hb dX6_figure_28 rfl (lv_at hl 2 rfl) ?_
    refine dk_Si (As := [.int v1, .int p0, .int p1]) (rest := [.ref (z + 340)]) ⟨hx, hb, hml, hown, hts⟩ (c_X6_in_8 l g z I22_ v1 p0 p1 dp0 dp1 hO) (va_cwS 3 hts gX6_figure_X6_in rfl rfl rfl (by decide +kernel) ⟨Nat.le_of_ble_eq_true rfl, Nat.le_of_ble_eq_true rfl⟩) hK hT hW hS rfl hl.1 rfl (Nat.le_of_ble_eq_true rfl) dX6_figure_29 ⟨Nat.zero_le _, Nat.zero_le _⟩ (fun v2 I2 H2 L2 hp2 hW hS => ?_)
    obtain ⟨hF2, hO, hc2⟩ := hp2
    have hF := dkF_call hF hF2 rfl
    rcases hc2 with ⟨dv2, a2_0, -⟩ | hc2
    ·
      have e3 : v1 = I2 340 12 := by rw [hF2 340 12 rfl]; exact ev1
      have d4 : dkN [(-2147483648, 0), (31, 2147483647)] v1 := dkN_eq1 (dkN_top v1) a2_0 rfl rfl
      have f5 : dkN [(-2147483648, 0), (31, 2147483647)] (I2 340 12) := by rw [← e3]; exact d4
      refine lv_iconst (v := 2) hx hb dX6_figure_32 (by decide) ?_
      refine dk_Vi (As := [.int v2, .int 2]) (rest := []) ⟨hx, hb, hml, hown, hts⟩ (c_X6_takes_7 l g z I2 v2 2 dv2 (dkN_lit (x := 2) (2) rfl) (show dkN [(-2147483648, 0), (31, 2147483647)] (I2 340 12) from dkN_sub f5 rfl) (show dkN [(-1, 90)] (I2 340 8) from dkN_sub (by rw [hF2 340 8 rfl]; exact f22_0) rfl) hO) (cwV 2 hts gX6_figure_X6_takes rfl rfl rfl (by decide +kernel) ⟨Nat.le_of_ble_eq_true rfl, Nat.le_of_ble_eq_true rfl⟩) (dk_at340 hW) rfl hK hT hW hS rfl hl.1 rfl (Nat.le_of_ble_eq_true rfl) dX6_figure_33 ⟨Nat.zero_le _, Nat.zero_le _⟩ (fun v6 I6 H6 L6 hp6 hW hS => ?_)
      obtain ⟨hF6, hO, hc6⟩ := hp6
      have hF := dkF_call hF hF6 rfl
      obtain ⟨dv6, f6_340_12, f6_340_8, -⟩ := hc6
      exact W.iret (v := v6) hx hb hr (fun t ht hW9 => ⟨⟨v6, I6, rfl, ⟨hF, hO, Or.inl ⟨dkN_sub dv6 rfl, (show dkN [(0, 90)] (I6 340 8) from dkN_sub f6_340_8 rfl), trivial⟩⟩, dkW_eq ht hW⟩, hS.F ht⟩) hS.2.2 dX6_figure_36
    ·
      obtain ⟨dv2, a2_0, -⟩ := hc2
      have e7 : v1 = I2 340 12 := by rw [hF2 340 12 rfl]; exact ev1
      have d8 : dkN [(1, 30)] v1 := dkN_eq1 (dkN_top v1) a2_0 rfl rfl
      have f9 : dkN [(1, 30)] (I2 340 12) := by rw [← e7]; exact d8
      refine lv_iconst (v := 2) hx hb dX6_figure_32 (by decide) ?_
      refine dk_Vi (As := [.int v2, .int 2]) (rest := []) ⟨hx, hb, hml, hown, hts⟩ (c_X6_takes_8 l g z I2 v2 2 dv2 (dkN_lit (x := 2) (2) rfl) (show dkN [(1, 30)] (I2 340 12) from dkN_sub f9 rfl) (show dkN [(-1, 90)] (I2 340 8) from dkN_sub (by rw [hF2 340 8 rfl]; exact f22_0) rfl) hO) (cwV 2 hts gX6_figure_X6_takes rfl rfl rfl (by decide +kernel) ⟨Nat.le_of_ble_eq_true rfl, Nat.le_of_ble_eq_true rfl⟩) (dk_at340 hW) rfl hK hT hW hS rfl hl.1 rfl (Nat.le_of_ble_eq_true rfl) dX6_figure_33 ⟨Nat.zero_le _, Nat.zero_le _⟩ (fun v10 I10 H10 L10 hp10 hW hS => ?_)
      obtain ⟨hF10, hO, hc10⟩ := hp10
      have hF := dkF_call hF hF10 rfl
      rcases hc10 with ⟨dv10, f10_340_12, f10_340_8, -⟩ | hc10
      ·
        exact W.iret (v := v10) hx hb hr (fun t ht hW9 => ⟨⟨v10, I10, rfl, ⟨hF, hO, Or.inl ⟨dkN_sub dv10 rfl, (show dkN [(0, 90)] (I10 340 8) from dkN_sub f10_340_8 rfl), trivial⟩⟩, dkW_eq ht hW⟩, hS.F ht⟩) hS.2.2 dX6_figure_36
      ·
        obtain ⟨dv10, f10_340_11, f10_340_8, -⟩ := hc10
        exact W.iret (v := v10) hx hb hr (fun t ht hW9 => ⟨⟨v10, I10, rfl, ⟨hF, hO, Or.inr (⟨dkN_sub dv10 rfl, (show dkN [(0, 5)] (I10 340 11) from dkN_sub f10_340_11 rfl), (show dkN [(-1, -1)] (I10 340 8) from dkN_sub f10_340_8 rfl), trivial⟩)⟩, dkW_eq ht hW⟩, hS.F ht⟩) hS.2.2 dX6_figure_36
  refine lv_aload_n hx hb dX6_figure_0 rfl (lv_at hl 0 rfl) ?_
  refine dk_Vi (As := []) (rest := []) ⟨hx, hb, hml, hown, hts⟩ (c_X6_isWell_1 l g z I0 (show dkN [(-1, 90)] (I0 340 8) from dkN_sub np0 rfl) hO) (cwV 0 hts gX6_figure_X6_isWell rfl rfl rfl (by decide +kernel) ⟨Nat.le_of_ble_eq_true rfl, Nat.le_of_ble_eq_true rfl⟩) (dk_at340 hW) rfl hK hT hW hS rfl hl.1 rfl (Nat.le_of_ble_eq_true rfl) dX6_figure_1 ⟨Nat.zero_le _, Nat.zero_le _⟩ (fun v11 I11 H11 L11 hp11 hW hS => ?_)
  obtain ⟨hF11, hO, hc11⟩ := hp11
  have hF := dkF_call hF hF11 rfl
  rcases hc11 with ⟨dv11, f11_340_8, -⟩ | hc11
  ·
    refine lv_if_eq (tgt := 22) hx hb dX6_figure_4 (by decide) (fun c12 => ?_) (fun c12 => ?_)
    ·
      exact C22 I11 _ _ ls  hW hS hF hO (show dkN [(-1, 90)] (I11 340 8) from dkN_sub f11_340_8 rfl) (lv_sub hl [0, 1, 2] rfl)
    ·
      exact (dkN_nil (show dkN [] v11 from dkN_ne1 (0) dv11 (dkN_lit (x := 0) (0) rfl) (dk_ne c12) rfl)).elim
  ·
    obtain ⟨dv11, f11_340_8, -⟩ := hc11
    refine lv_if_eq (tgt := 22) hx hb dX6_figure_4 (by decide) (fun c13 => ?_) (fun c13 => ?_)
    ·
      exact (dkN_nil (show dkN [] v11 from dkN_eq1 dv11 (dkN_lit (x := 0) (0) rfl) (congrArg Int32.toInt c13) rfl)).elim
    ·
      refine lv_aload_n hx hb dX6_figure_7 rfl (lv_at hl 0 rfl) ?_
      refine dk_get (k := 340) hx hb hts iX6_figure_6 hown hK (dk_at340 hW) rfl 11 (by decide) (hts (.fieldLink RX6 98 "DogKingsModel" "token" "I") (List.mem_of_getElem? (i := 1) rfl)) rfl dX6_figure_8 ?_
      refine lv_topi (fun v14 ev14 => ?_)
      refine lv_iconst (v := 2) hx hb dX6_figure_11 (by decide) ?_
      refine lv_icmp_eq (tgt := 22) hx hb dX6_figure_12 (by decide) (fun c15 => ?_) (fun c15 => ?_)
      ·
        have d16 : dkN [(2, 2)] v14 := dkN_eq1 (dkN_top v14) (dkN_lit (x := 2) (2) rfl) (congrArg Int32.toInt c15) rfl
        have f17 : dkN [(2, 2)] (I11 340 11) := by rw [← ev14]; exact d16
        exact C22 I11 _ _ ls  hW hS hF hO (show dkN [(-1, 90)] (I11 340 8) from dkN_sub f11_340_8 rfl) (lv_sub hl [0, 1, 2] rfl)
      ·
        have d18 : dkN [(-2147483648, 1), (3, 2147483647)] v14 := dkN_ne1 (2) (dkN_top v14) (dkN_lit (x := 2) (2) rfl) (dk_ne c15) rfl
        have f19 : dkN [(-2147483648, 1), (3, 2147483647)] (I11 340 11) := by rw [← ev14]; exact d18
        refine lv_aload_n hx hb dX6_figure_15 rfl (lv_at hl 0 rfl) ?_
        refine lv_iconst (v := 0) hx hb dX6_figure_16 (by decide) ?_
        refine lv_iconst (v := 1) hx hb dX6_figure_17 (by decide) ?_
        refine dk_Vi (As := [.int 0, .int 1]) (rest := []) ⟨hx, hb, hml, hown, hts⟩ (c_X6_takes_1 l g z I11 0 1 (dkN_lit (x := 0) (0) rfl) (dkN_lit (x := 1) (1) rfl) (show dkN [(-1, -1)] (I11 340 8) from dkN_sub f11_340_8 rfl) hO) (cwV 2 hts gX6_figure_X6_takes rfl rfl rfl (by decide +kernel) ⟨Nat.le_of_ble_eq_true rfl, Nat.le_of_ble_eq_true rfl⟩) (dk_at340 hW) rfl hK hT hW hS rfl hl.1 rfl (Nat.le_of_ble_eq_true rfl) dX6_figure_18 ⟨Nat.zero_le _, Nat.zero_le _⟩ (fun v20 I20 H20 L20 hp20 hW hS => ?_)
        obtain ⟨hF20, hO, hc20⟩ := hp20
        have hF := dkF_call hF hF20 rfl
        obtain ⟨dv20, f20_340_7, f20_340_8, -⟩ := hc20
        exact W.iret (v := v20) hx hb hr (fun t ht hW9 => ⟨⟨v20, I20, rfl, ⟨hF, hO, Or.inl ⟨dkN_sub dv20 rfl, (show dkN [(0, 90)] (I20 340 8) from dkN_sub f20_340_8 rfl), trivial⟩⟩, dkW_eq ht hW⟩, hS.F ht⟩) hS.2.2 dX6_figure_21
set_option maxHeartbeats 4000000 in
set_option maxRecDepth 100000 in
theorem c_X6_follows_1 (l : Launch) (g : dkG) (z : Nat) (I0 : dkI) (p0 : Int32) (p1 : Int32) (dp0 : dkN [(1, 1)] p0) (dp1 : dkN [(30, 30)] p1) (np0 : dkN [(-1, -1)] (I0 340 8))  (hO : dkOk I0) : Met l yX6_follows wsX6_follows (dkR 4) (dkPc g z [.ref (z + 340), .int p0, .int p1] I0) (dkQi g z (fun r I1 => dkF [(340, 340, 7, 12)] I0 I1 ∧ dkOk I1 ∧ ((dkN [(0, 0)] r ∧ dkN [(0, 90)] (I1 340 8) ∧ True) ∨ (dkN [(1, 30)] r ∧ dkN [(0, 5)] (I1 340 11) ∧ dkN [(-1, -1)] (I1 340 8) ∧ True)))) 0 0 (dkA z) := by
  refine Met.ofW (cc := cX6_follows) (maxL := 3) (ret := (some .int)) (by decide) rfl ?_
  intro p e s m args below meth c s₁ B hml hv
  obtain ⟨ha, hW, hK, hT⟩ := hv
  have hx := B.exec
  have hb := B.bytes
  have hr := B.returns
  have hts := atoms_spec (ws := wsX6_follows) B.pre
  have hown : s.vm.findClass RX6 = some m.cls := findClass_of_methodNamed B.named
  have hlocks := B.notSynchronized
  have hS : va_S (dkA z) s.heap s.heap [] := va_S.rf
  have hF : dkF [(340, 340, 7, 12)] I0 I0 := dkF_rf _ _
  have hl := lv_entry ([.ref (z + 340), .int p0, .int p1]) (n := 3) (Nat.le_of_ble_eq_true rfl)
  have hgo : entryFrame m args 3 = entryFrame m ([.ref (z + 340), .int p0, .int p1] : List Value).toArray 3 := by rw [ha]
  rw [hgo, lg_entry_eq]
  generalize (lg_sl ([.ref (z + 340), .int p0, .int p1]) ++ List.replicate (3 - (lg_sl ([.ref (z + 340), .int p0, .int p1])).length) Slot.unset).toArray = ls at hl ⊢
  have hl : lv_has ls 3 [(0, .ref (z + 340)), (1, .int p0), (2, .int p1)] := hl
  have C14 : ∀ (I : dkI) (H : Heap) (locs : List Loc) (ls : Array Slot) (x14_s0 : Int32), dkW g z I H → va_S (dkA z) s.heap H locs → dkF [(340, 340, 7, 12)] I0 I → dkOk I → dkN [(0, 1)] x14_s0 → dkN [(-1, -1)] (I 340 8) → lv_has ls 3 [(0, .ref (z + 340)), (1, .int p0), (2, .int p1)] → W p l e (headSpec wsX6_follows (dkR 4)).room s m args below meth c H locs 0 0 (MQ below (dkQi g z (fun r I1 => dkF [(340, 340, 7, 12)] I0 I1 ∧ dkOk I1 ∧ ((dkN [(0, 0)] r ∧ dkN [(0, 90)] (I1 340 8) ∧ True) ∨ (dkN [(1, 30)] r ∧ dkN [(0, 5)] (I1 340 11) ∧ dkN [(-1, -1)] (I1 340 8) ∧ True)))) args s 0 0 (dkA z)) (F0 m 14 ls [.int x14_s0, .ref (z + 340)]) := by
    intro I14_ H locs ls x14_s0 hW hS hF_14 hO k14_0 f14_0 hl
    have hF := hF_14
    refine lv_iconst (v := 1) hx hb dX6_follows_14 (by decide) ?_
    refine dk_Vi (As := [.int x14_s0, .int 1]) (rest := []) ⟨hx, hb, hml, hown, hts⟩ (c_X6_takes_0 l g z I14_ x14_s0 1 k14_0 (dkN_lit (x := 1) (1) rfl) (show dkN [(-1, -1)] (I14_ 340 8) from dkN_sub f14_0 rfl) hO) (cwV 2 hts gX6_follows_X6_takes rfl rfl rfl (by decide +kernel) ⟨Nat.le_of_ble_eq_true rfl, Nat.le_of_ble_eq_true rfl⟩) (dk_at340 hW) rfl hK hT hW hS rfl hl.1 rfl (Nat.le_of_ble_eq_true rfl) dX6_follows_15 ⟨Nat.zero_le _, Nat.zero_le _⟩ (fun v1 I1 H1 L1 hp1 hW hS => ?_)
    obtain ⟨hF1, hO, hc1⟩ := hp1
    have hF := dkF_call hF hF1 rfl
    obtain ⟨_, f1_340_8, -⟩ := hc1
    refine lv_pop hx hb dX6_follows_18 rfl ?_
    refine lv_aload_n hx hb dX6_follows_19 rfl (lv_at hl 0 rfl) ?_
    refine lv_iload_n hx hb dX6_follows_20 rfl (lv_at hl 1 rfl) ?_
    refine lv_iload_n hx hb dX6_follows_21 rfl (lv_at hl 2 rfl) ?_
    refine dk_Vi (As := [.int p0, .int p1]) (rest := []) ⟨hx, hb, hml, hown, hts⟩ (c_X6_figure_2 l g z I1 p0 p1 dp0 dp1 (show dkN [(-1, 90)] (I1 340 8) from dkN_sub f1_340_8 rfl) hO) (cwV 2 hts gX6_follows_X6_figure rfl rfl rfl (by decide +kernel) ⟨Nat.le_of_ble_eq_true rfl, Nat.le_of_ble_eq_true rfl⟩) (dk_at340 hW) rfl hK hT hW hS rfl hl.1 rfl (Nat.le_of_ble_eq_true rfl) dX6_follows_22 ⟨Nat.zero_le _, Nat.zero_le _⟩ (fun v2 I2 H2 L2 hp2 hW hS => ?_)
    obtain ⟨hF2, hO, hc2⟩ := hp2
    have hF := dkF_call hF hF2 rfl
    rcases hc2 with ⟨dv2, f2_340_8, -⟩ | hc2
    ·
      exact W.iret (v := v2) hx hb hr (fun t ht hW9 => ⟨⟨v2, I2, rfl, ⟨hF, hO, Or.inl ⟨dkN_sub dv2 rfl, (show dkN [(0, 90)] (I2 340 8) from dkN_sub f2_340_8 rfl), trivial⟩⟩, dkW_eq ht hW⟩, hS.F ht⟩) hS.2.2 dX6_follows_25
    ·
      obtain ⟨dv2, f2_340_11, f2_340_8, -⟩ := hc2
      exact W.iret (v := v2) hx hb hr (fun t ht hW9 => ⟨⟨v2, I2, rfl, ⟨hF, hO, Or.inr (⟨dkN_sub dv2 rfl, (show dkN [(0, 5)] (I2 340 11) from dkN_sub f2_340_11 rfl), (show dkN [(-1, -1)] (I2 340 8) from dkN_sub f2_340_8 rfl), trivial⟩)⟩, dkW_eq ht hW⟩, hS.F ht⟩) hS.2.2 dX6_follows_25
  refine lv_aload_n hx hb dX6_follows_0 rfl (lv_at hl 0 rfl) ?_
  refine lv_aload_n hx hb dX6_follows_1 rfl (lv_at hl 0 rfl) ?_
  refine dk_get (k := 340) hx hb hts iX6_follows_6 hown hK (dk_at340 hW) rfl 11 (by decide) (hts (.fieldLink RX6 98 "DogKingsModel" "token" "I") (List.mem_of_getElem? (i := 1) rfl)) rfl dX6_follows_2 ?_
  refine lv_topi (fun v3 ev3 => ?_)
  refine lv_iconst (v := 3) hx hb dX6_follows_5 (by decide) ?_
  refine lv_icmp_ne (tgt := 13) hx hb dX6_follows_6 (by decide) (fun c4 => ?_) (fun c4 => ?_)
  ·
    have d5 : dkN [(-2147483648, 2), (4, 2147483647)] v3 := dkN_ne1 (3) (dkN_top v3) (dkN_lit (x := 3) (3) rfl) (dk_ne c4) rfl
    have f6 : dkN [(-2147483648, 2), (4, 2147483647)] (I0 340 11) := by rw [← ev3]; exact d5
    refine lv_iconst (v := 0) hx hb dX6_follows_13 (by decide) ?_
    exact C14 I0 _ _ ls 0 hW hS hF hO (dkN_sub (dkN_lit (x := 0) (0) rfl) rfl) (show dkN [(-1, -1)] (I0 340 8) from dkN_sub np0 rfl) (lv_sub hl [0, 1, 2] rfl)
  ·
    have d7 : dkN [(3, 3)] v3 := dkN_eq1 (dkN_top v3) (dkN_lit (x := 3) (3) rfl) (congrArg Int32.toInt c4) rfl
    have f8 : dkN [(3, 3)] (I0 340 11) := by rw [← ev3]; exact d7
    refine lv_iconst (v := 1) hx hb dX6_follows_9 (by decide) ?_
    refine lv_goto (tgt := 14) hx hb dX6_follows_10 (by decide) ?_
    exact C14 I0 _ _ ls 1 hW hS hF hO (dkN_sub (dkN_lit (x := 1) (1) rfl) rfl) (show dkN [(-1, -1)] (I0 340 8) from dkN_sub np0 rfl) (lv_sub hl [0, 1, 2] rfl)
set_option maxHeartbeats 4000000 in
set_option maxRecDepth 100000 in
theorem c_X6_takes_9 (l : Launch) (g : dkG) (z : Nat) (I0 : dkI) (p0 : Int32) (p1 : Int32) (dp0 : dkN [(0, 1)] p0) (dp1 : dkN [(1, 1)] p1) (np0 : dkN [(-1, 90)] (I0 340 8))  (hO : dkOk I0) : Met l yX6_takes wsX6_takes (dkR 2) (dkPc g z [.ref (z + 340), .int p0, .int p1] I0) (dkQi g z (fun r I1 => dkF [(340, 340, 7, 12)] I0 I1 ∧ dkOk I1 ∧ ((True ∧ dkN [(-1, 90)] (I1 340 8) ∧ True)))) 0 0 (dkA z) := by
  refine Met.ofW (cc := cX6_takes) (maxL := 4) (ret := (some .int)) (by decide) rfl ?_
  intro p e s m args below meth c s₁ B hml hv
  obtain ⟨ha, hW, hK, hT⟩ := hv
  have hx := B.exec
  have hb := B.bytes
  have hr := B.returns
  have hts := atoms_spec (ws := wsX6_takes) B.pre
  have hown : s.vm.findClass RX6 = some m.cls := findClass_of_methodNamed B.named
  have hlocks := B.notSynchronized
  have hS : va_S (dkA z) s.heap s.heap [] := va_S.rf
  have hF : dkF [(340, 340, 7, 12)] I0 I0 := dkF_rf _ _
  have hl := lv_entry ([.ref (z + 340), .int p0, .int p1]) (n := 4) (Nat.le_of_ble_eq_true rfl)
  have hgo : entryFrame m args 4 = entryFrame m ([.ref (z + 340), .int p0, .int p1] : List Value).toArray 4 := by rw [ha]
  rw [hgo, lg_entry_eq]
  generalize (lg_sl ([.ref (z + 340), .int p0, .int p1]) ++ List.replicate (4 - (lg_sl ([.ref (z + 340), .int p0, .int p1])).length) Slot.unset).toArray = ls at hl ⊢
  have hl : lv_has ls 4 [(0, .ref (z + 340)), (1, .int p0), (2, .int p1)] := hl
  refine lv_aload_n hx hb dX6_takes_0 rfl (lv_at hl 0 rfl) ?_
  refine dk_Vi (As := []) (rest := []) ⟨hx, hb, hml, hown, hts⟩ (c_X6_isWell_1 l g z I0 (show dkN [(-1, 90)] (I0 340 8) from dkN_sub np0 rfl) hO) (cwV 0 hts gX6_takes_X6_isWell rfl rfl rfl (by decide +kernel) ⟨Nat.le_of_ble_eq_true rfl, Nat.le_of_ble_eq_true rfl⟩) (dk_at340 hW) rfl hK hT hW hS rfl hl.1 rfl (Nat.le_of_ble_eq_true rfl) dX6_takes_1 ⟨Nat.zero_le _, Nat.zero_le _⟩ (fun v1 I1 H1 L1 hp1 hW hS => ?_)
  obtain ⟨hF1, hO, hc1⟩ := hp1
  have hF := dkF_call hF hF1 rfl
  rcases hc1 with ⟨dv1, f1_340_8, -⟩ | hc1
  ·
    refine lv_if_ne (tgt := 9) hx hb dX6_takes_4 (by decide) (fun c2 => ?_) (fun c2 => ?_)
    ·
      exact (dkN_nil (show dkN [] v1 from dkN_ne1 (0) dv1 (dkN_lit (x := 0) (0) rfl) (dk_ne c2) rfl)).elim
    ·
      refine lv_iconst (v := 0) hx hb dX6_takes_7 (by decide) ?_
      exact W.iret (v := 0) hx hb hr (fun t ht hW9 => ⟨⟨0, I1, rfl, ⟨hF, hO, ⟨trivial, (show dkN [(-1, 90)] (I1 340 8) from dkN_sub f1_340_8 rfl), trivial⟩⟩, dkW_eq ht hW⟩, hS.F ht⟩) hS.2.2 dX6_takes_8
  ·
    obtain ⟨dv1, f1_340_8, -⟩ := hc1
    refine lv_if_ne (tgt := 9) hx hb dX6_takes_4 (by decide) (fun c3 => ?_) (fun c3 => ?_)
    ·
      refine lv_iload_n hx hb dX6_takes_9 rfl (lv_at hl 1 rfl) ?_
      refine lv_if_ne (tgt := 28) hx hb dX6_takes_10 (by decide) (fun c4 => ?_) (fun c4 => ?_)
      ·
        have d5 : dkN [(1, 1)] p0 := dkN_ne1 (0) dp0 (dkN_lit (x := 0) (0) rfl) (dk_ne c4) rfl
        refine lv_aload_n hx hb dX6_takes_28 rfl (lv_at hl 0 rfl) ?_
        refine dk_get (k := 340) hx hb hts iX6_takes_6 hown hK (dk_at340 hW) rfl 12 (by decide) (hts (.fieldLink RX6 95 "DogKingsModel" "value" "I") (List.mem_of_getElem? (i := 4) rfl)) rfl dX6_takes_29 ?_
        refine lv_topi (fun v6 ev6 => ?_)
        refine lv_istore_n (lv' := [(3, .int v6), (0, .ref (z + 340)), (1, .int p0), (2, .int p1)]) hx hb dX6_takes_32 rfl hl (by decide) rfl (fun ls hl => ?_)
        refine lv_aload_n hx hb dX6_takes_33 rfl (lv_at hl 1 rfl) ?_
        refine dk_Vv (As := []) (rest := []) ⟨hx, hb, hml, hown, hts⟩ (c_X6_advances_0 l g z I1 hO) (cwV 0 hts gX6_takes_X6_advances rfl rfl rfl (by decide +kernel) ⟨Nat.le_of_ble_eq_true rfl, Nat.le_of_ble_eq_true rfl⟩) (dk_at340 hW) rfl hK hT hW hS rfl hl.1 rfl (Nat.le_of_ble_eq_true rfl) dX6_takes_34 ⟨Nat.zero_le _, Nat.zero_le _⟩ (fun I7 H7 L7 hp7 hW hS => ?_)
        obtain ⟨hF7, hO, hc7⟩ := hp7
        have hF := dkF_call hF hF7 rfl
        obtain ⟨f7_340_11, -⟩ := hc7
        refine lv_iload_n hx hb dX6_takes_37 rfl (lv_at hl 0 rfl) ?_
        exact W.iret (v := v6) hx hb hr (fun t ht hW9 => ⟨⟨v6, I7, rfl, ⟨hF, hO, ⟨trivial, (show dkN [(-1, 90)] (I7 340 8) from dkN_sub (by rw [hF7 340 8 rfl]; exact f1_340_8) rfl), trivial⟩⟩, dkW_eq ht hW⟩, hS.F ht⟩) hS.2.2 dX6_takes_38
      ·
        have d8 : dkN [(0, 0)] p0 := dkN_eq1 dp0 (dkN_lit (x := 0) (0) rfl) (congrArg Int32.toInt c4) rfl
        refine lv_aload_n hx hb dX6_takes_13 rfl (lv_at hl 0 rfl) ?_
        refine lv_aload_n hx hb dX6_takes_14 rfl (lv_at hl 0 rfl) ?_
        refine dk_get (k := 340) hx hb hts iX6_takes_6 hown hK (dk_at340 hW) rfl 10 (by decide) (hts (.fieldLink RX6 89 "DogKingsModel" "start" "I") (List.mem_of_getElem? (i := 1) rfl)) rfl dX6_takes_15 ?_
        refine lv_topi (fun v9 ev9 => ?_)
        have dv9 : dkN [(0, 90)] v9 := by rw [ev9]; exact (hO 340 10)
        refine dk_put (k := 340) hx hb hts iX6_takes_6 tyX6 tyX6_ok nmX6 hown hK hW (dk_at340 hW) hS rfl 8 (by decide) (hts (.fieldLink RX6 101 "DogKingsModel" "faultPlace" "I") (List.mem_of_getElem? (i := 2) rfl)) rfl rfl (Nat.le_of_ble_eq_true rfl) rfl dX6_takes_18 (fun I10 H10 L10 eI10 hW hS => ?_)
        have eI10 : I10 = dkU I1 340 8 v9 := eI10
        have hO := dkO_set hO eI10 (dkN_sub dv9 rfl)
        have hF := dkF_set hF eI10 rfl
        refine lv_aload_n hx hb dX6_takes_21 rfl (lv_at hl 0 rfl) ?_
        refine lv_iload_n hx hb dX6_takes_22 rfl (lv_at hl 2 rfl) ?_
        refine dk_put (k := 340) hx hb hts iX6_takes_6 tyX6 tyX6_ok nmX6 hown hK hW (dk_at340 hW) hS rfl 7 (by decide) (hts (.fieldLink RX6 108 "DogKingsModel" "faultKind" "I") (List.mem_of_getElem? (i := 3) rfl)) rfl rfl (Nat.le_of_ble_eq_true rfl) rfl dX6_takes_23 (fun I11 H11 L11 eI11 hW hS => ?_)
        have eI11 : I11 = dkU I10 340 7 p1 := eI11
        have hO := dkO_set hO eI11 (dkN_sub dp1 rfl)
        have hF := dkF_set hF eI11 rfl
        refine lv_iconst (v := 0) hx hb dX6_takes_26 (by decide) ?_
        exact W.iret (v := 0) hx hb hr (fun t ht hW9 => ⟨⟨0, I11, rfl, ⟨hF, hO, ⟨trivial, (show dkN [(-1, 90)] (I11 340 8) from dkN_sub (by rw [eI11, dkU_sn (by decide)]; exact (by rw [eI10, dkU_ss]; exact dv9)) rfl), trivial⟩⟩, dkW_eq ht hW⟩, hS.F ht⟩) hS.2.2 dX6_takes_27
    ·
      exact (dkN_nil (show dkN [] v1 from dkN_eq1 dv1 (dkN_lit (x := 0) (0) rfl) (congrArg Int32.toInt c3) rfl)).elim
set_option maxHeartbeats 4000000 in
set_option maxRecDepth 100000 in
theorem c_X6_must_0 (l : Launch) (g : dkG) (z : Nat) (I0 : dkI) (p0 : Int32) (dp0 : dkN [(0, 0)] p0) (np0 : dkN [(-1, 90)] (I0 340 8))  (hO : dkOk I0) : Met l yX6_must wsX6_must (dkR 2) (dkPc g z [.ref (z + 340), .int p0] I0) (dkQv g z (fun I1 => dkF [(340, 340, 7, 8)] I0 I1 ∧ dkOk I1 ∧ ((dkN [(0, 90)] (I1 340 8) ∧ True)))) 0 0 (dkA z) := by
  refine Met.ofW (cc := cX6_must) (maxL := 2) (ret := none) (by decide) rfl ?_
  intro p e s m args below meth c s₁ B hml hv
  obtain ⟨ha, hW, hK, hT⟩ := hv
  have hx := B.exec
  have hb := B.bytes
  have hr := B.returns
  have hts := atoms_spec (ws := wsX6_must) B.pre
  have hown : s.vm.findClass RX6 = some m.cls := findClass_of_methodNamed B.named
  have hlocks := B.notSynchronized
  have hS : va_S (dkA z) s.heap s.heap [] := va_S.rf
  have hF : dkF [(340, 340, 7, 8)] I0 I0 := dkF_rf _ _
  have hl := lv_entry ([.ref (z + 340), .int p0]) (n := 2) (Nat.le_of_ble_eq_true rfl)
  have hgo : entryFrame m args 2 = entryFrame m ([.ref (z + 340), .int p0] : List Value).toArray 2 := by rw [ha]
  rw [hgo, lg_entry_eq]
  generalize (lg_sl ([.ref (z + 340), .int p0]) ++ List.replicate (2 - (lg_sl ([.ref (z + 340), .int p0])).length) Slot.unset).toArray = ls at hl ⊢
  have hl : lv_has ls 2 [(0, .ref (z + 340)), (1, .int p0)] := hl
  refine lv_aload_n hx hb dX6_must_0 rfl (lv_at hl 0 rfl) ?_
  refine dk_Vi (As := []) (rest := []) ⟨hx, hb, hml, hown, hts⟩ (c_X6_isWell_1 l g z I0 (show dkN [(-1, 90)] (I0 340 8) from dkN_sub np0 rfl) hO) (cwV 0 hts gX6_must_X6_isWell rfl rfl rfl (by decide +kernel) ⟨Nat.le_of_ble_eq_true rfl, Nat.le_of_ble_eq_true rfl⟩) (dk_at340 hW) rfl hK hT hW hS rfl hl.1 rfl (Nat.le_of_ble_eq_true rfl) dX6_must_1 ⟨Nat.zero_le _, Nat.zero_le _⟩ (fun v1 I1 H1 L1 hp1 hW hS => ?_)
  obtain ⟨hF1, hO, hc1⟩ := hp1
  have hF := dkF_call hF hF1 rfl
  rcases hc1 with ⟨dv1, f1_340_8, -⟩ | hc1
  ·
    refine lv_if_eq (tgt := 18) hx hb dX6_must_4 (by decide) (fun c2 => ?_) (fun c2 => ?_)
    ·
      exact W.vret hx hb hr (fun t ht hW9 => ⟨⟨I1, rfl, ⟨hF, hO, ⟨(show dkN [(0, 90)] (I1 340 8) from dkN_sub f1_340_8 rfl), trivial⟩⟩, dkW_eq ht hW⟩, hS.F ht⟩) hS.2.2 dX6_must_18
    ·
      exact (dkN_nil (show dkN [] v1 from dkN_ne1 (0) dv1 (dkN_lit (x := 0) (0) rfl) (dk_ne c2) rfl)).elim
  ·
    obtain ⟨dv1, f1_340_8, -⟩ := hc1
    refine lv_if_eq (tgt := 18) hx hb dX6_must_4 (by decide) (fun c3 => ?_) (fun c3 => ?_)
    ·
      exact (dkN_nil (show dkN [] v1 from dkN_eq1 dv1 (dkN_lit (x := 0) (0) rfl) (congrArg Int32.toInt c3) rfl)).elim
    ·
      refine lv_iload_n hx hb dX6_must_7 rfl (lv_at hl 1 rfl) ?_
      refine lv_if_ne (tgt := 18) hx hb dX6_must_8 (by decide) (fun c4 => ?_) (fun c4 => ?_)
      ·
        exact (dkN_nil (show dkN [] p0 from dkN_ne1 (0) dp0 (dkN_lit (x := 0) (0) rfl) (dk_ne c4) rfl)).elim
      ·
        refine lv_aload_n hx hb dX6_must_11 rfl (lv_at hl 0 rfl) ?_
        refine lv_iconst (v := 0) hx hb dX6_must_12 (by decide) ?_
        refine lv_iconst (v := 1) hx hb dX6_must_13 (by decide) ?_
        refine dk_Vi (As := [.int 0, .int 1]) (rest := []) ⟨hx, hb, hml, hown, hts⟩ (c_X6_takes_1 l g z I1 0 1 (dkN_lit (x := 0) (0) rfl) (dkN_lit (x := 1) (1) rfl) (show dkN [(-1, -1)] (I1 340 8) from dkN_sub f1_340_8 rfl) hO) (cwV 2 hts gX6_must_X6_takes rfl rfl rfl (by decide +kernel) ⟨Nat.le_of_ble_eq_true rfl, Nat.le_of_ble_eq_true rfl⟩) (dk_at340 hW) rfl hK hT hW hS rfl hl.1 rfl (Nat.le_of_ble_eq_true rfl) dX6_must_14 ⟨Nat.zero_le _, Nat.zero_le _⟩ (fun v5 I5 H5 L5 hp5 hW hS => ?_)
        obtain ⟨hF5, hO, hc5⟩ := hp5
        have hF := dkF_call hF hF5 rfl
        obtain ⟨dv5, f5_340_7, f5_340_8, -⟩ := hc5
        refine lv_pop hx hb dX6_must_17 rfl ?_
        exact W.vret hx hb hr (fun t ht hW9 => ⟨⟨I5, rfl, ⟨hF, hO, ⟨(show dkN [(0, 90)] (I5 340 8) from dkN_sub f5_340_8 rfl), trivial⟩⟩, dkW_eq ht hW⟩, hS.F ht⟩) hS.2.2 dX6_must_18
set_option maxHeartbeats 4000000 in
set_option maxRecDepth 100000 in
theorem c_X6_must_1 (l : Launch) (g : dkG) (z : Nat) (I0 : dkI) (p0 : Int32) (dp0 : dkN [(0, 0)] p0) (np0 : dkN [(0, 90)] (I0 340 8))  (hO : dkOk I0) : Met l yX6_must wsX6_must (dkR 1) (dkPc g z [.ref (z + 340), .int p0] I0) (dkQv g z (fun I1 => dkF [] I0 I1 ∧ dkOk I1 ∧ ((dkN [(0, 90)] (I1 340 8) ∧ True)))) 0 0 (dkA z) := by
  refine Met.ofW (cc := cX6_must) (maxL := 2) (ret := none) (by decide) rfl ?_
  intro p e s m args below meth c s₁ B hml hv
  obtain ⟨ha, hW, hK, hT⟩ := hv
  have hx := B.exec
  have hb := B.bytes
  have hr := B.returns
  have hts := atoms_spec (ws := wsX6_must) B.pre
  have hown : s.vm.findClass RX6 = some m.cls := findClass_of_methodNamed B.named
  have hlocks := B.notSynchronized
  have hS : va_S (dkA z) s.heap s.heap [] := va_S.rf
  have hF : dkF [] I0 I0 := dkF_rf _ _
  have hl := lv_entry ([.ref (z + 340), .int p0]) (n := 2) (Nat.le_of_ble_eq_true rfl)
  have hgo : entryFrame m args 2 = entryFrame m ([.ref (z + 340), .int p0] : List Value).toArray 2 := by rw [ha]
  rw [hgo, lg_entry_eq]
  generalize (lg_sl ([.ref (z + 340), .int p0]) ++ List.replicate (2 - (lg_sl ([.ref (z + 340), .int p0])).length) Slot.unset).toArray = ls at hl ⊢
  have hl : lv_has ls 2 [(0, .ref (z + 340)), (1, .int p0)] := hl
  refine lv_aload_n hx hb dX6_must_0 rfl (lv_at hl 0 rfl) ?_
  refine dk_Vi (As := []) (rest := []) ⟨hx, hb, hml, hown, hts⟩ (c_X6_isWell_2 l g z I0 (show dkN [(0, 90)] (I0 340 8) from dkN_sub np0 rfl) hO) (cwV 0 hts gX6_must_X6_isWell rfl rfl rfl (by decide +kernel) ⟨Nat.le_of_ble_eq_true rfl, Nat.le_of_ble_eq_true rfl⟩) (dk_at340 hW) rfl hK hT hW hS rfl hl.1 rfl (Nat.le_of_ble_eq_true rfl) dX6_must_1 ⟨Nat.zero_le _, Nat.zero_le _⟩ (fun v1 I1 H1 L1 hp1 hW hS => ?_)
  obtain ⟨hF1, hO, hc1⟩ := hp1
  have hF := dkF_call hF hF1 rfl
  obtain ⟨dv1, f1_340_8, -⟩ := hc1
  refine lv_if_eq (tgt := 18) hx hb dX6_must_4 (by decide) (fun c2 => ?_) (fun c2 => ?_)
  ·
    exact W.vret hx hb hr (fun t ht hW9 => ⟨⟨I1, rfl, ⟨hF, hO, ⟨(show dkN [(0, 90)] (I1 340 8) from dkN_sub f1_340_8 rfl), trivial⟩⟩, dkW_eq ht hW⟩, hS.F ht⟩) hS.2.2 dX6_must_18
  ·
    exact (dkN_nil (show dkN [] v1 from dkN_ne1 (0) dv1 (dkN_lit (x := 0) (0) rfl) (dk_ne c2) rfl)).elim
set_option maxHeartbeats 4000000 in
set_option maxRecDepth 100000 in
theorem c_X6_must_2 (l : Launch) (g : dkG) (z : Nat) (I0 : dkI) (p0 : Int32) (dp0 : dkN [(1, 1)] p0) (np0 : dkN [(0, 90)] (I0 340 8))  (hO : dkOk I0) : Met l yX6_must wsX6_must (dkR 1) (dkPc g z [.ref (z + 340), .int p0] I0) (dkQv g z (fun I1 => dkF [] I0 I1 ∧ dkOk I1 ∧ ((dkN [(0, 90)] (I1 340 8) ∧ True)))) 0 0 (dkA z) := by
  refine Met.ofW (cc := cX6_must) (maxL := 2) (ret := none) (by decide) rfl ?_
  intro p e s m args below meth c s₁ B hml hv
  obtain ⟨ha, hW, hK, hT⟩ := hv
  have hx := B.exec
  have hb := B.bytes
  have hr := B.returns
  have hts := atoms_spec (ws := wsX6_must) B.pre
  have hown : s.vm.findClass RX6 = some m.cls := findClass_of_methodNamed B.named
  have hlocks := B.notSynchronized
  have hS : va_S (dkA z) s.heap s.heap [] := va_S.rf
  have hF : dkF [] I0 I0 := dkF_rf _ _
  have hl := lv_entry ([.ref (z + 340), .int p0]) (n := 2) (Nat.le_of_ble_eq_true rfl)
  have hgo : entryFrame m args 2 = entryFrame m ([.ref (z + 340), .int p0] : List Value).toArray 2 := by rw [ha]
  rw [hgo, lg_entry_eq]
  generalize (lg_sl ([.ref (z + 340), .int p0]) ++ List.replicate (2 - (lg_sl ([.ref (z + 340), .int p0])).length) Slot.unset).toArray = ls at hl ⊢
  have hl : lv_has ls 2 [(0, .ref (z + 340)), (1, .int p0)] := hl
  refine lv_aload_n hx hb dX6_must_0 rfl (lv_at hl 0 rfl) ?_
  refine dk_Vi (As := []) (rest := []) ⟨hx, hb, hml, hown, hts⟩ (c_X6_isWell_2 l g z I0 (show dkN [(0, 90)] (I0 340 8) from dkN_sub np0 rfl) hO) (cwV 0 hts gX6_must_X6_isWell rfl rfl rfl (by decide +kernel) ⟨Nat.le_of_ble_eq_true rfl, Nat.le_of_ble_eq_true rfl⟩) (dk_at340 hW) rfl hK hT hW hS rfl hl.1 rfl (Nat.le_of_ble_eq_true rfl) dX6_must_1 ⟨Nat.zero_le _, Nat.zero_le _⟩ (fun v1 I1 H1 L1 hp1 hW hS => ?_)
  obtain ⟨hF1, hO, hc1⟩ := hp1
  have hF := dkF_call hF hF1 rfl
  obtain ⟨dv1, f1_340_8, -⟩ := hc1
  refine lv_if_eq (tgt := 18) hx hb dX6_must_4 (by decide) (fun c2 => ?_) (fun c2 => ?_)
  ·
    exact W.vret hx hb hr (fun t ht hW9 => ⟨⟨I1, rfl, ⟨hF, hO, ⟨(show dkN [(0, 90)] (I1 340 8) from dkN_sub f1_340_8 rfl), trivial⟩⟩, dkW_eq ht hW⟩, hS.F ht⟩) hS.2.2 dX6_must_18
  ·
    exact (dkN_nil (show dkN [] v1 from dkN_ne1 (0) dv1 (dkN_lit (x := 0) (0) rfl) (dk_ne c2) rfl)).elim
set_option maxHeartbeats 4000000 in
set_option maxRecDepth 100000 in
theorem c_X6_must_3 (l : Launch) (g : dkG) (z : Nat) (I0 : dkI) (p0 : Int32) (dp0 : dkN [(1, 1)] p0) (np0 : dkN [(-1, 90)] (I0 340 8))  (hO : dkOk I0) : Met l yX6_must wsX6_must (dkR 1) (dkPc g z [.ref (z + 340), .int p0] I0) (dkQv g z (fun I1 => dkF [] I0 I1 ∧ dkOk I1 ∧ ((dkN [(-1, 90)] (I1 340 8) ∧ True)))) 0 0 (dkA z) := by
  refine Met.ofW (cc := cX6_must) (maxL := 2) (ret := none) (by decide) rfl ?_
  intro p e s m args below meth c s₁ B hml hv
  obtain ⟨ha, hW, hK, hT⟩ := hv
  have hx := B.exec
  have hb := B.bytes
  have hr := B.returns
  have hts := atoms_spec (ws := wsX6_must) B.pre
  have hown : s.vm.findClass RX6 = some m.cls := findClass_of_methodNamed B.named
  have hlocks := B.notSynchronized
  have hS : va_S (dkA z) s.heap s.heap [] := va_S.rf
  have hF : dkF [] I0 I0 := dkF_rf _ _
  have hl := lv_entry ([.ref (z + 340), .int p0]) (n := 2) (Nat.le_of_ble_eq_true rfl)
  have hgo : entryFrame m args 2 = entryFrame m ([.ref (z + 340), .int p0] : List Value).toArray 2 := by rw [ha]
  rw [hgo, lg_entry_eq]
  generalize (lg_sl ([.ref (z + 340), .int p0]) ++ List.replicate (2 - (lg_sl ([.ref (z + 340), .int p0])).length) Slot.unset).toArray = ls at hl ⊢
  have hl : lv_has ls 2 [(0, .ref (z + 340)), (1, .int p0)] := hl
  refine lv_aload_n hx hb dX6_must_0 rfl (lv_at hl 0 rfl) ?_
  refine dk_Vi (As := []) (rest := []) ⟨hx, hb, hml, hown, hts⟩ (c_X6_isWell_1 l g z I0 (show dkN [(-1, 90)] (I0 340 8) from dkN_sub np0 rfl) hO) (cwV 0 hts gX6_must_X6_isWell rfl rfl rfl (by decide +kernel) ⟨Nat.le_of_ble_eq_true rfl, Nat.le_of_ble_eq_true rfl⟩) (dk_at340 hW) rfl hK hT hW hS rfl hl.1 rfl (Nat.le_of_ble_eq_true rfl) dX6_must_1 ⟨Nat.zero_le _, Nat.zero_le _⟩ (fun v1 I1 H1 L1 hp1 hW hS => ?_)
  obtain ⟨hF1, hO, hc1⟩ := hp1
  have hF := dkF_call hF hF1 rfl
  rcases hc1 with ⟨dv1, f1_340_8, -⟩ | hc1
  ·
    refine lv_if_eq (tgt := 18) hx hb dX6_must_4 (by decide) (fun c2 => ?_) (fun c2 => ?_)
    ·
      exact W.vret hx hb hr (fun t ht hW9 => ⟨⟨I1, rfl, ⟨hF, hO, ⟨(show dkN [(-1, 90)] (I1 340 8) from dkN_sub f1_340_8 rfl), trivial⟩⟩, dkW_eq ht hW⟩, hS.F ht⟩) hS.2.2 dX6_must_18
    ·
      exact (dkN_nil (show dkN [] v1 from dkN_ne1 (0) dv1 (dkN_lit (x := 0) (0) rfl) (dk_ne c2) rfl)).elim
  ·
    obtain ⟨dv1, f1_340_8, -⟩ := hc1
    refine lv_if_eq (tgt := 18) hx hb dX6_must_4 (by decide) (fun c3 => ?_) (fun c3 => ?_)
    ·
      exact (dkN_nil (show dkN [] v1 from dkN_eq1 dv1 (dkN_lit (x := 0) (0) rfl) (congrArg Int32.toInt c3) rfl)).elim
    ·
      refine lv_iload_n hx hb dX6_must_7 rfl (lv_at hl 1 rfl) ?_
      refine lv_if_ne (tgt := 18) hx hb dX6_must_8 (by decide) (fun c4 => ?_) (fun c4 => ?_)
      ·
        exact W.vret hx hb hr (fun t ht hW9 => ⟨⟨I1, rfl, ⟨hF, hO, ⟨(show dkN [(-1, 90)] (I1 340 8) from dkN_sub f1_340_8 rfl), trivial⟩⟩, dkW_eq ht hW⟩, hS.F ht⟩) hS.2.2 dX6_must_18
      ·
        exact (dkN_nil (show dkN [] p0 from dkN_eq1 dp0 (dkN_lit (x := 0) (0) rfl) (congrArg Int32.toInt c4) rfl)).elim
set_option maxHeartbeats 4000000 in
set_option maxRecDepth 100000 in
theorem c_X6_isWell_3 (l : Launch) (g : dkG) (z : Nat) (I0 : dkI)  (hO : dkOk I0) : Met l yX6_isWell wsX6_isWell (dkR 0) (dkPc g z [.ref (z + 340)] I0) (dkQi g z (fun r I1 => dkF [] I0 I1 ∧ dkOk I1 ∧ ((dkN [(0, 0)] r ∧ dkN [(0, 2147483647)] (I1 340 8) ∧ True) ∨ (dkN [(1, 1)] r ∧ dkN [(-2147483648, -1)] (I1 340 8) ∧ True)))) 0 0 (dkA z) := by
  refine Met.ofW (cc := cX6_isWell) (maxL := 1) (ret := (some .boolean)) (by decide) rfl ?_
  intro p e s m args below meth c s₁ B hml hv
  obtain ⟨ha, hW, hK, hT⟩ := hv
  have hx := B.exec
  have hb := B.bytes
  have hr := B.returns
  have hts := atoms_spec (ws := wsX6_isWell) B.pre
  have hown : s.vm.findClass RX6 = some m.cls := findClass_of_methodNamed B.named
  have hlocks := B.notSynchronized
  have hS : va_S (dkA z) s.heap s.heap [] := va_S.rf
  have hF : dkF [] I0 I0 := dkF_rf _ _
  have hl := lv_entry ([.ref (z + 340)]) (n := 1) (Nat.le_of_ble_eq_true rfl)
  have hgo : entryFrame m args 1 = entryFrame m ([.ref (z + 340)] : List Value).toArray 1 := by rw [ha]
  rw [hgo, lg_entry_eq]
  generalize (lg_sl ([.ref (z + 340)]) ++ List.replicate (1 - (lg_sl ([.ref (z + 340)])).length) Slot.unset).toArray = ls at hl ⊢
  have hl : lv_has ls 1 [(0, .ref (z + 340))] := hl
  refine lv_aload_n hx hb dX6_isWell_0 rfl (lv_at hl 0 rfl) ?_
  refine dk_get (k := 340) hx hb hts iX6_isWell_6 hown hK (dk_at340 hW) rfl 8 (by decide) (hts (.fieldLink RX6 101 "DogKingsModel" "faultPlace" "I") (List.mem_of_getElem? (i := 1) rfl)) rfl dX6_isWell_1 ?_
  refine lv_topi (fun v1 ev1 => ?_)
  refine lv_if_ge (tgt := 11) hx hb dX6_isWell_4 (by decide) (fun c2 => ?_) (fun c2 => ?_)
  ·
    have d3 : dkN [(0, 2147483647)] v1 := dkN_le2 0 (dkN_lit (x := 0) (0) rfl) (dkN_top v1) (dkc_le c2) rfl
    have f4 : dkN [(0, 2147483647)] (I0 340 8) := by rw [← ev1]; exact d3
    refine lv_iconst (v := 0) hx hb dX6_isWell_11 (by decide) ?_
    exact W.zret (v := 0) (ty := .boolean) hx hb hr rfl (fun t ht hW9 => ⟨⟨0, I0, rfl, ⟨hF, hO, Or.inl ⟨dkN_sub (dkN_lit (x := 0) (0) rfl) rfl, (show dkN [(0, 2147483647)] (I0 340 8) from dkN_sub f4 rfl), trivial⟩⟩, dkW_eq ht hW⟩, hS.F ht⟩) hS.2.2 dX6_isWell_12
  ·
    have d5 : dkN [(-2147483648, -1)] v1 := dkN_le1 1 (dkN_top v1) (dkN_lit (x := 0) (0) rfl) (dkc_nle c2) rfl
    have f6 : dkN [(-2147483648, -1)] (I0 340 8) := by rw [← ev1]; exact d5
    refine lv_iconst (v := 1) hx hb dX6_isWell_7 (by decide) ?_
    refine lv_goto (tgt := 12) hx hb dX6_isWell_8 (by decide) ?_
    exact W.zret (v := 1) (ty := .boolean) hx hb hr rfl (fun t ht hW9 => ⟨⟨1, I0, rfl, ⟨hF, hO, Or.inr (⟨dkN_sub (dkN_lit (x := 1) (1) rfl) rfl, (show dkN [(-2147483648, -1)] (I0 340 8) from dkN_sub f6 rfl), trivial⟩)⟩, dkW_eq ht hW⟩, hS.F ht⟩) hS.2.2 dX6_isWell_12
set_option maxHeartbeats 4000000 in
set_option maxRecDepth 100000 in
theorem c_X6_takes_10 (l : Launch) (g : dkG) (z : Nat) (I0 : dkI) (p0 : Int32) (p1 : Int32) (dp0 : dkN [(0, 0)] p0) (dp1 : dkN [(3, 3)] p1)  (hO : dkOk I0) : Met l yX6_takes wsX6_takes (dkR 1) (dkPc g z [.ref (z + 340), .int p0, .int p1] I0) (dkQi g z (fun r I1 => dkF [(340, 340, 7, 8)] I0 I1 ∧ dkOk I1 ∧ ((dkN [(0, 0)] r ∧ dkN [(0, 2147483647)] (I1 340 8) ∧ True)))) 0 0 (dkA z) := by
  refine Met.ofW (cc := cX6_takes) (maxL := 4) (ret := (some .int)) (by decide) rfl ?_
  intro p e s m args below meth c s₁ B hml hv
  obtain ⟨ha, hW, hK, hT⟩ := hv
  have hx := B.exec
  have hb := B.bytes
  have hr := B.returns
  have hts := atoms_spec (ws := wsX6_takes) B.pre
  have hown : s.vm.findClass RX6 = some m.cls := findClass_of_methodNamed B.named
  have hlocks := B.notSynchronized
  have hS : va_S (dkA z) s.heap s.heap [] := va_S.rf
  have hF : dkF [(340, 340, 7, 8)] I0 I0 := dkF_rf _ _
  have hl := lv_entry ([.ref (z + 340), .int p0, .int p1]) (n := 4) (Nat.le_of_ble_eq_true rfl)
  have hgo : entryFrame m args 4 = entryFrame m ([.ref (z + 340), .int p0, .int p1] : List Value).toArray 4 := by rw [ha]
  rw [hgo, lg_entry_eq]
  generalize (lg_sl ([.ref (z + 340), .int p0, .int p1]) ++ List.replicate (4 - (lg_sl ([.ref (z + 340), .int p0, .int p1])).length) Slot.unset).toArray = ls at hl ⊢
  have hl : lv_has ls 4 [(0, .ref (z + 340)), (1, .int p0), (2, .int p1)] := hl
  refine lv_aload_n hx hb dX6_takes_0 rfl (lv_at hl 0 rfl) ?_
  refine dk_Vi (As := []) (rest := []) ⟨hx, hb, hml, hown, hts⟩ (c_X6_isWell_3 l g z I0 hO) (cwV 0 hts gX6_takes_X6_isWell rfl rfl rfl (by decide +kernel) ⟨Nat.le_of_ble_eq_true rfl, Nat.le_of_ble_eq_true rfl⟩) (dk_at340 hW) rfl hK hT hW hS rfl hl.1 rfl (Nat.le_of_ble_eq_true rfl) dX6_takes_1 ⟨Nat.zero_le _, Nat.zero_le _⟩ (fun v1 I1 H1 L1 hp1 hW hS => ?_)
  obtain ⟨hF1, hO, hc1⟩ := hp1
  have hF := dkF_call hF hF1 rfl
  rcases hc1 with ⟨dv1, f1_340_8, -⟩ | hc1
  ·
    refine lv_if_ne (tgt := 9) hx hb dX6_takes_4 (by decide) (fun c2 => ?_) (fun c2 => ?_)
    ·
      exact (dkN_nil (show dkN [] v1 from dkN_ne1 (0) dv1 (dkN_lit (x := 0) (0) rfl) (dk_ne c2) rfl)).elim
    ·
      refine lv_iconst (v := 0) hx hb dX6_takes_7 (by decide) ?_
      exact W.iret (v := 0) hx hb hr (fun t ht hW9 => ⟨⟨0, I1, rfl, ⟨hF, hO, ⟨dkN_sub (dkN_lit (x := 0) (0) rfl) rfl, (show dkN [(0, 2147483647)] (I1 340 8) from dkN_sub f1_340_8 rfl), trivial⟩⟩, dkW_eq ht hW⟩, hS.F ht⟩) hS.2.2 dX6_takes_8
  ·
    obtain ⟨dv1, f1_340_8, -⟩ := hc1
    refine lv_if_ne (tgt := 9) hx hb dX6_takes_4 (by decide) (fun c3 => ?_) (fun c3 => ?_)
    ·
      refine lv_iload_n hx hb dX6_takes_9 rfl (lv_at hl 1 rfl) ?_
      refine lv_if_ne (tgt := 28) hx hb dX6_takes_10 (by decide) (fun c4 => ?_) (fun c4 => ?_)
      ·
        exact (dkN_nil (show dkN [] p0 from dkN_ne1 (0) dp0 (dkN_lit (x := 0) (0) rfl) (dk_ne c4) rfl)).elim
      ·
        refine lv_aload_n hx hb dX6_takes_13 rfl (lv_at hl 0 rfl) ?_
        refine lv_aload_n hx hb dX6_takes_14 rfl (lv_at hl 0 rfl) ?_
        refine dk_get (k := 340) hx hb hts iX6_takes_6 hown hK (dk_at340 hW) rfl 10 (by decide) (hts (.fieldLink RX6 89 "DogKingsModel" "start" "I") (List.mem_of_getElem? (i := 1) rfl)) rfl dX6_takes_15 ?_
        refine lv_topi (fun v5 ev5 => ?_)
        have dv5 : dkN [(0, 90)] v5 := by rw [ev5]; exact (hO 340 10)
        refine dk_put (k := 340) hx hb hts iX6_takes_6 tyX6 tyX6_ok nmX6 hown hK hW (dk_at340 hW) hS rfl 8 (by decide) (hts (.fieldLink RX6 101 "DogKingsModel" "faultPlace" "I") (List.mem_of_getElem? (i := 2) rfl)) rfl rfl (Nat.le_of_ble_eq_true rfl) rfl dX6_takes_18 (fun I6 H6 L6 eI6 hW hS => ?_)
        have eI6 : I6 = dkU I1 340 8 v5 := eI6
        have hO := dkO_set hO eI6 (dkN_sub dv5 rfl)
        have hF := dkF_set hF eI6 rfl
        refine lv_aload_n hx hb dX6_takes_21 rfl (lv_at hl 0 rfl) ?_
        refine lv_iload_n hx hb dX6_takes_22 rfl (lv_at hl 2 rfl) ?_
        refine dk_put (k := 340) hx hb hts iX6_takes_6 tyX6 tyX6_ok nmX6 hown hK hW (dk_at340 hW) hS rfl 7 (by decide) (hts (.fieldLink RX6 108 "DogKingsModel" "faultKind" "I") (List.mem_of_getElem? (i := 3) rfl)) rfl rfl (Nat.le_of_ble_eq_true rfl) rfl dX6_takes_23 (fun I7 H7 L7 eI7 hW hS => ?_)
        have eI7 : I7 = dkU I6 340 7 p1 := eI7
        have hO := dkO_set hO eI7 (dkN_sub dp1 rfl)
        have hF := dkF_set hF eI7 rfl
        refine lv_iconst (v := 0) hx hb dX6_takes_26 (by decide) ?_
        exact W.iret (v := 0) hx hb hr (fun t ht hW9 => ⟨⟨0, I7, rfl, ⟨hF, hO, ⟨dkN_sub (dkN_lit (x := 0) (0) rfl) rfl, (show dkN [(0, 2147483647)] (I7 340 8) from dkN_sub (by rw [eI7, dkU_sn (by decide)]; exact (by rw [eI6, dkU_ss]; exact dv5)) rfl), trivial⟩⟩, dkW_eq ht hW⟩, hS.F ht⟩) hS.2.2 dX6_takes_27
    ·
      exact (dkN_nil (show dkN [] v1 from dkN_eq1 dv1 (dkN_lit (x := 0) (0) rfl) (congrArg Int32.toInt c3) rfl)).elim
set_option maxHeartbeats 4000000 in
set_option maxRecDepth 100000 in
theorem c_X6_isWell_4 (l : Launch) (g : dkG) (z : Nat) (I0 : dkI) (np0 : dkN [(0, 2147483647)] (I0 340 8))  (hO : dkOk I0) : Met l yX6_isWell wsX6_isWell (dkR 0) (dkPc g z [.ref (z + 340)] I0) (dkQi g z (fun r I1 => dkF [] I0 I1 ∧ dkOk I1 ∧ ((dkN [(0, 0)] r ∧ dkN [(0, 2147483647)] (I1 340 8) ∧ True)))) 0 0 (dkA z) := by
  refine Met.ofW (cc := cX6_isWell) (maxL := 1) (ret := (some .boolean)) (by decide) rfl ?_
  intro p e s m args below meth c s₁ B hml hv
  obtain ⟨ha, hW, hK, hT⟩ := hv
  have hx := B.exec
  have hb := B.bytes
  have hr := B.returns
  have hts := atoms_spec (ws := wsX6_isWell) B.pre
  have hown : s.vm.findClass RX6 = some m.cls := findClass_of_methodNamed B.named
  have hlocks := B.notSynchronized
  have hS : va_S (dkA z) s.heap s.heap [] := va_S.rf
  have hF : dkF [] I0 I0 := dkF_rf _ _
  have hl := lv_entry ([.ref (z + 340)]) (n := 1) (Nat.le_of_ble_eq_true rfl)
  have hgo : entryFrame m args 1 = entryFrame m ([.ref (z + 340)] : List Value).toArray 1 := by rw [ha]
  rw [hgo, lg_entry_eq]
  generalize (lg_sl ([.ref (z + 340)]) ++ List.replicate (1 - (lg_sl ([.ref (z + 340)])).length) Slot.unset).toArray = ls at hl ⊢
  have hl : lv_has ls 1 [(0, .ref (z + 340))] := hl
  refine lv_aload_n hx hb dX6_isWell_0 rfl (lv_at hl 0 rfl) ?_
  refine dk_get (k := 340) hx hb hts iX6_isWell_6 hown hK (dk_at340 hW) rfl 8 (by decide) (hts (.fieldLink RX6 101 "DogKingsModel" "faultPlace" "I") (List.mem_of_getElem? (i := 1) rfl)) rfl dX6_isWell_1 ?_
  refine lv_topi (fun v1 ev1 => ?_)
  have dv1 : dkN [(0, 2147483647)] v1 := by rw [ev1]; exact np0
  refine lv_if_ge (tgt := 11) hx hb dX6_isWell_4 (by decide) (fun c2 => ?_) (fun c2 => ?_)
  ·
    refine lv_iconst (v := 0) hx hb dX6_isWell_11 (by decide) ?_
    exact W.zret (v := 0) (ty := .boolean) hx hb hr rfl (fun t ht hW9 => ⟨⟨0, I0, rfl, ⟨hF, hO, ⟨dkN_sub (dkN_lit (x := 0) (0) rfl) rfl, (show dkN [(0, 2147483647)] (I0 340 8) from dkN_sub np0 rfl), trivial⟩⟩, dkW_eq ht hW⟩, hS.F ht⟩) hS.2.2 dX6_isWell_12
  ·
    exact (dkN_nil (show dkN [] 0 from dkN_le2 1 dv1 (dkN_lit (x := 0) (0) rfl) (dkc_nle c2) rfl)).elim
set_option maxHeartbeats 4000000 in
set_option maxRecDepth 100000 in
theorem c_X6_in_9 (l : Launch) (g : dkG) (z : Nat) (I0 : dkI) (p0 : Int32) (p1 : Int32) (p2 : Int32) (dp1 : dkN [(0, 0)] p1) (dp2 : dkN [(-1, 8)] p2)  (hO : dkOk I0) : Met l yX6_in wsX6_in (dkR 0) (dkPc g z [.int p0, .int p1, .int p2] I0) (dkQi g z (fun r I1 => dkF [] I0 I1 ∧ dkOk I1 ∧ ((dkN [(0, 0)] r ∧ True) ∨ (dkN [(1, 1)] r ∧ dkN [(0, 8)] p0 ∧ dkN [(0, 8)] p2 ∧ True)))) 0 0 (dkA z) := by
  refine Met.ofW (cc := cX6_in) (maxL := 3) (ret := (some .boolean)) (by decide) rfl ?_
  intro p e s m args below meth c s₁ B hml hv
  obtain ⟨ha, hW, hK, hT⟩ := hv
  have hx := B.exec
  have hb := B.bytes
  have hr := B.returns
  have hts := atoms_spec (ws := wsX6_in) B.pre
  have hown : s.vm.findClass RX6 = some m.cls := findClass_of_methodNamed B.named
  have hlocks := B.notSynchronized
  have hS : va_S (dkA z) s.heap s.heap [] := va_S.rf
  have hF : dkF [] I0 I0 := dkF_rf _ _
  have hl := lv_entry ([.int p0, .int p1, .int p2]) (n := 3) (Nat.le_of_ble_eq_true rfl)
  have hgo : entryFrame m args 3 = entryFrame m ([.int p0, .int p1, .int p2] : List Value).toArray 3 := by rw [ha]
  rw [hgo, lg_entry_eq]
  generalize (lg_sl ([.int p0, .int p1, .int p2]) ++ List.replicate (3 - (lg_sl ([.int p0, .int p1, .int p2])).length) Slot.unset).toArray = ls at hl ⊢
  have hl : lv_has ls 3 [(0, .int p0), (1, .int p1), (2, .int p2)] := hl
  refine lv_iload_n hx hb dX6_in_0 rfl (lv_at hl 0 rfl) ?_
  refine lv_iload_n hx hb dX6_in_1 rfl (lv_at hl 1 rfl) ?_
  refine lv_icmp_lt (tgt := 14) hx hb dX6_in_2 (by decide) (fun c1 => ?_) (fun c1 => ?_)
  ·
    have d2 : dkN [(-2147483648, -1)] p0 := dkN_le1 1 (dkN_top p0) dp1 (dkc_lt c1) rfl
    refine lv_iconst (v := 0) hx hb dX6_in_14 (by decide) ?_
    exact W.zret (v := 0) (ty := .boolean) hx hb hr rfl (fun t ht hW9 => ⟨⟨0, I0, rfl, ⟨hF, hO, Or.inl ⟨dkN_sub (dkN_lit (x := 0) (0) rfl) rfl, trivial⟩⟩, dkW_eq ht hW⟩, hS.F ht⟩) hS.2.2 dX6_in_15
  ·
    have d3 : dkN [(0, 2147483647)] p0 := dkN_le2 0 dp1 (dkN_top p0) (dkc_nlt c1) rfl
    refine lv_iload_n hx hb dX6_in_5 rfl (lv_at hl 0 rfl) ?_
    refine lv_iload_n hx hb dX6_in_6 rfl (lv_at hl 2 rfl) ?_
    refine lv_icmp_gt (tgt := 14) hx hb dX6_in_7 (by decide) (fun c4 => ?_) (fun c4 => ?_)
    ·
      refine lv_iconst (v := 0) hx hb dX6_in_14 (by decide) ?_
      exact W.zret (v := 0) (ty := .boolean) hx hb hr rfl (fun t ht hW9 => ⟨⟨0, I0, rfl, ⟨hF, hO, Or.inl ⟨dkN_sub (dkN_lit (x := 0) (0) rfl) rfl, trivial⟩⟩, dkW_eq ht hW⟩, hS.F ht⟩) hS.2.2 dX6_in_15
    ·
      have d5 : dkN [(0, 8)] p2 := dkN_le2 0 d3 dp2 (dkc_nlt c4) rfl
      have d6 : dkN [(0, 8)] p0 := dkN_le1 0 d3 dp2 (dkc_nlt c4) rfl
      refine lv_iconst (v := 1) hx hb dX6_in_10 (by decide) ?_
      refine lv_goto (tgt := 15) hx hb dX6_in_11 (by decide) ?_
      exact W.zret (v := 1) (ty := .boolean) hx hb hr rfl (fun t ht hW9 => ⟨⟨1, I0, rfl, ⟨hF, hO, Or.inr (⟨dkN_sub (dkN_lit (x := 1) (1) rfl) rfl, dkN_sub d6 rfl, dkN_sub d5 rfl, trivial⟩)⟩, dkW_eq ht hW⟩, hS.F ht⟩) hS.2.2 dX6_in_15
set_option maxHeartbeats 4000000 in
set_option maxRecDepth 100000 in
theorem c_X6_takes_11 (l : Launch) (g : dkG) (z : Nat) (I0 : dkI) (p0 : Int32) (p1 : Int32) (dp0 : dkN [(0, 0)] p0) (dp1 : dkN [(2, 2)] p1) (np0 : dkN [(0, 2147483647)] (I0 340 8))  (hO : dkOk I0) : Met l yX6_takes wsX6_takes (dkR 1) (dkPc g z [.ref (z + 340), .int p0, .int p1] I0) (dkQi g z (fun r I1 => dkF [] I0 I1 ∧ dkOk I1 ∧ ((dkN [(0, 0)] r ∧ dkN [(0, 2147483647)] (I1 340 8) ∧ True)))) 0 0 (dkA z) := by
  refine Met.ofW (cc := cX6_takes) (maxL := 4) (ret := (some .int)) (by decide) rfl ?_
  intro p e s m args below meth c s₁ B hml hv
  obtain ⟨ha, hW, hK, hT⟩ := hv
  have hx := B.exec
  have hb := B.bytes
  have hr := B.returns
  have hts := atoms_spec (ws := wsX6_takes) B.pre
  have hown : s.vm.findClass RX6 = some m.cls := findClass_of_methodNamed B.named
  have hlocks := B.notSynchronized
  have hS : va_S (dkA z) s.heap s.heap [] := va_S.rf
  have hF : dkF [] I0 I0 := dkF_rf _ _
  have hl := lv_entry ([.ref (z + 340), .int p0, .int p1]) (n := 4) (Nat.le_of_ble_eq_true rfl)
  have hgo : entryFrame m args 4 = entryFrame m ([.ref (z + 340), .int p0, .int p1] : List Value).toArray 4 := by rw [ha]
  rw [hgo, lg_entry_eq]
  generalize (lg_sl ([.ref (z + 340), .int p0, .int p1]) ++ List.replicate (4 - (lg_sl ([.ref (z + 340), .int p0, .int p1])).length) Slot.unset).toArray = ls at hl ⊢
  have hl : lv_has ls 4 [(0, .ref (z + 340)), (1, .int p0), (2, .int p1)] := hl
  refine lv_aload_n hx hb dX6_takes_0 rfl (lv_at hl 0 rfl) ?_
  refine dk_Vi (As := []) (rest := []) ⟨hx, hb, hml, hown, hts⟩ (c_X6_isWell_4 l g z I0 (show dkN [(0, 2147483647)] (I0 340 8) from dkN_sub np0 rfl) hO) (cwV 0 hts gX6_takes_X6_isWell rfl rfl rfl (by decide +kernel) ⟨Nat.le_of_ble_eq_true rfl, Nat.le_of_ble_eq_true rfl⟩) (dk_at340 hW) rfl hK hT hW hS rfl hl.1 rfl (Nat.le_of_ble_eq_true rfl) dX6_takes_1 ⟨Nat.zero_le _, Nat.zero_le _⟩ (fun v1 I1 H1 L1 hp1 hW hS => ?_)
  obtain ⟨hF1, hO, hc1⟩ := hp1
  have hF := dkF_call hF hF1 rfl
  obtain ⟨dv1, f1_340_8, -⟩ := hc1
  refine lv_if_ne (tgt := 9) hx hb dX6_takes_4 (by decide) (fun c2 => ?_) (fun c2 => ?_)
  ·
    exact (dkN_nil (show dkN [] v1 from dkN_ne1 (0) dv1 (dkN_lit (x := 0) (0) rfl) (dk_ne c2) rfl)).elim
  ·
    refine lv_iconst (v := 0) hx hb dX6_takes_7 (by decide) ?_
    exact W.iret (v := 0) hx hb hr (fun t ht hW9 => ⟨⟨0, I1, rfl, ⟨hF, hO, ⟨dkN_sub (dkN_lit (x := 0) (0) rfl) rfl, (show dkN [(0, 2147483647)] (I1 340 8) from dkN_sub f1_340_8 rfl), trivial⟩⟩, dkW_eq ht hW⟩, hS.F ht⟩) hS.2.2 dX6_takes_8
set_option maxHeartbeats 4000000 in
set_option maxRecDepth 100000 in
theorem c_X6_takes_12 (l : Launch) (g : dkG) (z : Nat) (I0 : dkI) (p0 : Int32) (p1 : Int32) (dp0 : dkN [(1, 1)] p0) (dp1 : dkN [(2, 2)] p1) (np0 : dkN [(0, 8)] (I0 340 12)) (np1 : dkN [(0, 2147483647)] (I0 340 8))  (hO : dkOk I0) : Met l yX6_takes wsX6_takes (dkR 1) (dkPc g z [.ref (z + 340), .int p0, .int p1] I0) (dkQi g z (fun r I1 => dkF [] I0 I1 ∧ dkOk I1 ∧ ((dkN [(0, 0)] r ∧ dkN [(0, 8)] (I1 340 12) ∧ dkN [(0, 2147483647)] (I1 340 8) ∧ True)))) 0 0 (dkA z) := by
  refine Met.ofW (cc := cX6_takes) (maxL := 4) (ret := (some .int)) (by decide) rfl ?_
  intro p e s m args below meth c s₁ B hml hv
  obtain ⟨ha, hW, hK, hT⟩ := hv
  have hx := B.exec
  have hb := B.bytes
  have hr := B.returns
  have hts := atoms_spec (ws := wsX6_takes) B.pre
  have hown : s.vm.findClass RX6 = some m.cls := findClass_of_methodNamed B.named
  have hlocks := B.notSynchronized
  have hS : va_S (dkA z) s.heap s.heap [] := va_S.rf
  have hF : dkF [] I0 I0 := dkF_rf _ _
  have hl := lv_entry ([.ref (z + 340), .int p0, .int p1]) (n := 4) (Nat.le_of_ble_eq_true rfl)
  have hgo : entryFrame m args 4 = entryFrame m ([.ref (z + 340), .int p0, .int p1] : List Value).toArray 4 := by rw [ha]
  rw [hgo, lg_entry_eq]
  generalize (lg_sl ([.ref (z + 340), .int p0, .int p1]) ++ List.replicate (4 - (lg_sl ([.ref (z + 340), .int p0, .int p1])).length) Slot.unset).toArray = ls at hl ⊢
  have hl : lv_has ls 4 [(0, .ref (z + 340)), (1, .int p0), (2, .int p1)] := hl
  refine lv_aload_n hx hb dX6_takes_0 rfl (lv_at hl 0 rfl) ?_
  refine dk_Vi (As := []) (rest := []) ⟨hx, hb, hml, hown, hts⟩ (c_X6_isWell_4 l g z I0 (show dkN [(0, 2147483647)] (I0 340 8) from dkN_sub np1 rfl) hO) (cwV 0 hts gX6_takes_X6_isWell rfl rfl rfl (by decide +kernel) ⟨Nat.le_of_ble_eq_true rfl, Nat.le_of_ble_eq_true rfl⟩) (dk_at340 hW) rfl hK hT hW hS rfl hl.1 rfl (Nat.le_of_ble_eq_true rfl) dX6_takes_1 ⟨Nat.zero_le _, Nat.zero_le _⟩ (fun v1 I1 H1 L1 hp1 hW hS => ?_)
  obtain ⟨hF1, hO, hc1⟩ := hp1
  have hF := dkF_call hF hF1 rfl
  obtain ⟨dv1, f1_340_8, -⟩ := hc1
  refine lv_if_ne (tgt := 9) hx hb dX6_takes_4 (by decide) (fun c2 => ?_) (fun c2 => ?_)
  ·
    exact (dkN_nil (show dkN [] v1 from dkN_ne1 (0) dv1 (dkN_lit (x := 0) (0) rfl) (dk_ne c2) rfl)).elim
  ·
    refine lv_iconst (v := 0) hx hb dX6_takes_7 (by decide) ?_
    exact W.iret (v := 0) hx hb hr (fun t ht hW9 => ⟨⟨0, I1, rfl, ⟨hF, hO, ⟨dkN_sub (dkN_lit (x := 0) (0) rfl) rfl, (show dkN [(0, 8)] (I1 340 12) from dkN_sub (by rw [hF1 340 12 rfl]; exact np0) rfl), (show dkN [(0, 2147483647)] (I1 340 8) from dkN_sub f1_340_8 rfl), trivial⟩⟩, dkW_eq ht hW⟩, hS.F ht⟩) hS.2.2 dX6_takes_8
set_option maxHeartbeats 4000000 in
set_option maxRecDepth 100000 in
theorem c_X6_figure_3 (l : Launch) (g : dkG) (z : Nat) (I0 : dkI) (p0 : Int32) (p1 : Int32) (dp0 : dkN [(0, 0)] p0) (dp1 : dkN [(-1, 8)] p1) (np0 : dkN [(0, 2147483647)] (I0 340 8))  (hO : dkOk I0) : Met l yX6_figure wsX6_figure (dkR 2) (dkPc g z [.ref (z + 340), .int p0, .int p1] I0) (dkQi g z (fun r I1 => dkF [] I0 I1 ∧ dkOk I1 ∧ ((dkN [(0, 0)] r ∧ dkN [(0, 2147483647)] (I1 340 8) ∧ True)))) 0 0 (dkA z) := by
  refine Met.ofW (cc := cX6_figure) (maxL := 3) (ret := (some .int)) (by decide) rfl ?_
  intro p e s m args below meth c s₁ B hml hv
  obtain ⟨ha, hW, hK, hT⟩ := hv
  have hx := B.exec
  have hb := B.bytes
  have hr := B.returns
  have hts := atoms_spec (ws := wsX6_figure) B.pre
  have hown : s.vm.findClass RX6 = some m.cls := findClass_of_methodNamed B.named
  have hlocks := B.notSynchronized
  have hS : va_S (dkA z) s.heap s.heap [] := va_S.rf
  have hF : dkF [] I0 I0 := dkF_rf _ _
  have hl := lv_entry ([.ref (z + 340), .int p0, .int p1]) (n := 3) (Nat.le_of_ble_eq_true rfl)
  have hgo : entryFrame m args 3 = entryFrame m ([.ref (z + 340), .int p0, .int p1] : List Value).toArray 3 := by rw [ha]
  rw [hgo, lg_entry_eq]
  generalize (lg_sl ([.ref (z + 340), .int p0, .int p1]) ++ List.replicate (3 - (lg_sl ([.ref (z + 340), .int p0, .int p1])).length) Slot.unset).toArray = ls at hl ⊢
  have hl : lv_has ls 3 [(0, .ref (z + 340)), (1, .int p0), (2, .int p1)] := hl
  have C22 : ∀ (I : dkI) (H : Heap) (locs : List Loc) (ls : Array Slot), dkW g z I H → va_S (dkA z) s.heap H locs → dkF [] I0 I → dkOk I → dkN [(0, 2147483647)] (I 340 8) → lv_has ls 3 [(0, .ref (z + 340)), (1, .int p0), (2, .int p1)] → W p l e (headSpec wsX6_figure (dkR 2)).room s m args below meth c H locs 0 0 (MQ below (dkQi g z (fun r I1 => dkF [] I0 I1 ∧ dkOk I1 ∧ ((dkN [(0, 0)] r ∧ dkN [(0, 2147483647)] (I1 340 8) ∧ True)))) args s 0 0 (dkA z)) (F0 m 22 ls []) := by
    intro I22_ H locs ls hW hS hF_22 hO f22_0 hl
    have hF := hF_22
    refine lv_aload_n hx hb dX6_figure_22 rfl (lv_at hl 0 rfl) ?_
    refine lv_aload_n hx hb dX6_figure_23 rfl (lv_at hl 0 rfl) ?_
    refine dk_get (k := 340) hx hb hts iX6_figure_6 hown hK (dk_at340 hW) rfl 12 (by decide) (hts (.fieldLink RX6 95 "DogKingsModel" "value" "I") (List.mem_of_getElem? (i := 2) rfl)) rfl dX6_figure_24 ?_
    refine lv_topi (fun v1 ev1 => ?_)
    refine lv_iload_n hx hb dX6_figure_27 rfl (lv_at hl 1 rfl) ?_
    refine lv_iload_n hx hb dX6_figure_28 rfl (lv_at hl 2 rfl) ?_
    refine dk_Si (As := [.int v1, .int p0, .int p1]) (rest := [.ref (z + 340)]) ⟨hx, hb, hml, hown, hts⟩ (c_X6_in_9 l g z I22_ v1 p0 p1 dp0 dp1 hO) (va_cwS 3 hts gX6_figure_X6_in rfl rfl rfl (by decide +kernel) ⟨Nat.le_of_ble_eq_true rfl, Nat.le_of_ble_eq_true rfl⟩) hK hT hW hS rfl hl.1 rfl (Nat.le_of_ble_eq_true rfl) dX6_figure_29 ⟨Nat.zero_le _, Nat.zero_le _⟩ (fun v2 I2 H2 L2 hp2 hW hS => ?_)
    obtain ⟨hF2, hO, hc2⟩ := hp2
    have hF := dkF_call hF hF2 rfl
    rcases hc2 with ⟨dv2, -⟩ | hc2
    ·
      refine lv_iconst (v := 2) hx hb dX6_figure_32 (by decide) ?_
      refine dk_Vi (As := [.int v2, .int 2]) (rest := []) ⟨hx, hb, hml, hown, hts⟩ (c_X6_takes_11 l g z I2 v2 2 dv2 (dkN_lit (x := 2) (2) rfl) (show dkN [(0, 2147483647)] (I2 340 8) from dkN_sub (by rw [hF2 340 8 rfl]; exact f22_0) rfl) hO) (cwV 2 hts gX6_figure_X6_takes rfl rfl rfl (by decide +kernel) ⟨Nat.le_of_ble_eq_true rfl, Nat.le_of_ble_eq_true rfl⟩) (dk_at340 hW) rfl hK hT hW hS rfl hl.1 rfl (Nat.le_of_ble_eq_true rfl) dX6_figure_33 ⟨Nat.zero_le _, Nat.zero_le _⟩ (fun v3 I3 H3 L3 hp3 hW hS => ?_)
      obtain ⟨hF3, hO, hc3⟩ := hp3
      have hF := dkF_call hF hF3 rfl
      obtain ⟨dv3, f3_340_8, -⟩ := hc3
      exact W.iret (v := v3) hx hb hr (fun t ht hW9 => ⟨⟨v3, I3, rfl, ⟨hF, hO, ⟨dkN_sub dv3 rfl, (show dkN [(0, 2147483647)] (I3 340 8) from dkN_sub f3_340_8 rfl), trivial⟩⟩, dkW_eq ht hW⟩, hS.F ht⟩) hS.2.2 dX6_figure_36
    ·
      obtain ⟨dv2, a2_0, a2_2, -⟩ := hc2
      have e4 : v1 = I2 340 12 := by rw [hF2 340 12 rfl]; exact ev1
      have d5 : dkN [(0, 8)] v1 := dkN_eq1 (dkN_top v1) a2_0 rfl rfl
      have f6 : dkN [(0, 8)] (I2 340 12) := by rw [← e4]; exact d5
      have d7 : dkN [(0, 8)] p1 := dkN_eq1 dp1 a2_2 rfl rfl
      refine lv_iconst (v := 2) hx hb dX6_figure_32 (by decide) ?_
      refine dk_Vi (As := [.int v2, .int 2]) (rest := []) ⟨hx, hb, hml, hown, hts⟩ (c_X6_takes_12 l g z I2 v2 2 dv2 (dkN_lit (x := 2) (2) rfl) (show dkN [(0, 8)] (I2 340 12) from dkN_sub f6 rfl) (show dkN [(0, 2147483647)] (I2 340 8) from dkN_sub (by rw [hF2 340 8 rfl]; exact f22_0) rfl) hO) (cwV 2 hts gX6_figure_X6_takes rfl rfl rfl (by decide +kernel) ⟨Nat.le_of_ble_eq_true rfl, Nat.le_of_ble_eq_true rfl⟩) (dk_at340 hW) rfl hK hT hW hS rfl hl.1 rfl (Nat.le_of_ble_eq_true rfl) dX6_figure_33 ⟨Nat.zero_le _, Nat.zero_le _⟩ (fun v8 I8 H8 L8 hp8 hW hS => ?_)
      obtain ⟨hF8, hO, hc8⟩ := hp8
      have hF := dkF_call hF hF8 rfl
      obtain ⟨dv8, f8_340_12, f8_340_8, -⟩ := hc8
      exact W.iret (v := v8) hx hb hr (fun t ht hW9 => ⟨⟨v8, I8, rfl, ⟨hF, hO, ⟨dkN_sub dv8 rfl, (show dkN [(0, 2147483647)] (I8 340 8) from dkN_sub f8_340_8 rfl), trivial⟩⟩, dkW_eq ht hW⟩, hS.F ht⟩) hS.2.2 dX6_figure_36
  refine lv_aload_n hx hb dX6_figure_0 rfl (lv_at hl 0 rfl) ?_
  refine dk_Vi (As := []) (rest := []) ⟨hx, hb, hml, hown, hts⟩ (c_X6_isWell_4 l g z I0 (show dkN [(0, 2147483647)] (I0 340 8) from dkN_sub np0 rfl) hO) (cwV 0 hts gX6_figure_X6_isWell rfl rfl rfl (by decide +kernel) ⟨Nat.le_of_ble_eq_true rfl, Nat.le_of_ble_eq_true rfl⟩) (dk_at340 hW) rfl hK hT hW hS rfl hl.1 rfl (Nat.le_of_ble_eq_true rfl) dX6_figure_1 ⟨Nat.zero_le _, Nat.zero_le _⟩ (fun v9 I9 H9 L9 hp9 hW hS => ?_)
  obtain ⟨hF9, hO, hc9⟩ := hp9
  have hF := dkF_call hF hF9 rfl
  obtain ⟨dv9, f9_340_8, -⟩ := hc9
  refine lv_if_eq (tgt := 22) hx hb dX6_figure_4 (by decide) (fun c10 => ?_) (fun c10 => ?_)
  ·
    exact C22 I9 _ _ ls  hW hS hF hO (show dkN [(0, 2147483647)] (I9 340 8) from dkN_sub f9_340_8 rfl) (lv_sub hl [0, 1, 2] rfl)
  ·
    exact (dkN_nil (show dkN [] v9 from dkN_ne1 (0) dv9 (dkN_lit (x := 0) (0) rfl) (dk_ne c10) rfl)).elim
set_option maxHeartbeats 4000000 in
set_option maxRecDepth 100000 in
theorem c_X6_takes_13 (l : Launch) (g : dkG) (z : Nat) (I0 : dkI) (p0 : Int32) (p1 : Int32) (dp0 : dkN [(0, 1)] p0) (dp1 : dkN [(1, 1)] p1) (np0 : dkN [(0, 2147483647)] (I0 340 8))  (hO : dkOk I0) : Met l yX6_takes wsX6_takes (dkR 1) (dkPc g z [.ref (z + 340), .int p0, .int p1] I0) (dkQi g z (fun r I1 => dkF [] I0 I1 ∧ dkOk I1 ∧ ((dkN [(0, 0)] r ∧ dkN [(0, 2147483647)] (I1 340 8) ∧ True)))) 0 0 (dkA z) := by
  refine Met.ofW (cc := cX6_takes) (maxL := 4) (ret := (some .int)) (by decide) rfl ?_
  intro p e s m args below meth c s₁ B hml hv
  obtain ⟨ha, hW, hK, hT⟩ := hv
  have hx := B.exec
  have hb := B.bytes
  have hr := B.returns
  have hts := atoms_spec (ws := wsX6_takes) B.pre
  have hown : s.vm.findClass RX6 = some m.cls := findClass_of_methodNamed B.named
  have hlocks := B.notSynchronized
  have hS : va_S (dkA z) s.heap s.heap [] := va_S.rf
  have hF : dkF [] I0 I0 := dkF_rf _ _
  have hl := lv_entry ([.ref (z + 340), .int p0, .int p1]) (n := 4) (Nat.le_of_ble_eq_true rfl)
  have hgo : entryFrame m args 4 = entryFrame m ([.ref (z + 340), .int p0, .int p1] : List Value).toArray 4 := by rw [ha]
  rw [hgo, lg_entry_eq]
  generalize (lg_sl ([.ref (z + 340), .int p0, .int p1]) ++ List.replicate (4 - (lg_sl ([.ref (z + 340), .int p0, .int p1])).length) Slot.unset).toArray = ls at hl ⊢
  have hl : lv_has ls 4 [(0, .ref (z + 340)), (1, .int p0), (2, .int p1)] := hl
  refine lv_aload_n hx hb dX6_takes_0 rfl (lv_at hl 0 rfl) ?_
  refine dk_Vi (As := []) (rest := []) ⟨hx, hb, hml, hown, hts⟩ (c_X6_isWell_4 l g z I0 (show dkN [(0, 2147483647)] (I0 340 8) from dkN_sub np0 rfl) hO) (cwV 0 hts gX6_takes_X6_isWell rfl rfl rfl (by decide +kernel) ⟨Nat.le_of_ble_eq_true rfl, Nat.le_of_ble_eq_true rfl⟩) (dk_at340 hW) rfl hK hT hW hS rfl hl.1 rfl (Nat.le_of_ble_eq_true rfl) dX6_takes_1 ⟨Nat.zero_le _, Nat.zero_le _⟩ (fun v1 I1 H1 L1 hp1 hW hS => ?_)
  obtain ⟨hF1, hO, hc1⟩ := hp1
  have hF := dkF_call hF hF1 rfl
  obtain ⟨dv1, f1_340_8, -⟩ := hc1
  refine lv_if_ne (tgt := 9) hx hb dX6_takes_4 (by decide) (fun c2 => ?_) (fun c2 => ?_)
  ·
    exact (dkN_nil (show dkN [] v1 from dkN_ne1 (0) dv1 (dkN_lit (x := 0) (0) rfl) (dk_ne c2) rfl)).elim
  ·
    refine lv_iconst (v := 0) hx hb dX6_takes_7 (by decide) ?_
    exact W.iret (v := 0) hx hb hr (fun t ht hW9 => ⟨⟨0, I1, rfl, ⟨hF, hO, ⟨dkN_sub (dkN_lit (x := 0) (0) rfl) rfl, (show dkN [(0, 2147483647)] (I1 340 8) from dkN_sub f1_340_8 rfl), trivial⟩⟩, dkW_eq ht hW⟩, hS.F ht⟩) hS.2.2 dX6_takes_8
set_option maxHeartbeats 4000000 in
set_option maxRecDepth 100000 in
theorem c_X6_in_10 (l : Launch) (g : dkG) (z : Nat) (I0 : dkI) (p0 : Int32) (p1 : Int32) (p2 : Int32) (dp1 : dkN [(0, 0)] p1) (dp2 : dkN [(9, 9)] p2)  (hO : dkOk I0) : Met l yX6_in wsX6_in (dkR 0) (dkPc g z [.int p0, .int p1, .int p2] I0) (dkQi g z (fun r I1 => dkF [] I0 I1 ∧ dkOk I1 ∧ ((dkN [(0, 0)] r ∧ dkN [(-2147483648, -1), (10, 2147483647)] p0 ∧ True) ∨ (dkN [(1, 1)] r ∧ dkN [(0, 9)] p0 ∧ True)))) 0 0 (dkA z) := by
  refine Met.ofW (cc := cX6_in) (maxL := 3) (ret := (some .boolean)) (by decide) rfl ?_
  intro p e s m args below meth c s₁ B hml hv
  obtain ⟨ha, hW, hK, hT⟩ := hv
  have hx := B.exec
  have hb := B.bytes
  have hr := B.returns
  have hts := atoms_spec (ws := wsX6_in) B.pre
  have hown : s.vm.findClass RX6 = some m.cls := findClass_of_methodNamed B.named
  have hlocks := B.notSynchronized
  have hS : va_S (dkA z) s.heap s.heap [] := va_S.rf
  have hF : dkF [] I0 I0 := dkF_rf _ _
  have hl := lv_entry ([.int p0, .int p1, .int p2]) (n := 3) (Nat.le_of_ble_eq_true rfl)
  have hgo : entryFrame m args 3 = entryFrame m ([.int p0, .int p1, .int p2] : List Value).toArray 3 := by rw [ha]
  rw [hgo, lg_entry_eq]
  generalize (lg_sl ([.int p0, .int p1, .int p2]) ++ List.replicate (3 - (lg_sl ([.int p0, .int p1, .int p2])).length) Slot.unset).toArray = ls at hl ⊢
  have hl : lv_has ls 3 [(0, .int p0), (1, .int p1), (2, .int p2)] := hl
  refine lv_iload_n hx hb dX6_in_0 rfl (lv_at hl 0 rfl) ?_
  refine lv_iload_n hx hb dX6_in_1 rfl (lv_at hl 1 rfl) ?_
  refine lv_icmp_lt (tgt := 14) hx hb dX6_in_2 (by decide) (fun c1 => ?_) (fun c1 => ?_)
  ·
    have d2 : dkN [(-2147483648, -1)] p0 := dkN_le1 1 (dkN_top p0) dp1 (dkc_lt c1) rfl
    refine lv_iconst (v := 0) hx hb dX6_in_14 (by decide) ?_
    exact W.zret (v := 0) (ty := .boolean) hx hb hr rfl (fun t ht hW9 => ⟨⟨0, I0, rfl, ⟨hF, hO, Or.inl ⟨dkN_sub (dkN_lit (x := 0) (0) rfl) rfl, dkN_sub d2 rfl, trivial⟩⟩, dkW_eq ht hW⟩, hS.F ht⟩) hS.2.2 dX6_in_15
  ·
    have d3 : dkN [(0, 2147483647)] p0 := dkN_le2 0 dp1 (dkN_top p0) (dkc_nlt c1) rfl
    refine lv_iload_n hx hb dX6_in_5 rfl (lv_at hl 0 rfl) ?_
    refine lv_iload_n hx hb dX6_in_6 rfl (lv_at hl 2 rfl) ?_
    refine lv_icmp_gt (tgt := 14) hx hb dX6_in_7 (by decide) (fun c4 => ?_) (fun c4 => ?_)
    ·
      have d5 : dkN [(10, 2147483647)] p0 := dkN_le2 1 dp2 d3 (dkc_lt c4) rfl
      refine lv_iconst (v := 0) hx hb dX6_in_14 (by decide) ?_
      exact W.zret (v := 0) (ty := .boolean) hx hb hr rfl (fun t ht hW9 => ⟨⟨0, I0, rfl, ⟨hF, hO, Or.inl ⟨dkN_sub (dkN_lit (x := 0) (0) rfl) rfl, dkN_sub d5 rfl, trivial⟩⟩, dkW_eq ht hW⟩, hS.F ht⟩) hS.2.2 dX6_in_15
    ·
      have d6 : dkN [(0, 9)] p0 := dkN_le1 0 d3 dp2 (dkc_nlt c4) rfl
      refine lv_iconst (v := 1) hx hb dX6_in_10 (by decide) ?_
      refine lv_goto (tgt := 15) hx hb dX6_in_11 (by decide) ?_
      exact W.zret (v := 1) (ty := .boolean) hx hb hr rfl (fun t ht hW9 => ⟨⟨1, I0, rfl, ⟨hF, hO, Or.inr (⟨dkN_sub (dkN_lit (x := 1) (1) rfl) rfl, dkN_sub d6 rfl, trivial⟩)⟩, dkW_eq ht hW⟩, hS.F ht⟩) hS.2.2 dX6_in_15
set_option maxHeartbeats 4000000 in
set_option maxRecDepth 100000 in
theorem c_X6_takes_14 (l : Launch) (g : dkG) (z : Nat) (I0 : dkI) (p0 : Int32) (p1 : Int32) (dp0 : dkN [(0, 0)] p0) (dp1 : dkN [(2, 2)] p1) (np0 : dkN [(-2147483648, -1), (10, 2147483647)] (I0 340 12)) (np1 : dkN [(0, 2147483647)] (I0 340 8))  (hO : dkOk I0) : Met l yX6_takes wsX6_takes (dkR 1) (dkPc g z [.ref (z + 340), .int p0, .int p1] I0) (dkQi g z (fun r I1 => dkF [] I0 I1 ∧ dkOk I1 ∧ ((dkN [(0, 0)] r ∧ dkN [(-2147483648, -1), (10, 2147483647)] (I1 340 12) ∧ dkN [(0, 2147483647)] (I1 340 8) ∧ True)))) 0 0 (dkA z) := by
  refine Met.ofW (cc := cX6_takes) (maxL := 4) (ret := (some .int)) (by decide) rfl ?_
  intro p e s m args below meth c s₁ B hml hv
  obtain ⟨ha, hW, hK, hT⟩ := hv
  have hx := B.exec
  have hb := B.bytes
  have hr := B.returns
  have hts := atoms_spec (ws := wsX6_takes) B.pre
  have hown : s.vm.findClass RX6 = some m.cls := findClass_of_methodNamed B.named
  have hlocks := B.notSynchronized
  have hS : va_S (dkA z) s.heap s.heap [] := va_S.rf
  have hF : dkF [] I0 I0 := dkF_rf _ _
  have hl := lv_entry ([.ref (z + 340), .int p0, .int p1]) (n := 4) (Nat.le_of_ble_eq_true rfl)
  have hgo : entryFrame m args 4 = entryFrame m ([.ref (z + 340), .int p0, .int p1] : List Value).toArray 4 := by rw [ha]
  rw [hgo, lg_entry_eq]
  generalize (lg_sl ([.ref (z + 340), .int p0, .int p1]) ++ List.replicate (4 - (lg_sl ([.ref (z + 340), .int p0, .int p1])).length) Slot.unset).toArray = ls at hl ⊢
  have hl : lv_has ls 4 [(0, .ref (z + 340)), (1, .int p0), (2, .int p1)] := hl
  refine lv_aload_n hx hb dX6_takes_0 rfl (lv_at hl 0 rfl) ?_
  refine dk_Vi (As := []) (rest := []) ⟨hx, hb, hml, hown, hts⟩ (c_X6_isWell_4 l g z I0 (show dkN [(0, 2147483647)] (I0 340 8) from dkN_sub np1 rfl) hO) (cwV 0 hts gX6_takes_X6_isWell rfl rfl rfl (by decide +kernel) ⟨Nat.le_of_ble_eq_true rfl, Nat.le_of_ble_eq_true rfl⟩) (dk_at340 hW) rfl hK hT hW hS rfl hl.1 rfl (Nat.le_of_ble_eq_true rfl) dX6_takes_1 ⟨Nat.zero_le _, Nat.zero_le _⟩ (fun v1 I1 H1 L1 hp1 hW hS => ?_)
  obtain ⟨hF1, hO, hc1⟩ := hp1
  have hF := dkF_call hF hF1 rfl
  obtain ⟨dv1, f1_340_8, -⟩ := hc1
  refine lv_if_ne (tgt := 9) hx hb dX6_takes_4 (by decide) (fun c2 => ?_) (fun c2 => ?_)
  ·
    exact (dkN_nil (show dkN [] v1 from dkN_ne1 (0) dv1 (dkN_lit (x := 0) (0) rfl) (dk_ne c2) rfl)).elim
  ·
    refine lv_iconst (v := 0) hx hb dX6_takes_7 (by decide) ?_
    exact W.iret (v := 0) hx hb hr (fun t ht hW9 => ⟨⟨0, I1, rfl, ⟨hF, hO, ⟨dkN_sub (dkN_lit (x := 0) (0) rfl) rfl, (show dkN [(-2147483648, -1), (10, 2147483647)] (I1 340 12) from dkN_sub (by rw [hF1 340 12 rfl]; exact np0) rfl), (show dkN [(0, 2147483647)] (I1 340 8) from dkN_sub f1_340_8 rfl), trivial⟩⟩, dkW_eq ht hW⟩, hS.F ht⟩) hS.2.2 dX6_takes_8
set_option maxHeartbeats 4000000 in
set_option maxRecDepth 100000 in
theorem c_X6_takes_15 (l : Launch) (g : dkG) (z : Nat) (I0 : dkI) (p0 : Int32) (p1 : Int32) (dp0 : dkN [(1, 1)] p0) (dp1 : dkN [(2, 2)] p1) (np0 : dkN [(0, 9)] (I0 340 12)) (np1 : dkN [(0, 2147483647)] (I0 340 8))  (hO : dkOk I0) : Met l yX6_takes wsX6_takes (dkR 1) (dkPc g z [.ref (z + 340), .int p0, .int p1] I0) (dkQi g z (fun r I1 => dkF [] I0 I1 ∧ dkOk I1 ∧ ((dkN [(0, 0)] r ∧ dkN [(0, 9)] (I1 340 12) ∧ dkN [(0, 2147483647)] (I1 340 8) ∧ True)))) 0 0 (dkA z) := by
  refine Met.ofW (cc := cX6_takes) (maxL := 4) (ret := (some .int)) (by decide) rfl ?_
  intro p e s m args below meth c s₁ B hml hv
  obtain ⟨ha, hW, hK, hT⟩ := hv
  have hx := B.exec
  have hb := B.bytes
  have hr := B.returns
  have hts := atoms_spec (ws := wsX6_takes) B.pre
  have hown : s.vm.findClass RX6 = some m.cls := findClass_of_methodNamed B.named
  have hlocks := B.notSynchronized
  have hS : va_S (dkA z) s.heap s.heap [] := va_S.rf
  have hF : dkF [] I0 I0 := dkF_rf _ _
  have hl := lv_entry ([.ref (z + 340), .int p0, .int p1]) (n := 4) (Nat.le_of_ble_eq_true rfl)
  have hgo : entryFrame m args 4 = entryFrame m ([.ref (z + 340), .int p0, .int p1] : List Value).toArray 4 := by rw [ha]
  rw [hgo, lg_entry_eq]
  generalize (lg_sl ([.ref (z + 340), .int p0, .int p1]) ++ List.replicate (4 - (lg_sl ([.ref (z + 340), .int p0, .int p1])).length) Slot.unset).toArray = ls at hl ⊢
  have hl : lv_has ls 4 [(0, .ref (z + 340)), (1, .int p0), (2, .int p1)] := hl
  refine lv_aload_n hx hb dX6_takes_0 rfl (lv_at hl 0 rfl) ?_
  refine dk_Vi (As := []) (rest := []) ⟨hx, hb, hml, hown, hts⟩ (c_X6_isWell_4 l g z I0 (show dkN [(0, 2147483647)] (I0 340 8) from dkN_sub np1 rfl) hO) (cwV 0 hts gX6_takes_X6_isWell rfl rfl rfl (by decide +kernel) ⟨Nat.le_of_ble_eq_true rfl, Nat.le_of_ble_eq_true rfl⟩) (dk_at340 hW) rfl hK hT hW hS rfl hl.1 rfl (Nat.le_of_ble_eq_true rfl) dX6_takes_1 ⟨Nat.zero_le _, Nat.zero_le _⟩ (fun v1 I1 H1 L1 hp1 hW hS => ?_)
  obtain ⟨hF1, hO, hc1⟩ := hp1
  have hF := dkF_call hF hF1 rfl
  obtain ⟨dv1, f1_340_8, -⟩ := hc1
  refine lv_if_ne (tgt := 9) hx hb dX6_takes_4 (by decide) (fun c2 => ?_) (fun c2 => ?_)
  ·
    exact (dkN_nil (show dkN [] v1 from dkN_ne1 (0) dv1 (dkN_lit (x := 0) (0) rfl) (dk_ne c2) rfl)).elim
  ·
    refine lv_iconst (v := 0) hx hb dX6_takes_7 (by decide) ?_
    exact W.iret (v := 0) hx hb hr (fun t ht hW9 => ⟨⟨0, I1, rfl, ⟨hF, hO, ⟨dkN_sub (dkN_lit (x := 0) (0) rfl) rfl, (show dkN [(0, 9)] (I1 340 12) from dkN_sub (by rw [hF1 340 12 rfl]; exact np0) rfl), (show dkN [(0, 2147483647)] (I1 340 8) from dkN_sub f1_340_8 rfl), trivial⟩⟩, dkW_eq ht hW⟩, hS.F ht⟩) hS.2.2 dX6_takes_8
