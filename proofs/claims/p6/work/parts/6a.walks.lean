set_option maxHeartbeats 4000000 in
set_option maxRecDepth 100000 in
theorem f_X5_isUpTo_8 (l : Launch) (g : dkG) (z : Nat) (I0 : dkI) (p0 : Int32) (p1 : Int32) (dp1 : dkN [(255, 255)] p1)  (hO : dkOk I0) : Met l yX5_isUpTo wsX5_isUpTo (dkR 0) (dkPc g z [.int p0, .int p1] I0) (dkQi g z (fun r I1 => dkF [] I0 I1 ∧ dkOk I1 ∧ ((dkN [(0, 0)] r ∧ dkN [(-2147483648, -1)] p0 ∧ p0.toInt + 1 ≤ (0 : Int) ∧ r = 0 ∧ True) ∨ (dkN [(0, 0)] r ∧ dkN [(256, 2147483647)] p0 ∧ (0 : Int) + 0 ≤ p0.toInt ∧ p1.toInt + 1 ≤ p0.toInt ∧ r = 0 ∧ True) ∨ (dkN [(1, 1)] r ∧ dkN [(0, 255)] p0 ∧ (0 : Int) + 0 ≤ p0.toInt ∧ p0.toInt + 0 ≤ p1.toInt ∧ r = 1 ∧ True)))) 0 0 (dkA z) := by
  refine Met.ofW (cc := cX5_isUpTo) (maxL := 2) (ret := (some .boolean)) (by decide) rfl ?_
  intro p e s m args below meth c s₁ B hml hv
  obtain ⟨ha, hW, hK, hT⟩ := hv
  have hx := B.exec
  have hb := B.bytes
  have hr := B.returns
  have hts := atoms_spec (ws := wsX5_isUpTo) B.pre
  have hown : s.vm.findClass RX5 = some m.cls := findClass_of_methodNamed B.named
  have hlocks := B.notSynchronized
  have hS : va_S (dkA z) s.heap s.heap [] := va_S.rf
  have hF : dkF [] I0 I0 := dkF_rf _ _
  have hl := lv_entry ([.int p0, .int p1]) (n := 2) (Nat.le_of_ble_eq_true rfl)
  have hgo : entryFrame m args 2 = entryFrame m ([.int p0, .int p1] : List Value).toArray 2 := by rw [ha]
  rw [hgo, lg_entry_eq]
  generalize (lg_sl ([.int p0, .int p1]) ++ List.replicate (2 - (lg_sl ([.int p0, .int p1])).length) Slot.unset).toArray = ls at hl ⊢
  have hl : lv_has ls 2 [(0, .int p0), (1, .int p1)] := hl
  refine lv_iload_n hx hb dX5_isUpTo_0 rfl (lv_at hl 0 rfl) ?_
  refine lv_if_lt (tgt := 13) hx hb dX5_isUpTo_1 (by decide) (fun c1 => ?_) (fun c1 => ?_)
  ·
    have q2 : p0.toInt + 1 ≤ (0 : Int) := (dkc_lt c1)
    have d3 : dkN [(-2147483648, -1)] p0 := dkN_le1 1 (dkN_top p0) (dkN_lit (x := 0) (0) rfl) (dkc_lt c1) rfl
    refine lv_iconst (v := 0) hx hb dX5_isUpTo_13 (by decide) ?_
    exact W.zret (v := 0) (ty := .boolean) hx hb hr rfl (fun t ht hW9 => ⟨⟨0, I0, rfl, ⟨hF, hO, Or.inl ⟨dkN_sub (dkN_lit (x := 0) (0) rfl) rfl, dkN_sub d3 rfl, q2, rfl, trivial⟩⟩, dkW_eq ht hW⟩, hS.F ht⟩) hS.2.2 dX5_isUpTo_14
  ·
    have q4 : (0 : Int) + 0 ≤ p0.toInt := (dkc_nlt c1)
    have d5 : dkN [(0, 2147483647)] p0 := dkN_le2 0 (dkN_lit (x := 0) (0) rfl) (dkN_top p0) (dkc_nlt c1) rfl
    refine lv_iload_n hx hb dX5_isUpTo_4 rfl (lv_at hl 0 rfl) ?_
    refine lv_iload_n hx hb dX5_isUpTo_5 rfl (lv_at hl 1 rfl) ?_
    refine lv_icmp_gt (tgt := 13) hx hb dX5_isUpTo_6 (by decide) (fun c6 => ?_) (fun c6 => ?_)
    ·
      have q7 : p1.toInt + 1 ≤ p0.toInt := (dkc_lt c6)
      have d8 : dkN [(256, 2147483647)] p0 := dkN_le2 1 dp1 d5 (dkc_lt c6) rfl
      refine lv_iconst (v := 0) hx hb dX5_isUpTo_13 (by decide) ?_
      exact W.zret (v := 0) (ty := .boolean) hx hb hr rfl (fun t ht hW9 => ⟨⟨0, I0, rfl, ⟨hF, hO, Or.inr (Or.inl ⟨dkN_sub (dkN_lit (x := 0) (0) rfl) rfl, dkN_sub d8 rfl, q4, q7, rfl, trivial⟩)⟩, dkW_eq ht hW⟩, hS.F ht⟩) hS.2.2 dX5_isUpTo_14
    ·
      have q9 : p0.toInt + 0 ≤ p1.toInt := (dkc_nlt c6)
      have d10 : dkN [(0, 255)] p0 := dkN_le1 0 d5 dp1 (dkc_nlt c6) rfl
      refine lv_iconst (v := 1) hx hb dX5_isUpTo_9 (by decide) ?_
      refine lv_goto (tgt := 14) hx hb dX5_isUpTo_10 (by decide) ?_
      exact W.zret (v := 1) (ty := .boolean) hx hb hr rfl (fun t ht hW9 => ⟨⟨1, I0, rfl, ⟨hF, hO, Or.inr (Or.inr (⟨dkN_sub (dkN_lit (x := 1) (1) rfl) rfl, dkN_sub d10 rfl, q4, q9, rfl, trivial⟩))⟩, dkW_eq ht hW⟩, hS.F ht⟩) hS.2.2 dX5_isUpTo_14
set_option maxHeartbeats 4000000 in
set_option maxRecDepth 100000 in
theorem f_X2_isFull_1 (l : Launch) (g : dkG) (z : Nat) (I0 : dkI)  (hO : dkOk I0) : Met l yX2_isFull wsX2_isFull (dkR 0) (dkPc g z [.ref (z + 12)] I0) (dkQi g z (fun r I1 => dkF [] I0 I1 ∧ dkOk I1 ∧ ((dkN [(0, 0)] r ∧ dkN [(0, 89)] (I1 12 1) ∧ (I0 12 1).toInt + 1 ≤ (90 : Int) ∧ r = 0 ∧ True) ∨ (dkN [(1, 1)] r ∧ dkN [(90, 90)] (I1 12 1) ∧ (90 : Int) + 0 ≤ (I0 12 1).toInt ∧ r = 1 ∧ True)))) 0 0 (dkA z) := by
  refine Met.ofW (cc := cX2_isFull) (maxL := 1) (ret := (some .boolean)) (by decide) rfl ?_
  intro p e s m args below meth c s₁ B hml hv
  obtain ⟨ha, hW, hK, hT⟩ := hv
  have hx := B.exec
  have hb := B.bytes
  have hr := B.returns
  have hts := atoms_spec (ws := wsX2_isFull) B.pre
  have hown : s.vm.findClass RX2 = some m.cls := findClass_of_methodNamed B.named
  have hlocks := B.notSynchronized
  have hS : va_S (dkA z) s.heap s.heap [] := va_S.rf
  have hF : dkF [] I0 I0 := dkF_rf _ _
  have hl := lv_entry ([.ref (z + 12)]) (n := 1) (Nat.le_of_ble_eq_true rfl)
  have hgo : entryFrame m args 1 = entryFrame m ([.ref (z + 12)] : List Value).toArray 1 := by rw [ha]
  rw [hgo, lg_entry_eq]
  generalize (lg_sl ([.ref (z + 12)]) ++ List.replicate (1 - (lg_sl ([.ref (z + 12)])).length) Slot.unset).toArray = ls at hl ⊢
  have hl : lv_has ls 1 [(0, .ref (z + 12))] := hl
  refine lv_aload_n hx hb dX2_isFull_0 rfl (lv_at hl 0 rfl) ?_
  refine dk_get (k := 12) hx hb hts iX2_isFull_2 hown hK (dk_at12 hW) rfl 1 (by decide) (hts (.fieldLink RX2 22 "DogKings$Reader" "bytes" "I") (List.mem_of_getElem? (i := 1) rfl)) rfl dX2_isFull_1 ?_
  refine lv_topi (fun v1 ev1 => ?_)
  have dv1 : dkN [(0, 90)] v1 := by rw [ev1]; exact (hO 12 1)
  have xv1 : v1 = I0 12 1 := ev1.trans rfl
  refine lv_bipush (v := 90) hx hb dX2_isFull_4 (by decide) ?_
  refine lv_icmp_lt (tgt := 13) hx hb dX2_isFull_6 (by decide) (fun c2 => ?_) (fun c2 => ?_)
  ·
    have q3 : (I0 12 1).toInt + 1 ≤ (90 : Int) := by rw [← xv1]; exact (dkc_lt c2)
    have d4 : dkN [(0, 89)] v1 := dkN_le1 1 dv1 (dkN_lit (x := 90) (90) rfl) (dkc_lt c2) rfl
    have f5 : dkN [(0, 89)] (I0 12 1) := by rw [← ev1]; exact d4
    refine lv_iconst (v := 0) hx hb dX2_isFull_13 (by decide) ?_
    exact W.zret (v := 0) (ty := .boolean) hx hb hr rfl (fun t ht hW9 => ⟨⟨0, I0, rfl, ⟨hF, hO, Or.inl ⟨dkN_sub (dkN_lit (x := 0) (0) rfl) rfl, (show dkN [(0, 89)] (I0 12 1) from dkN_sub f5 rfl), q3, rfl, trivial⟩⟩, dkW_eq ht hW⟩, hS.F ht⟩) hS.2.2 dX2_isFull_14
  ·
    have q6 : (90 : Int) + 0 ≤ (I0 12 1).toInt := by rw [← xv1]; exact (dkc_nlt c2)
    have d7 : dkN [(90, 90)] v1 := dkN_le2 0 (dkN_lit (x := 90) (90) rfl) dv1 (dkc_nlt c2) rfl
    have f8 : dkN [(90, 90)] (I0 12 1) := by rw [← ev1]; exact d7
    refine lv_iconst (v := 1) hx hb dX2_isFull_9 (by decide) ?_
    refine lv_goto (tgt := 14) hx hb dX2_isFull_10 (by decide) ?_
    exact W.zret (v := 1) (ty := .boolean) hx hb hr rfl (fun t ht hW9 => ⟨⟨1, I0, rfl, ⟨hF, hO, Or.inr (⟨dkN_sub (dkN_lit (x := 1) (1) rfl) rfl, (show dkN [(90, 90)] (I0 12 1) from dkN_sub f8 rfl), q6, rfl, trivial⟩)⟩, dkW_eq ht hW⟩, hS.F ht⟩) hS.2.2 dX2_isFull_14
set_option maxHeartbeats 4000000 in
set_option maxRecDepth 100000 in
theorem f_X2_append_1 (l : Launch) (g : dkG) (z : Nat) (I0 : dkI) (p0 : Int32) (dp0 : dkN [(0, 255)] p0)  (hO : dkOk I0) : Met l yX2_append wsX2_append (dkR 1) (dkPc g z [.ref (z + 12), .int p0] I0) (dkQi g z (fun r I1 => dkF [(12, 12, 1, 1), (13, 13, 0, 89)] I0 I1 ∧ dkOk I1 ∧ ((dkN [(1, 90)] r ∧ dkN [(1, 90)] (I1 12 1) ∧ (I0 12 1).toInt + 1 ≤ (90 : Int) ∧ ((I0 12 1) + 1).toInt = (I0 12 1).toInt + (1 : Int) ∧ r = (I0 12 1) + 1 ∧ I1 12 1 = (I0 12 1) + 1 ∧ True) ∨ (dkN [(90, 90)] r ∧ dkN [(90, 90)] (I1 12 1) ∧ (90 : Int) + 0 ≤ (I0 12 1).toInt ∧ r = I0 12 1 ∧ I1 12 1 = I0 12 1 ∧ True)))) 0 0 (dkA z) := by
  refine Met.ofW (cc := cX2_append) (maxL := 2) (ret := (some .int)) (by decide) rfl ?_
  intro p e s m args below meth c s₁ B hml hv
  obtain ⟨ha, hW, hK, hT⟩ := hv
  have hx := B.exec
  have hb := B.bytes
  have hr := B.returns
  have hts := atoms_spec (ws := wsX2_append) B.pre
  have hown : s.vm.findClass RX2 = some m.cls := findClass_of_methodNamed B.named
  have hlocks := B.notSynchronized
  have hS : va_S (dkA z) s.heap s.heap [] := va_S.rf
  have hF : dkF [(12, 12, 1, 1), (13, 13, 0, 89)] I0 I0 := dkF_rf _ _
  have hl := lv_entry ([.ref (z + 12), .int p0]) (n := 2) (Nat.le_of_ble_eq_true rfl)
  have hgo : entryFrame m args 2 = entryFrame m ([.ref (z + 12), .int p0] : List Value).toArray 2 := by rw [ha]
  rw [hgo, lg_entry_eq]
  generalize (lg_sl ([.ref (z + 12), .int p0]) ++ List.replicate (2 - (lg_sl ([.ref (z + 12), .int p0])).length) Slot.unset).toArray = ls at hl ⊢
  have hl : lv_has ls 2 [(0, .ref (z + 12)), (1, .int p0)] := hl
  refine lv_aload_n hx hb dX2_append_0 rfl (lv_at hl 0 rfl) ?_
  refine dk_Vi (As := []) (rest := []) ⟨hx, hb, hml, hown, hts⟩ (f_X2_isFull_1 l g z I0 hO) (cwV 0 hts gX2_append_X2_isFull rfl rfl rfl (by decide +kernel) ⟨Nat.le_of_ble_eq_true rfl, Nat.le_of_ble_eq_true rfl⟩) (dk_at12 hW) rfl hK hT hW hS rfl hl.1 rfl (Nat.le_of_ble_eq_true rfl) dX2_append_1 ⟨Nat.zero_le _, Nat.zero_le _⟩ (fun v1 I1 H1 L1 hp1 hW hS => ?_)
  obtain ⟨hF1, hO, hc1⟩ := hp1
  have hF := dkF_call hF hF1 rfl
  have eI1 : I0 = I1 := (dkF_nil hF1).symm
  subst eI1
  rcases hc1 with ⟨dv1, f1_12_1, x1_0, xr1, -⟩ | hc1
  ·
    have q2 : (I0 12 1).toInt + 1 ≤ (90 : Int) := x1_0
    have xv1 : v1 = 0 := by rw [xr1]
    refine lv_if_ne (tgt := 27) hx hb dX2_append_4 (by decide) (fun c3 => ?_) (fun c3 => ?_)
    ·
      exact (dkN_nil (show dkN [] v1 from dkN_ne1 (0) dv1 (dkN_lit (x := 0) (0) rfl) (dk_ne c3) rfl)).elim
    ·
      refine lv_aload_n hx hb dX2_append_7 rfl (lv_at hl 0 rfl) ?_
      refine dk_get (k := 12) hx hb hts iX2_append_2 hown hK (dk_at12 hW) rfl 0 (by decide) (hts (.fieldLink RX2 11 "DogKings$Reader" "tape" "[I") (List.mem_of_getElem? (i := 1) rfl)) rfl dX2_append_8 ?_
      refine lv_aload_n hx hb dX2_append_11 rfl (lv_at hl 0 rfl) ?_
      refine dk_get (k := 12) hx hb hts iX2_append_2 hown hK (dk_at12 hW) rfl 1 (by decide) (hts (.fieldLink RX2 22 "DogKings$Reader" "bytes" "I") (List.mem_of_getElem? (i := 2) rfl)) rfl dX2_append_12 ?_
      refine lv_topi (fun v4 ev4 => ?_)
      have dv4 : dkN [(0, 89)] v4 := by rw [ev4]; exact f1_12_1
      have xv4 : v4 = I0 12 1 := ev4.trans rfl
      refine lv_iload_n hx hb dX2_append_15 rfl (lv_at hl 1 rfl) ?_
      refine dk_ist (k := 13) hx hb hK hW (fun _ => rfl) (by decide) hS (dkN_in (n := 90) dv4 rfl) dX2_append_16 (fun I5 H5 L5 eI5 hW hS => ?_)
      have hO := dkO_set hO eI5 (dkN_sub dp0 rfl)
      have hF := dkF_set hF eI5 (dkIn_v dv4 rfl)
      refine lv_aload_n hx hb dX2_append_17 rfl (lv_at hl 0 rfl) ?_
      refine lv_dup hx hb dX2_append_18 rfl ?_
      refine dk_get (k := 12) hx hb hts iX2_append_2 hown hK (dk_at12 hW) rfl 1 (by decide) (hts (.fieldLink RX2 22 "DogKings$Reader" "bytes" "I") (List.mem_of_getElem? (i := 2) rfl)) rfl dX2_append_19 ?_
      refine lv_topi (fun v6 ev6 => ?_)
      have dv6 : dkN [(0, 89)] v6 := by rw [ev6]; exact (by rw [eI5, dkU_n (by decide)]; exact f1_12_1)
      have xv6 : v6 = I0 12 1 := ev6.trans ((by rw [eI5, dkU_n (by decide)] : I5 12 1 = _).trans rfl)
      refine lv_iconst (v := 1) hx hb dX2_append_22 (by decide) ?_
      refine lv_iadd hx hb dX2_append_23 ?_
      refine lv_topi (fun v7 ev7 => ?_)
      have dv7 : dkN [(1, 90)] v7 := by rw [ev7]; exact dkN_add dv6 (dkN_lit (x := 1) (1) rfl) rfl
      have xv7 : v7 = (I0 12 1) + 1 := by rw [ev7, xv6]
      have q8 : ((I0 12 1) + 1).toInt = (I0 12 1).toInt + (1 : Int) := by rw [← xv7, ← xv6]; exact (by rw [ev7]; exact dk_addE dv6 (dkN_lit (x := 1) (1) rfl) rfl)
      refine dk_put (k := 12) hx hb hts iX2_append_2 tyX2 tyX2_ok nmX2 hown hK hW (dk_at12 hW) hS rfl 1 (by decide) (hts (.fieldLink RX2 22 "DogKings$Reader" "bytes" "I") (List.mem_of_getElem? (i := 2) rfl)) rfl rfl (Nat.le_of_ble_eq_true rfl) rfl dX2_append_24 (fun I9 H9 L9 eI9 hW hS => ?_)
      have eI9 : I9 = dkU I5 12 1 v7 := eI9
      have hO := dkO_set hO eI9 (dkN_sub dv7 rfl)
      have hF := dkF_set hF eI9 rfl
      refine lv_aload_n hx hb dX2_append_27 rfl (lv_at hl 0 rfl) ?_
      refine dk_get (k := 12) hx hb hts iX2_append_2 hown hK (dk_at12 hW) rfl 1 (by decide) (hts (.fieldLink RX2 22 "DogKings$Reader" "bytes" "I") (List.mem_of_getElem? (i := 2) rfl)) rfl dX2_append_28 ?_
      refine lv_topi (fun v10 ev10 => ?_)
      have dv10 : dkN [(1, 90)] v10 := by rw [ev10]; exact (by rw [eI9, dkU_ss]; exact dv7)
      have xv10 : v10 = (I0 12 1) + 1 := ev10.trans (by rw [eI9, dkU_ss, xv7])
      exact W.iret (v := v10) hx hb hr (fun t ht hW9 => ⟨⟨v10, I9, rfl, ⟨hF, hO, Or.inl ⟨dkN_sub dv10 rfl, (show dkN [(1, 90)] (I9 12 1) from dkN_sub (by rw [eI9, dkU_ss]; exact dv7) rfl), q2, q8, xv10, (by rw [eI9, dkU_ss, xv7]), trivial⟩⟩, dkW_eq ht hW⟩, hS.F ht⟩) hS.2.2 dX2_append_31
  ·
    obtain ⟨dv1, f1_12_1, x1_0, xr1, -⟩ := hc1
    have q11 : (90 : Int) + 0 ≤ (I0 12 1).toInt := x1_0
    have xv1 : v1 = 1 := by rw [xr1]
    refine lv_if_ne (tgt := 27) hx hb dX2_append_4 (by decide) (fun c12 => ?_) (fun c12 => ?_)
    ·
      refine lv_aload_n hx hb dX2_append_27 rfl (lv_at hl 0 rfl) ?_
      refine dk_get (k := 12) hx hb hts iX2_append_2 hown hK (dk_at12 hW) rfl 1 (by decide) (hts (.fieldLink RX2 22 "DogKings$Reader" "bytes" "I") (List.mem_of_getElem? (i := 2) rfl)) rfl dX2_append_28 ?_
      refine lv_topi (fun v13 ev13 => ?_)
      have dv13 : dkN [(90, 90)] v13 := by rw [ev13]; exact f1_12_1
      have xv13 : v13 = I0 12 1 := ev13.trans rfl
      exact W.iret (v := v13) hx hb hr (fun t ht hW9 => ⟨⟨v13, I0, rfl, ⟨hF, hO, Or.inr (⟨dkN_sub dv13 rfl, (show dkN [(90, 90)] (I0 12 1) from dkN_sub f1_12_1 rfl), q11, xv13, rfl, trivial⟩)⟩, dkW_eq ht hW⟩, hS.F ht⟩) hS.2.2 dX2_append_31
    ·
      exact (dkN_nil (show dkN [] v1 from dkN_eq1 dv1 (dkN_lit (x := 0) (0) rfl) (congrArg Int32.toInt c12) rfl)).elim
set_option maxHeartbeats 4000000 in
set_option maxRecDepth 100000 in
theorem f_X5_feed_1 (l : Launch) (g : dkG) (z : Nat) (I0 : dkI) (p0 : Int32)  (hO : dkOk I0) : Met l yX5_feed wsX5_feed (dkR 2) (dkPc g z [.ref (z + 0), .int p0] I0) (dkQi g z (fun r I1 => dkF [(12, 12, 1, 1), (13, 13, 0, 89)] I0 I1 ∧ dkOk I1 ∧ ((dkN [(-1000001, -1000001)] r ∧ dkN [(-2147483648, -1)] p0 ∧ p0.toInt + 1 ≤ (0 : Int) ∧ r = (-1000001) ∧ I1 12 1 = I0 12 1 ∧ True) ∨ (dkN [(-1000001, -1000001)] r ∧ dkN [(256, 2147483647)] p0 ∧ (0 : Int) + 0 ≤ p0.toInt ∧ (255 : Int) + 1 ≤ p0.toInt ∧ r = (-1000001) ∧ I1 12 1 = I0 12 1 ∧ True) ∨ (dkN [(1, 90)] r ∧ dkN [(0, 255)] p0 ∧ dkN [(1, 90)] (I1 12 1) ∧ (0 : Int) + 0 ≤ p0.toInt ∧ p0.toInt + 0 ≤ (255 : Int) ∧ (I0 12 1).toInt + 1 ≤ (90 : Int) ∧ ((I0 12 1) + 1).toInt = (I0 12 1).toInt + (1 : Int) ∧ r = (I0 12 1) + 1 ∧ I1 12 1 = (I0 12 1) + 1 ∧ True) ∨ (dkN [(90, 90)] r ∧ dkN [(0, 255)] p0 ∧ dkN [(90, 90)] (I1 12 1) ∧ (0 : Int) + 0 ≤ p0.toInt ∧ p0.toInt + 0 ≤ (255 : Int) ∧ (I0 12 1).toInt + 1 ≤ (90 : Int) ∧ (90 : Int) + 0 ≤ (I0 12 1).toInt ∧ r = I0 12 1 ∧ I1 12 1 = I0 12 1 ∧ True) ∨ (dkN [(-1000003, -1000003)] r ∧ dkN [(0, 255)] p0 ∧ dkN [(90, 90)] (I1 12 1) ∧ (0 : Int) + 0 ≤ p0.toInt ∧ p0.toInt + 0 ≤ (255 : Int) ∧ (90 : Int) + 0 ≤ (I0 12 1).toInt ∧ r = (-1000003) ∧ I1 12 1 = I0 12 1 ∧ True)))) 0 0 (dkA z) := by
  refine Met.ofW (cc := cX5_feed) (maxL := 2) (ret := (some .int)) (by decide) rfl ?_
  intro p e s m args below meth c s₁ B hml hv
  obtain ⟨ha, hW, hK, hT⟩ := hv
  have hx := B.exec
  have hb := B.bytes
  have hr := B.returns
  have hts := atoms_spec (ws := wsX5_feed) B.pre
  have hown : s.vm.findClass RX5 = some m.cls := findClass_of_methodNamed B.named
  have hlocks := B.notSynchronized
  have hS : va_S (dkA z) s.heap s.heap [] := va_S.rf
  have hF : dkF [(12, 12, 1, 1), (13, 13, 0, 89)] I0 I0 := dkF_rf _ _
  have hl := lv_entry ([.ref (z + 0), .int p0]) (n := 2) (Nat.le_of_ble_eq_true rfl)
  have hgo : entryFrame m args 2 = entryFrame m ([.ref (z + 0), .int p0] : List Value).toArray 2 := by rw [ha]
  rw [hgo, lg_entry_eq]
  generalize (lg_sl ([.ref (z + 0), .int p0]) ++ List.replicate (2 - (lg_sl ([.ref (z + 0), .int p0])).length) Slot.unset).toArray = ls at hl ⊢
  have hl : lv_has ls 2 [(0, .ref (z + 0)), (1, .int p0)] := hl
  refine lv_iload_n hx hb dX5_feed_0 rfl (lv_at hl 1 rfl) ?_
  refine lv_sipush (v := 255) hx hb dX5_feed_1 (by decide) ?_
  refine dk_Si (As := [.int p0, .int 255]) (rest := []) ⟨hx, hb, hml, hown, hts⟩ (f_X5_isUpTo_8 l g z I0 p0 255 (dkN_lit (x := 255) (255) rfl) hO) (va_cwS 2 hts gX5_feed_X5_isUpTo rfl rfl rfl (by decide +kernel) ⟨Nat.le_of_ble_eq_true rfl, Nat.le_of_ble_eq_true rfl⟩) hK hT hW hS rfl hl.1 rfl (Nat.le_of_ble_eq_true rfl) dX5_feed_4 ⟨Nat.zero_le _, Nat.zero_le _⟩ (fun v1 I1 H1 L1 hp1 hW hS => ?_)
  obtain ⟨hF1, hO, hc1⟩ := hp1
  have hF := dkF_call hF hF1 rfl
  have eI1 : I0 = I1 := (dkF_nil hF1).symm
  subst eI1
  rcases hc1 with ⟨dv1, a1_0, x1_0, xr1, -⟩ | hc1
  ·
    have q2 : p0.toInt + 1 ≤ (0 : Int) := x1_0
    have xv1 : v1 = 0 := by rw [xr1]
    have d3 : dkN [(-2147483648, -1)] p0 := dkN_eq1 (dkN_top p0) a1_0 rfl rfl
    refine lv_if_ne (tgt := 13) hx hb dX5_feed_7 (by decide) (fun c4 => ?_) (fun c4 => ?_)
    ·
      exact (dkN_nil (show dkN [] v1 from dkN_ne1 (0) dv1 (dkN_lit (x := 0) (0) rfl) (dk_ne c4) rfl)).elim
    ·
      refine lv_ldc (v := (-1000001)) hx hb hown (hts (.constant RX5 70 (-1000001)) (List.mem_of_getElem? (i := 1) rfl)) dX5_feed_10 ?_
      exact W.iret (v := (-1000001)) hx hb hr (fun t ht hW9 => ⟨⟨(-1000001), I0, rfl, ⟨hF, hO, Or.inl ⟨dkN_sub (dkN_lit (x := (-1000001)) (-1000001) rfl) rfl, dkN_sub d3 rfl, q2, rfl, rfl, trivial⟩⟩, dkW_eq ht hW⟩, hS.F ht⟩) hS.2.2 dX5_feed_12
  rcases hc1 with ⟨dv1, a1_0, x1_0, x1_1, xr1, -⟩ | hc1
  ·
    have q5 : (0 : Int) + 0 ≤ p0.toInt := x1_0
    have q6 : (255 : Int) + 1 ≤ p0.toInt := x1_1
    have xv1 : v1 = 0 := by rw [xr1]
    have d7 : dkN [(256, 2147483647)] p0 := dkN_eq1 (dkN_top p0) a1_0 rfl rfl
    refine lv_if_ne (tgt := 13) hx hb dX5_feed_7 (by decide) (fun c8 => ?_) (fun c8 => ?_)
    ·
      exact (dkN_nil (show dkN [] v1 from dkN_ne1 (0) dv1 (dkN_lit (x := 0) (0) rfl) (dk_ne c8) rfl)).elim
    ·
      refine lv_ldc (v := (-1000001)) hx hb hown (hts (.constant RX5 70 (-1000001)) (List.mem_of_getElem? (i := 1) rfl)) dX5_feed_10 ?_
      exact W.iret (v := (-1000001)) hx hb hr (fun t ht hW9 => ⟨⟨(-1000001), I0, rfl, ⟨hF, hO, Or.inr (Or.inl ⟨dkN_sub (dkN_lit (x := (-1000001)) (-1000001) rfl) rfl, dkN_sub d7 rfl, q5, q6, rfl, rfl, trivial⟩)⟩, dkW_eq ht hW⟩, hS.F ht⟩) hS.2.2 dX5_feed_12
  ·
    obtain ⟨dv1, a1_0, x1_0, x1_1, xr1, -⟩ := hc1
    have q9 : (0 : Int) + 0 ≤ p0.toInt := x1_0
    have q10 : p0.toInt + 0 ≤ (255 : Int) := x1_1
    have xv1 : v1 = 1 := by rw [xr1]
    have d11 : dkN [(0, 255)] p0 := dkN_eq1 (dkN_top p0) a1_0 rfl rfl
    refine lv_if_ne (tgt := 13) hx hb dX5_feed_7 (by decide) (fun c12 => ?_) (fun c12 => ?_)
    ·
      refine lv_aload_n hx hb dX5_feed_13 rfl (lv_at hl 0 rfl) ?_
      refine dk_get (k := 0) hx hb hts iX5_feed_5 hown hK (dk_at0 hW) rfl 4 (by decide) (hts (.fieldLink RX5 24 "DogKings" "reader" "LDogKings$Reader;") (List.mem_of_getElem? (i := 2) rfl)) rfl dX5_feed_14 ?_
      refine dk_Vi (As := []) (rest := []) ⟨hx, hb, hml, hown, hts⟩ (f_X2_isFull_1 l g z I0 hO) (cwV 0 hts gX5_feed_X2_isFull rfl rfl rfl (by decide +kernel) ⟨Nat.le_of_ble_eq_true rfl, Nat.le_of_ble_eq_true rfl⟩) (dk_at12 hW) rfl hK hT hW hS rfl hl.1 rfl (Nat.le_of_ble_eq_true rfl) dX5_feed_17 ⟨Nat.zero_le _, Nat.zero_le _⟩ (fun v13 I13 H13 L13 hp13 hW hS => ?_)
      obtain ⟨hF13, hO, hc13⟩ := hp13
      have hF := dkF_call hF hF13 rfl
      have eI13 : I0 = I13 := (dkF_nil hF13).symm
      subst eI13
      rcases hc13 with ⟨dv13, f13_12_1, x13_0, xr13, -⟩ | hc13
      ·
        have q14 : (I0 12 1).toInt + 1 ≤ (90 : Int) := x13_0
        have xv13 : v13 = 0 := by rw [xr13]
        refine lv_if_eq (tgt := 28) hx hb dX5_feed_20 (by decide) (fun c15 => ?_) (fun c15 => ?_)
        ·
          refine lv_aload_n hx hb dX5_feed_28 rfl (lv_at hl 0 rfl) ?_
          refine dk_get (k := 0) hx hb hts iX5_feed_5 hown hK (dk_at0 hW) rfl 4 (by decide) (hts (.fieldLink RX5 24 "DogKings" "reader" "LDogKings$Reader;") (List.mem_of_getElem? (i := 2) rfl)) rfl dX5_feed_29 ?_
          refine lv_iload_n hx hb dX5_feed_32 rfl (lv_at hl 1 rfl) ?_
          refine dk_Vi (As := [.int p0]) (rest := []) ⟨hx, hb, hml, hown, hts⟩ (f_X2_append_1 l g z I0 p0 d11 hO) (cwV 1 hts gX5_feed_X2_append rfl rfl rfl (by decide +kernel) ⟨Nat.le_of_ble_eq_true rfl, Nat.le_of_ble_eq_true rfl⟩) (dk_at12 hW) rfl hK hT hW hS rfl hl.1 rfl (Nat.le_of_ble_eq_true rfl) dX5_feed_33 ⟨Nat.zero_le _, Nat.zero_le _⟩ (fun v16 I16 H16 L16 hp16 hW hS => ?_)
          obtain ⟨hF16, hO, hc16⟩ := hp16
          have hF := dkF_call hF hF16 rfl
          rcases hc16 with ⟨dv16, f16_12_1, x16_0, x16_1, xr16, xh16_0, -⟩ | hc16
          ·
            have q17 : ((I0 12 1) + 1).toInt = (I0 12 1).toInt + (1 : Int) := x16_1
            have y18 : I16 12 1 = (I0 12 1) + 1 := by rw [xh16_0]
            have xv16 : v16 = (I0 12 1) + 1 := by rw [xr16]
            exact W.iret (v := v16) hx hb hr (fun t ht hW9 => ⟨⟨v16, I16, rfl, ⟨hF, hO, Or.inr (Or.inr (Or.inl ⟨dkN_sub dv16 rfl, dkN_sub d11 rfl, (show dkN [(1, 90)] (I16 12 1) from dkN_sub f16_12_1 rfl), q9, q10, q14, q17, xv16, y18, trivial⟩))⟩, dkW_eq ht hW⟩, hS.F ht⟩) hS.2.2 dX5_feed_36
          ·
            obtain ⟨dv16, f16_12_1, x16_0, xr16, xh16_0, -⟩ := hc16
            have q19 : (90 : Int) + 0 ≤ (I0 12 1).toInt := x16_0
            have y20 : I16 12 1 = I0 12 1 := by rw [xh16_0]
            have xv16 : v16 = I0 12 1 := by rw [xr16]
            exact W.iret (v := v16) hx hb hr (fun t ht hW9 => ⟨⟨v16, I16, rfl, ⟨hF, hO, Or.inr (Or.inr (Or.inr (Or.inl ⟨dkN_sub dv16 rfl, dkN_sub d11 rfl, (show dkN [(90, 90)] (I16 12 1) from dkN_sub f16_12_1 rfl), q9, q10, q14, q19, xv16, y20, trivial⟩)))⟩, dkW_eq ht hW⟩, hS.F ht⟩) hS.2.2 dX5_feed_36
        ·
          exact (dkN_nil (show dkN [] v13 from dkN_ne1 (0) dv13 (dkN_lit (x := 0) (0) rfl) (dk_ne c15) rfl)).elim
      ·
        obtain ⟨dv13, f13_12_1, x13_0, xr13, -⟩ := hc13
        have q21 : (90 : Int) + 0 ≤ (I0 12 1).toInt := x13_0
        have xv13 : v13 = 1 := by rw [xr13]
        refine lv_if_eq (tgt := 28) hx hb dX5_feed_20 (by decide) (fun c22 => ?_) (fun c22 => ?_)
        ·
          exact (dkN_nil (show dkN [] v13 from dkN_eq1 dv13 (dkN_lit (x := 0) (0) rfl) (congrArg Int32.toInt c22) rfl)).elim
        ·
          refine lv_ldc (v := (-1000003)) hx hb hown (hts (.constant RX5 99 (-1000003)) (List.mem_of_getElem? (i := 3) rfl)) dX5_feed_23 ?_
          refine lv_goto (tgt := 36) hx hb dX5_feed_25 (by decide) ?_
          exact W.iret (v := (-1000003)) hx hb hr (fun t ht hW9 => ⟨⟨(-1000003), I0, rfl, ⟨hF, hO, Or.inr (Or.inr (Or.inr (Or.inr (⟨dkN_sub (dkN_lit (x := (-1000003)) (-1000003) rfl) rfl, dkN_sub d11 rfl, (show dkN [(90, 90)] (I0 12 1) from dkN_sub f13_12_1 rfl), q9, q10, q21, rfl, rfl, trivial⟩))))⟩, dkW_eq ht hW⟩, hS.F ht⟩) hS.2.2 dX5_feed_36
    ·
      exact (dkN_nil (show dkN [] v1 from dkN_eq1 dv1 (dkN_lit (x := 0) (0) rfl) (congrArg Int32.toInt c12) rfl)).elim
set_option maxHeartbeats 4000000 in
set_option maxRecDepth 100000 in
theorem f_X6_in_22 (l : Launch) (g : dkG) (z : Nat) (I0 : dkI) (p0 : Int32) (p1 : Int32) (p2 : Int32) (dp1 : dkN [(0, 0)] p1) (dp2 : dkN [(255, 255)] p2)  (hO : dkOk I0) : Met l yX6_in wsX6_in (dkR 0) (dkPc g z [.int p0, .int p1, .int p2] I0) (dkQi g z (fun r I1 => dkF [] I0 I1 ∧ dkOk I1 ∧ ((dkN [(0, 0)] r ∧ dkN [(-2147483648, -1)] p0 ∧ p0.toInt + 1 ≤ p1.toInt ∧ r = 0 ∧ True) ∨ (dkN [(0, 0)] r ∧ dkN [(256, 2147483647)] p0 ∧ p1.toInt + 0 ≤ p0.toInt ∧ p2.toInt + 1 ≤ p0.toInt ∧ r = 0 ∧ True) ∨ (dkN [(1, 1)] r ∧ dkN [(0, 255)] p0 ∧ p1.toInt + 0 ≤ p0.toInt ∧ p0.toInt + 0 ≤ p2.toInt ∧ r = 1 ∧ True)))) 0 0 (dkA z) := by
  refine Met.ofW (cc := cX6_in) (maxL := 3) (ret := (some .boolean)) (by decide) rfl ?_
  intro p e s m args below meth c s₁ B hml hv
  obtain ⟨ha, hW, hK, hT⟩ := hv
  have hx := B.exec
  have hb := B.bytes
  have hr := B.returns
  have hts := atoms_spec (ws := wsX6_in) B.pre
  have hown : s.vm.findClass RX6 = some m.cls := findClass_of_methodNamed B.named
  have hlocks := B.notSynchronized
  have hS : va_S (dkA z) s.heap s.heap [] := va_S.rf
  have hF : dkF [] I0 I0 := dkF_rf _ _
  have hl := lv_entry ([.int p0, .int p1, .int p2]) (n := 3) (Nat.le_of_ble_eq_true rfl)
  have hgo : entryFrame m args 3 = entryFrame m ([.int p0, .int p1, .int p2] : List Value).toArray 3 := by rw [ha]
  rw [hgo, lg_entry_eq]
  generalize (lg_sl ([.int p0, .int p1, .int p2]) ++ List.replicate (3 - (lg_sl ([.int p0, .int p1, .int p2])).length) Slot.unset).toArray = ls at hl ⊢
  have hl : lv_has ls 3 [(0, .int p0), (1, .int p1), (2, .int p2)] := hl
  refine lv_iload_n hx hb dX6_in_0 rfl (lv_at hl 0 rfl) ?_
  refine lv_iload_n hx hb dX6_in_1 rfl (lv_at hl 1 rfl) ?_
  refine lv_icmp_lt (tgt := 14) hx hb dX6_in_2 (by decide) (fun c1 => ?_) (fun c1 => ?_)
  ·
    have q2 : p0.toInt + 1 ≤ p1.toInt := (dkc_lt c1)
    have d3 : dkN [(-2147483648, -1)] p0 := dkN_le1 1 (dkN_top p0) dp1 (dkc_lt c1) rfl
    refine lv_iconst (v := 0) hx hb dX6_in_14 (by decide) ?_
    exact W.zret (v := 0) (ty := .boolean) hx hb hr rfl (fun t ht hW9 => ⟨⟨0, I0, rfl, ⟨hF, hO, Or.inl ⟨dkN_sub (dkN_lit (x := 0) (0) rfl) rfl, dkN_sub d3 rfl, q2, rfl, trivial⟩⟩, dkW_eq ht hW⟩, hS.F ht⟩) hS.2.2 dX6_in_15
  ·
    have q4 : p1.toInt + 0 ≤ p0.toInt := (dkc_nlt c1)
    have d5 : dkN [(0, 2147483647)] p0 := dkN_le2 0 dp1 (dkN_top p0) (dkc_nlt c1) rfl
    refine lv_iload_n hx hb dX6_in_5 rfl (lv_at hl 0 rfl) ?_
    refine lv_iload_n hx hb dX6_in_6 rfl (lv_at hl 2 rfl) ?_
    refine lv_icmp_gt (tgt := 14) hx hb dX6_in_7 (by decide) (fun c6 => ?_) (fun c6 => ?_)
    ·
      have q7 : p2.toInt + 1 ≤ p0.toInt := (dkc_lt c6)
      have d8 : dkN [(256, 2147483647)] p0 := dkN_le2 1 dp2 d5 (dkc_lt c6) rfl
      refine lv_iconst (v := 0) hx hb dX6_in_14 (by decide) ?_
      exact W.zret (v := 0) (ty := .boolean) hx hb hr rfl (fun t ht hW9 => ⟨⟨0, I0, rfl, ⟨hF, hO, Or.inr (Or.inl ⟨dkN_sub (dkN_lit (x := 0) (0) rfl) rfl, dkN_sub d8 rfl, q4, q7, rfl, trivial⟩)⟩, dkW_eq ht hW⟩, hS.F ht⟩) hS.2.2 dX6_in_15
    ·
      have q9 : p0.toInt + 0 ≤ p2.toInt := (dkc_nlt c6)
      have d10 : dkN [(0, 255)] p0 := dkN_le1 0 d5 dp2 (dkc_nlt c6) rfl
      refine lv_iconst (v := 1) hx hb dX6_in_10 (by decide) ?_
      refine lv_goto (tgt := 15) hx hb dX6_in_11 (by decide) ?_
      exact W.zret (v := 1) (ty := .boolean) hx hb hr rfl (fun t ht hW9 => ⟨⟨1, I0, rfl, ⟨hF, hO, Or.inr (Or.inr (⟨dkN_sub (dkN_lit (x := 1) (1) rfl) rfl, dkN_sub d10 rfl, q4, q9, rfl, trivial⟩))⟩, dkW_eq ht hW⟩, hS.F ht⟩) hS.2.2 dX6_in_15
set_option maxHeartbeats 4000000 in
set_option maxRecDepth 100000 in
theorem f_X6_feed_1 (l : Launch) (g : dkG) (z : Nat) (I0 : dkI) (p0 : Int32)  (hO : dkOk I0) : Met l yX6_feed wsX6_feed (dkR 1) (dkPc g z [.ref (z + 340), .int p0] I0) (dkQi g z (fun r I1 => dkF [(340, 340, 6, 6), (345, 345, 0, 89)] I0 I1 ∧ dkOk I1 ∧ ((dkN [(-1000001, -1000001)] r ∧ dkN [(-2147483648, -1)] p0 ∧ p0.toInt + 1 ≤ (0 : Int) ∧ r = (-1000001) ∧ I1 340 6 = I0 340 6 ∧ True) ∨ (dkN [(-1000001, -1000001)] r ∧ dkN [(256, 2147483647)] p0 ∧ (0 : Int) + 0 ≤ p0.toInt ∧ (255 : Int) + 1 ≤ p0.toInt ∧ r = (-1000001) ∧ I1 340 6 = I0 340 6 ∧ True) ∨ (dkN [(1, 90)] r ∧ dkN [(0, 255)] p0 ∧ dkN [(1, 90)] (I1 340 6) ∧ (0 : Int) + 0 ≤ p0.toInt ∧ p0.toInt + 0 ≤ (255 : Int) ∧ (I0 340 6).toInt ≠ (90 : Int) ∧ ((I0 340 6) + 1).toInt = (I0 340 6).toInt + (1 : Int) ∧ r = (I0 340 6) + 1 ∧ I1 340 6 = (I0 340 6) + 1 ∧ True) ∨ (dkN [(-1000003, -1000003)] r ∧ dkN [(0, 255)] p0 ∧ dkN [(90, 90)] (I1 340 6) ∧ (0 : Int) + 0 ≤ p0.toInt ∧ p0.toInt + 0 ≤ (255 : Int) ∧ (I0 340 6).toInt = (90 : Int) ∧ r = (-1000003) ∧ I1 340 6 = I0 340 6 ∧ True)))) 0 0 (dkA z) := by
  refine Met.ofW (cc := cX6_feed) (maxL := 2) (ret := (some .int)) (by decide) rfl ?_
  intro p e s m args below meth c s₁ B hml hv
  obtain ⟨ha, hW, hK, hT⟩ := hv
  have hx := B.exec
  have hb := B.bytes
  have hr := B.returns
  have hts := atoms_spec (ws := wsX6_feed) B.pre
  have hown : s.vm.findClass RX6 = some m.cls := findClass_of_methodNamed B.named
  have hlocks := B.notSynchronized
  have hS : va_S (dkA z) s.heap s.heap [] := va_S.rf
  have hF : dkF [(340, 340, 6, 6), (345, 345, 0, 89)] I0 I0 := dkF_rf _ _
  have hl := lv_entry ([.ref (z + 340), .int p0]) (n := 2) (Nat.le_of_ble_eq_true rfl)
  have hgo : entryFrame m args 2 = entryFrame m ([.ref (z + 340), .int p0] : List Value).toArray 2 := by rw [ha]
  rw [hgo, lg_entry_eq]
  generalize (lg_sl ([.ref (z + 340), .int p0]) ++ List.replicate (2 - (lg_sl ([.ref (z + 340), .int p0])).length) Slot.unset).toArray = ls at hl ⊢
  have hl : lv_has ls 2 [(0, .ref (z + 340)), (1, .int p0)] := hl
  refine lv_iload_n hx hb dX6_feed_0 rfl (lv_at hl 1 rfl) ?_
  refine lv_iconst (v := 0) hx hb dX6_feed_1 (by decide) ?_
  refine lv_sipush (v := 255) hx hb dX6_feed_2 (by decide) ?_
  refine dk_Si (As := [.int p0, .int 0, .int 255]) (rest := []) ⟨hx, hb, hml, hown, hts⟩ (f_X6_in_22 l g z I0 p0 0 255 (dkN_lit (x := 0) (0) rfl) (dkN_lit (x := 255) (255) rfl) hO) (va_cwS 3 hts gX6_feed_X6_in rfl rfl rfl (by decide +kernel) ⟨Nat.le_of_ble_eq_true rfl, Nat.le_of_ble_eq_true rfl⟩) hK hT hW hS rfl hl.1 rfl (Nat.le_of_ble_eq_true rfl) dX6_feed_5 ⟨Nat.zero_le _, Nat.zero_le _⟩ (fun v1 I1 H1 L1 hp1 hW hS => ?_)
  obtain ⟨hF1, hO, hc1⟩ := hp1
  have hF := dkF_call hF hF1 rfl
  have eI1 : I0 = I1 := (dkF_nil hF1).symm
  subst eI1
  rcases hc1 with ⟨dv1, a1_0, x1_0, xr1, -⟩ | hc1
  ·
    have q2 : p0.toInt + 1 ≤ (0 : Int) := x1_0
    have xv1 : v1 = 0 := by rw [xr1]
    have d3 : dkN [(-2147483648, -1)] p0 := dkN_eq1 (dkN_top p0) a1_0 rfl rfl
    refine lv_if_ne (tgt := 14) hx hb dX6_feed_8 (by decide) (fun c4 => ?_) (fun c4 => ?_)
    ·
      exact (dkN_nil (show dkN [] v1 from dkN_ne1 (0) dv1 (dkN_lit (x := 0) (0) rfl) (dk_ne c4) rfl)).elim
    ·
      refine lv_ldc (v := (-1000001)) hx hb hown (hts (.constant RX6 64 (-1000001)) (List.mem_of_getElem? (i := 1) rfl)) dX6_feed_11 ?_
      exact W.iret (v := (-1000001)) hx hb hr (fun t ht hW9 => ⟨⟨(-1000001), I0, rfl, ⟨hF, hO, Or.inl ⟨dkN_sub (dkN_lit (x := (-1000001)) (-1000001) rfl) rfl, dkN_sub d3 rfl, q2, rfl, rfl, trivial⟩⟩, dkW_eq ht hW⟩, hS.F ht⟩) hS.2.2 dX6_feed_13
  rcases hc1 with ⟨dv1, a1_0, x1_0, x1_1, xr1, -⟩ | hc1
  ·
    have q5 : (0 : Int) + 0 ≤ p0.toInt := x1_0
    have q6 : (255 : Int) + 1 ≤ p0.toInt := x1_1
    have xv1 : v1 = 0 := by rw [xr1]
    have d7 : dkN [(256, 2147483647)] p0 := dkN_eq1 (dkN_top p0) a1_0 rfl rfl
    refine lv_if_ne (tgt := 14) hx hb dX6_feed_8 (by decide) (fun c8 => ?_) (fun c8 => ?_)
    ·
      exact (dkN_nil (show dkN [] v1 from dkN_ne1 (0) dv1 (dkN_lit (x := 0) (0) rfl) (dk_ne c8) rfl)).elim
    ·
      refine lv_ldc (v := (-1000001)) hx hb hown (hts (.constant RX6 64 (-1000001)) (List.mem_of_getElem? (i := 1) rfl)) dX6_feed_11 ?_
      exact W.iret (v := (-1000001)) hx hb hr (fun t ht hW9 => ⟨⟨(-1000001), I0, rfl, ⟨hF, hO, Or.inr (Or.inl ⟨dkN_sub (dkN_lit (x := (-1000001)) (-1000001) rfl) rfl, dkN_sub d7 rfl, q5, q6, rfl, rfl, trivial⟩)⟩, dkW_eq ht hW⟩, hS.F ht⟩) hS.2.2 dX6_feed_13
  ·
    obtain ⟨dv1, a1_0, x1_0, x1_1, xr1, -⟩ := hc1
    have q9 : (0 : Int) + 0 ≤ p0.toInt := x1_0
    have q10 : p0.toInt + 0 ≤ (255 : Int) := x1_1
    have xv1 : v1 = 1 := by rw [xr1]
    have d11 : dkN [(0, 255)] p0 := dkN_eq1 (dkN_top p0) a1_0 rfl rfl
    refine lv_if_ne (tgt := 14) hx hb dX6_feed_8 (by decide) (fun c12 => ?_) (fun c12 => ?_)
    ·
      refine lv_aload_n hx hb dX6_feed_14 rfl (lv_at hl 0 rfl) ?_
      refine dk_get (k := 340) hx hb hts iX6_feed_6 hown hK (dk_at340 hW) rfl 6 (by decide) (hts (.fieldLink RX6 82 "DogKingsModel" "taped" "I") (List.mem_of_getElem? (i := 2) rfl)) rfl dX6_feed_15 ?_
      refine lv_topi (fun v13 ev13 => ?_)
      have dv13 : dkN [(0, 90)] v13 := by rw [ev13]; exact (hO 340 6)
      have xv13 : v13 = I0 340 6 := ev13.trans rfl
      refine lv_bipush (v := 90) hx hb dX6_feed_18 (by decide) ?_
      refine lv_icmp_ne (tgt := 26) hx hb dX6_feed_20 (by decide) (fun c14 => ?_) (fun c14 => ?_)
      ·
        have q15 : (I0 340 6).toInt ≠ (90 : Int) := by rw [← xv13]; exact (dk_ne c14)
        have d16 : dkN [(0, 89)] v13 := dkN_ne1 (90) dv13 (dkN_lit (x := 90) (90) rfl) (dk_ne c14) rfl
        have f17 : dkN [(0, 89)] (I0 340 6) := by rw [← ev13]; exact d16
        refine lv_aload_n hx hb dX6_feed_26 rfl (lv_at hl 0 rfl) ?_
        refine dk_get (k := 340) hx hb hts iX6_feed_6 hown hK (dk_at340 hW) rfl 5 (by decide) (hts (.fieldLink RX6 22 "DogKingsModel" "tape" "[I") (List.mem_of_getElem? (i := 4) rfl)) rfl dX6_feed_27 ?_
        refine lv_aload_n hx hb dX6_feed_30 rfl (lv_at hl 0 rfl) ?_
        refine dk_get (k := 340) hx hb hts iX6_feed_6 hown hK (dk_at340 hW) rfl 6 (by decide) (hts (.fieldLink RX6 82 "DogKingsModel" "taped" "I") (List.mem_of_getElem? (i := 2) rfl)) rfl dX6_feed_31 ?_
        refine lv_topi (fun v18 ev18 => ?_)
        have dv18 : dkN [(0, 89)] v18 := by rw [ev18]; exact f17
        have xv18 : v18 = I0 340 6 := ev18.trans rfl
        refine lv_iload_n hx hb dX6_feed_34 rfl (lv_at hl 1 rfl) ?_
        refine dk_ist (k := 345) hx hb hK hW (fun _ => rfl) (by decide) hS (dkN_in (n := 90) dv18 rfl) dX6_feed_35 (fun I19 H19 L19 eI19 hW hS => ?_)
        have hO := dkO_set hO eI19 (dkN_sub d11 rfl)
        have hF := dkF_set hF eI19 (dkIn_v dv18 rfl)
        refine lv_aload_n hx hb dX6_feed_36 rfl (lv_at hl 0 rfl) ?_
        refine lv_dup hx hb dX6_feed_37 rfl ?_
        refine dk_get (k := 340) hx hb hts iX6_feed_6 hown hK (dk_at340 hW) rfl 6 (by decide) (hts (.fieldLink RX6 82 "DogKingsModel" "taped" "I") (List.mem_of_getElem? (i := 2) rfl)) rfl dX6_feed_38 ?_
        refine lv_topi (fun v20 ev20 => ?_)
        have dv20 : dkN [(0, 89)] v20 := by rw [ev20]; exact (by rw [eI19, dkU_n (by decide)]; exact f17)
        have xv20 : v20 = I0 340 6 := ev20.trans ((by rw [eI19, dkU_n (by decide)] : I19 340 6 = _).trans rfl)
        refine lv_iconst (v := 1) hx hb dX6_feed_41 (by decide) ?_
        refine lv_iadd hx hb dX6_feed_42 ?_
        refine lv_topi (fun v21 ev21 => ?_)
        have dv21 : dkN [(1, 90)] v21 := by rw [ev21]; exact dkN_add dv20 (dkN_lit (x := 1) (1) rfl) rfl
        have xv21 : v21 = (I0 340 6) + 1 := by rw [ev21, xv20]
        have q22 : ((I0 340 6) + 1).toInt = (I0 340 6).toInt + (1 : Int) := by rw [← xv21, ← xv20]; exact (by rw [ev21]; exact dk_addE dv20 (dkN_lit (x := 1) (1) rfl) rfl)
        refine dk_put (k := 340) hx hb hts iX6_feed_6 tyX6 tyX6_ok nmX6 hown hK hW (dk_at340 hW) hS rfl 6 (by decide) (hts (.fieldLink RX6 82 "DogKingsModel" "taped" "I") (List.mem_of_getElem? (i := 2) rfl)) rfl rfl (Nat.le_of_ble_eq_true rfl) rfl dX6_feed_43 (fun I23 H23 L23 eI23 hW hS => ?_)
        have eI23 : I23 = dkU I19 340 6 v21 := eI23
        have hO := dkO_set hO eI23 (dkN_sub dv21 rfl)
        have hF := dkF_set hF eI23 rfl
        refine lv_aload_n hx hb dX6_feed_46 rfl (lv_at hl 0 rfl) ?_
        refine dk_get (k := 340) hx hb hts iX6_feed_6 hown hK (dk_at340 hW) rfl 6 (by decide) (hts (.fieldLink RX6 82 "DogKingsModel" "taped" "I") (List.mem_of_getElem? (i := 2) rfl)) rfl dX6_feed_47 ?_
        refine lv_topi (fun v24 ev24 => ?_)
        have dv24 : dkN [(1, 90)] v24 := by rw [ev24]; exact (by rw [eI23, dkU_ss]; exact dv21)
        have xv24 : v24 = (I0 340 6) + 1 := ev24.trans (by rw [eI23, dkU_ss, xv21])
        exact W.iret (v := v24) hx hb hr (fun t ht hW9 => ⟨⟨v24, I23, rfl, ⟨hF, hO, Or.inr (Or.inr (Or.inl ⟨dkN_sub dv24 rfl, dkN_sub d11 rfl, (show dkN [(1, 90)] (I23 340 6) from dkN_sub (by rw [eI23, dkU_ss]; exact dv21) rfl), q9, q10, q15, q22, xv24, (by rw [eI23, dkU_ss, xv21]), trivial⟩))⟩, dkW_eq ht hW⟩, hS.F ht⟩) hS.2.2 dX6_feed_50
      ·
        have q25 : (I0 340 6).toInt = (90 : Int) := by rw [← xv13]; exact (congrArg Int32.toInt c14)
        have d26 : dkN [(90, 90)] v13 := dkN_eq1 dv13 (dkN_lit (x := 90) (90) rfl) (congrArg Int32.toInt c14) rfl
        have f27 : dkN [(90, 90)] (I0 340 6) := by rw [← ev13]; exact d26
        refine lv_ldc (v := (-1000003)) hx hb hown (hts (.constant RX6 85 (-1000003)) (List.mem_of_getElem? (i := 3) rfl)) dX6_feed_23 ?_
        exact W.iret (v := (-1000003)) hx hb hr (fun t ht hW9 => ⟨⟨(-1000003), I0, rfl, ⟨hF, hO, Or.inr (Or.inr (Or.inr (⟨dkN_sub (dkN_lit (x := (-1000003)) (-1000003) rfl) rfl, dkN_sub d11 rfl, (show dkN [(90, 90)] (I0 340 6) from dkN_sub f27 rfl), q9, q10, q25, rfl, rfl, trivial⟩)))⟩, dkW_eq ht hW⟩, hS.F ht⟩) hS.2.2 dX6_feed_25
    ·
      exact (dkN_nil (show dkN [] v1 from dkN_eq1 dv1 (dkN_lit (x := 0) (0) rfl) (congrArg Int32.toInt c12) rfl)).elim
