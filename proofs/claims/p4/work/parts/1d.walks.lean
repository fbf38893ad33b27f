set_option maxHeartbeats 4000000 in
set_option maxRecDepth 100000 in
theorem c_X5_setOfAll_0 (l : Launch) (g : dkG) (z : Nat) (I0 : dkI) (p0 : Int32) (dp0 : dkN [(1, 6)] p0)  (hO : dkOk I0) : Met l yX5_setOfAll wsX5_setOfAll (dkR 0) (dkPc g z [.int p0] I0) (dkQi g z (fun r I1 => dkF [] I0 I1 ∧ dkOk I1 ∧ ((dkN [(1, 63)] r ∧ True)))) 0 0 (dkA z) := by
  refine Met.ofW (cc := cX5_setOfAll) (maxL := 1) (ret := (some .int)) (by decide) rfl ?_
  intro p e s m args below meth c s₁ B hml hv
  obtain ⟨ha, hW, hK, hT⟩ := hv
  have hx := B.exec
  have hb := B.bytes
  have hr := B.returns
  have hts := atoms_spec (ws := wsX5_setOfAll) B.pre
  have hown : s.vm.findClass RX5 = some m.cls := findClass_of_methodNamed B.named
  have hlocks := B.notSynchronized
  have hS : va_S (dkA z) s.heap s.heap [] := va_S.rf
  have hF : dkF [] I0 I0 := dkF_rf _ _
  have hl := lv_entry ([.int p0]) (n := 1) (Nat.le_of_ble_eq_true rfl)
  have hgo : entryFrame m args 1 = entryFrame m ([.int p0] : List Value).toArray 1 := by rw [ha]
  rw [hgo, lg_entry_eq]
  generalize (lg_sl ([.int p0]) ++ List.replicate (1 - (lg_sl ([.int p0])).length) Slot.unset).toArray = ls at hl ⊢
  have hl : lv_has ls 1 [(0, .int p0)] := hl
  refine lv_iconst (v := 1) hx hb dX5_setOfAll_0 (by decide) ?_
  refine lv_iload_n hx hb dX5_setOfAll_1 rfl (lv_at hl 0 rfl) ?_
  refine lv_ishl hx hb dX5_setOfAll_2 ?_
  refine lv_topi (fun v1 ev1 => ?_)
  have dv1 : dkN [(2, 64)] v1 := by rw [ev1]; exact dkN_shl1 1 6 (by decide) dp0 rfl
  refine lv_iconst (v := 1) hx hb dX5_setOfAll_3 (by decide) ?_
  refine lv_isub hx hb dX5_setOfAll_4 ?_
  refine lv_topi (fun v2 ev2 => ?_)
  have dv2 : dkN [(1, 63)] v2 := by rw [ev2]; exact dkN_subt dv1 (dkN_lit (x := 1) (1) rfl) rfl
  exact W.iret (v := v2) hx hb hr (fun t ht hW9 => ⟨⟨v2, I0, rfl, ⟨hF, hO, ⟨dkN_sub dv2 rfl, trivial⟩⟩, dkW_eq ht hW⟩, hS.F ht⟩) hS.2.2 dX5_setOfAll_5
set_option maxHeartbeats 4000000 in
set_option maxRecDepth 100000 in
theorem c_X4_kennel_0 (l : Launch) (g : dkG) (z : Nat) (I0 : dkI) (t0 : Nat) (ht0 : dkT t0) (p0 : Int32) (p1 : Int32) (dp0 : dkN [(1, 5)] p0) (dp1 : dkN [(0, 8)] p1)  (hO : dkOk I0) : Met l yX4_kennel wsX4_kennel (dkR 1) (dkPc g z [.ref (z + t0), .int p0, .int p1] I0) (dkQv g z (fun I1 => dkF [(t0, t0, 11, 11), (t0, t0, 15, 15), (t0 + 7, t0 + 7, 0, 5), (t0 + 8, t0 + 8, 0, 5), (t0 + 9, t0 + 9, 0, 5)] I0 I1 ∧ dkOk I1 ∧ ((dkN [(1, 6)] (I1 t0 11) ∧ True)))) 0 0 (dkA z) := by
  refine Met.ofW (cc := cX4_kennel) (maxL := 3) (ret := none) (by decide) rfl ?_
  intro p e s m args below meth c s₁ B hml hv
  obtain ⟨ha, hW, hK, hT⟩ := hv
  have hx := B.exec
  have hb := B.bytes
  have hr := B.returns
  have hts := atoms_spec (ws := wsX4_kennel) B.pre
  have hown : s.vm.findClass RX4 = some m.cls := findClass_of_methodNamed B.named
  have hlocks := B.notSynchronized
  have hS : va_S (dkA z) s.heap s.heap [] := va_S.rf
  have hF : dkF [(t0, t0, 11, 11), (t0, t0, 15, 15), (t0 + 7, t0 + 7, 0, 5), (t0 + 8, t0 + 8, 0, 5), (t0 + 9, t0 + 9, 0, 5)] I0 I0 := dkF_rf _ _
  have hl := lv_entry ([.ref (z + t0), .int p0, .int p1]) (n := 3) (Nat.le_of_ble_eq_true rfl)
  have hgo : entryFrame m args 3 = entryFrame m ([.ref (z + t0), .int p0, .int p1] : List Value).toArray 3 := by rw [ha]
  rw [hgo, lg_entry_eq]
  generalize (lg_sl ([.ref (z + t0), .int p0, .int p1]) ++ List.replicate (3 - (lg_sl ([.ref (z + t0), .int p0, .int p1])).length) Slot.unset).toArray = ls at hl ⊢
  have hl : lv_has ls 3 [(0, .ref (z + t0)), (1, .int p0), (2, .int p1)] := hl
  refine lv_aload_n hx hb dX4_kennel_0 rfl (lv_at hl 0 rfl) ?_
  refine dk_get (k := t0) hx hb hts iX4_kennel_4 hown hK (dk_aT0 ht0 hW) rfl 11 (by decide) (hts (.fieldLink RX4 58 "DogKings$Town" "dogs" "I") (List.mem_of_getElem? (i := 1) rfl)) rfl dX4_kennel_1 ?_
  refine lv_topi (fun v1 ev1 => ?_)
  have dv1 : dkN [(0, 6)] v1 := by rw [ev1]; exact (dkO_at hO ht0 (c := 0) (by decide) 11)
  refine lv_bipush (v := 6) hx hb dX4_kennel_4 (by decide) ?_
  refine lv_icmp_lt (tgt := 10) hx hb dX4_kennel_6 (by decide) (fun c2 => ?_) (fun c2 => ?_)
  ·
    have d3 : dkN [(0, 5)] v1 := dkN_le1 1 dv1 (dkN_lit (x := 6) (6) rfl) (dkc_lt c2) rfl
    have f4 : dkN [(0, 5)] (I0 t0 11) := by rw [← ev1]; exact d3
    refine lv_aload_n hx hb dX4_kennel_10 rfl (lv_at hl 0 rfl) ?_
    refine dk_get (k := t0) hx hb hts iX4_kennel_4 hown hK (dk_aT0 ht0 hW) rfl 12 (by decide) (hts (.fieldLink RX4 30 "DogKings$Town" "sort" "[I") (List.mem_of_getElem? (i := 2) rfl)) rfl dX4_kennel_11 ?_
    refine lv_aload_n hx hb dX4_kennel_14 rfl (lv_at hl 0 rfl) ?_
    refine dk_get (k := t0) hx hb hts iX4_kennel_4 hown hK (dk_aT0 ht0 hW) rfl 11 (by decide) (hts (.fieldLink RX4 58 "DogKings$Town" "dogs" "I") (List.mem_of_getElem? (i := 1) rfl)) rfl dX4_kennel_15 ?_
    refine lv_topi (fun v5 ev5 => ?_)
    have dv5 : dkN [(0, 5)] v5 := by rw [ev5]; exact f4
    refine lv_iload_n hx hb dX4_kennel_18 rfl (lv_at hl 1 rfl) ?_
    refine dk_ist (k := (t0 + 7)) hx hb hK hW (fun _ => dkC_T g z ht0 (c := 7) (by decide) _) (by have := dkT_lt ht0; omega) hS (dkN_in (n := 6) dv5 rfl) dX4_kennel_19 (fun I6 H6 L6 eI6 hW hS => ?_)
    have hO := dkO_setT hO ht0 (c := 7) (by decide) eI6 (dkN_sub dp0 rfl)
    have hF := dkF_set hF eI6 (dkIn_atv (i := 2) rfl (Nat.le_refl _) (Nat.le_refl _) dv5 rfl)
    refine lv_aload_n hx hb dX4_kennel_20 rfl (lv_at hl 0 rfl) ?_
    refine dk_get (k := t0) hx hb hts iX4_kennel_4 hown hK (dk_aT0 ht0 hW) rfl 13 (by decide) (hts (.fieldLink RX4 33 "DogKings$Town" "dogHome" "[I") (List.mem_of_getElem? (i := 3) rfl)) rfl dX4_kennel_21 ?_
    refine lv_aload_n hx hb dX4_kennel_24 rfl (lv_at hl 0 rfl) ?_
    refine dk_get (k := t0) hx hb hts iX4_kennel_4 hown hK (dk_aT0 ht0 hW) rfl 11 (by decide) (hts (.fieldLink RX4 58 "DogKings$Town" "dogs" "I") (List.mem_of_getElem? (i := 1) rfl)) rfl dX4_kennel_25 ?_
    refine lv_topi (fun v7 ev7 => ?_)
    have dv7 : dkN [(0, 5)] v7 := by rw [ev7]; exact (by rw [eI6, dkU_n (by omega)]; exact f4)
    refine lv_iload_n hx hb dX4_kennel_28 rfl (lv_at hl 2 rfl) ?_
    refine dk_ist (k := (t0 + 8)) hx hb hK hW (fun _ => dkC_T g z ht0 (c := 8) (by decide) _) (by have := dkT_lt ht0; omega) hS (dkN_in (n := 6) dv7 rfl) dX4_kennel_29 (fun I8 H8 L8 eI8 hW hS => ?_)
    have hO := dkO_setT hO ht0 (c := 8) (by decide) eI8 (dkN_sub dp1 rfl)
    have hF := dkF_set hF eI8 (dkIn_atv (i := 3) rfl (Nat.le_refl _) (Nat.le_refl _) dv7 rfl)
    refine lv_aload_n hx hb dX4_kennel_30 rfl (lv_at hl 0 rfl) ?_
    refine dk_get (k := t0) hx hb hts iX4_kennel_4 hown hK (dk_aT0 ht0 hW) rfl 14 (by decide) (hts (.fieldLink RX4 36 "DogKings$Town" "dogAt" "[I") (List.mem_of_getElem? (i := 4) rfl)) rfl dX4_kennel_31 ?_
    refine lv_aload_n hx hb dX4_kennel_34 rfl (lv_at hl 0 rfl) ?_
    refine dk_get (k := t0) hx hb hts iX4_kennel_4 hown hK (dk_aT0 ht0 hW) rfl 11 (by decide) (hts (.fieldLink RX4 58 "DogKings$Town" "dogs" "I") (List.mem_of_getElem? (i := 1) rfl)) rfl dX4_kennel_35 ?_
    refine lv_topi (fun v9 ev9 => ?_)
    have dv9 : dkN [(0, 5)] v9 := by rw [ev9]; exact (by rw [eI8, dkU_n (by omega)]; exact (by rw [eI6, dkU_n (by omega)]; exact f4))
    refine lv_iload_n hx hb dX4_kennel_38 rfl (lv_at hl 2 rfl) ?_
    refine dk_ist (k := (t0 + 9)) hx hb hK hW (fun _ => dkC_T g z ht0 (c := 9) (by decide) _) (by have := dkT_lt ht0; omega) hS (dkN_in (n := 6) dv9 rfl) dX4_kennel_39 (fun I10 H10 L10 eI10 hW hS => ?_)
    have hO := dkO_setT hO ht0 (c := 9) (by decide) eI10 (dkN_sub dp1 rfl)
    have hF := dkF_set hF eI10 (dkIn_atv (i := 4) rfl (Nat.le_refl _) (Nat.le_refl _) dv9 rfl)
    refine lv_aload_n hx hb dX4_kennel_40 rfl (lv_at hl 0 rfl) ?_
    refine lv_dup hx hb dX4_kennel_41 rfl ?_
    refine dk_get (k := t0) hx hb hts iX4_kennel_4 hown hK (dk_aT0 ht0 hW) rfl 11 (by decide) (hts (.fieldLink RX4 58 "DogKings$Town" "dogs" "I") (List.mem_of_getElem? (i := 1) rfl)) rfl dX4_kennel_42 ?_
    refine lv_topi (fun v11 ev11 => ?_)
    have dv11 : dkN [(0, 5)] v11 := by rw [ev11]; exact (by rw [eI10, dkU_n (by omega)]; exact (by rw [eI8, dkU_n (by omega)]; exact (by rw [eI6, dkU_n (by omega)]; exact f4)))
    refine lv_iconst (v := 1) hx hb dX4_kennel_45 (by decide) ?_
    refine lv_iadd hx hb dX4_kennel_46 ?_
    refine lv_topi (fun v12 ev12 => ?_)
    have dv12 : dkN [(1, 6)] v12 := by rw [ev12]; exact dkN_add dv11 (dkN_lit (x := 1) (1) rfl) rfl
    refine dk_put (k := t0) hx hb hts iX4_kennel_4 tyX4 tyX4_ok nmX4 hown hK hW (dk_aT0 ht0 hW) hS rfl 11 (by decide) (hts (.fieldLink RX4 58 "DogKings$Town" "dogs" "I") (List.mem_of_getElem? (i := 1) rfl)) rfl rfl (Nat.le_of_ble_eq_true rfl) (dk_eT11 ht0) dX4_kennel_47 (fun I13 H13 L13 eI13 hW hS => ?_)
    have eI13 : I13 = dkU I10 t0 11 v12 := eI13
    have hO := dkO_setT hO ht0 (c := 0) (by decide) eI13 (dkN_sub dv12 rfl)
    have hF := dkF_set hF eI13 (dkIn_at (i := 0) rfl (Nat.le_refl _) (Nat.le_refl _) (by decide) (by decide))
    refine lv_aload_n hx hb dX4_kennel_50 rfl (lv_at hl 0 rfl) ?_
    refine lv_aload_n hx hb dX4_kennel_51 rfl (lv_at hl 0 rfl) ?_
    refine dk_get (k := t0) hx hb hts iX4_kennel_4 hown hK (dk_aT0 ht0 hW) rfl 11 (by decide) (hts (.fieldLink RX4 58 "DogKings$Town" "dogs" "I") (List.mem_of_getElem? (i := 1) rfl)) rfl dX4_kennel_52 ?_
    refine lv_topi (fun v14 ev14 => ?_)
    have dv14 : dkN [(1, 6)] v14 := by rw [ev14]; exact (by rw [eI13, dkU_ss]; exact dv12)
    refine dk_SiN (As := [.int v14]) (rest := [.ref (z + t0)]) ⟨hx, hb, hml, hown, hts⟩ (c_X5_setOfAll_0 l g z I13 v14 dv14 hO) ⟨va_cnB 1 hts gX4_kennel_X5_setOfAll_n70 rfl rfl rfl (hK.2.1 (RX4, 70, yX5_setOfAll) (by decide)) (hts (.initialized RX5) (List.mem_of_getElem? (i := 7) rfl)) (by decide +kernel) ⟨Nat.le_of_ble_eq_true rfl, Nat.le_of_ble_eq_true rfl⟩, (hts (.static yX5_setOfAll) (List.mem_of_getElem? (i := 6) rfl)), trivial⟩ hK hT hW hS rfl hl.1 rfl (Nat.le_of_ble_eq_true rfl) dX4_kennel_55 ⟨Nat.zero_le _, Nat.zero_le _⟩ (fun v15 I15 H15 L15 hp15 hW hS => ?_)
    obtain ⟨hF15, hO, hc15⟩ := hp15
    have hF := dkF_callP hF hF15 dkSub_nil
    obtain ⟨dv15, -⟩ := hc15
    refine dk_put (k := t0) hx hb hts iX4_kennel_4 tyX4 tyX4_ok nmX4 hown hK hW (dk_aT0 ht0 hW) hS rfl 15 (by decide) (hts (.fieldLink RX4 61 "DogKings$Town" "dogsThere" "I") (List.mem_of_getElem? (i := 5) rfl)) rfl rfl (Nat.le_of_ble_eq_true rfl) (dk_eT15 ht0) dX4_kennel_58 (fun I16 H16 L16 eI16 hW hS => ?_)
    have eI16 : I16 = dkU I15 t0 15 v15 := eI16
    have hO := dkO_setT hO ht0 (c := 0) (by decide) eI16 (dkN_sub dv15 rfl)
    have hF := dkF_set hF eI16 (dkIn_at (i := 1) rfl (Nat.le_refl _) (Nat.le_refl _) (by decide) (by decide))
    exact W.vret hx hb hr (fun t ht hW9 => ⟨⟨I16, rfl, ⟨hF, hO, ⟨(show dkN [(1, 6)] (I16 t0 11) from dkN_sub (by rw [eI16, dkU_sn (by decide)]; exact (by rw [hF15 t0 11 dkNin_nil]; exact (by rw [eI13, dkU_ss]; exact dv12))) rfl), trivial⟩⟩, dkW_eq ht hW⟩, hS.F ht⟩) hS.2.2 dX4_kennel_61
  ·
    have d17 : dkN [(6, 6)] v1 := dkN_le2 0 (dkN_lit (x := 6) (6) rfl) dv1 (dkc_nlt c2) rfl
    have f18 : dkN [(6, 6)] (I0 t0 11) := by rw [← ev1]; exact d17
    exact W.vret hx hb hr (fun t ht hW9 => ⟨⟨I0, rfl, ⟨hF, hO, ⟨(show dkN [(1, 6)] (I0 t0 11) from dkN_sub f18 rfl), trivial⟩⟩, dkW_eq ht hW⟩, hS.F ht⟩) hS.2.2 dX4_kennel_9
set_option maxHeartbeats 4000000 in
set_option maxRecDepth 100000 in
theorem c_X2_readsDogs_0 (l : Launch) (g : dkG) (z : Nat) (I0 : dkI)  (hO : dkOk I0) : Met l yX2_readsDogs wsX2_readsDogs (dkR 2) (dkPc g z [.ref (z + 12)] I0) (dkQi g z (fun r I1 => dkF [(12, 12, 2, 2), (12, 12, 4, 5), (14, 14, 11, 11), (14, 14, 15, 15), (21, 21, 0, 5), (22, 22, 0, 5), (23, 23, 0, 5)] I0 I1 ∧ dkOk I1 ∧ ((dkN [(0, 0)] r ∧ dkN [(1, 90)] (I1 12 1) ∧ dkN [(0, 90)] (I1 12 4) ∧ dkN [(1, 3)] (I1 12 5) ∧ True) ∨ (dkN [(1, 1)] r ∧ True)))) 0 0 (dkA z) := by
  refine Met.ofW (cc := cX2_readsDogs) (maxL := 4) (ret := (some .boolean)) (by decide) rfl ?_
  intro p e s m args below meth c s₁ B hml hv
  obtain ⟨ha, hW, hK, hT⟩ := hv
  have hx := B.exec
  have hb := B.bytes
  have hr := B.returns
  have hts := atoms_spec (ws := wsX2_readsDogs) B.pre
  have hown : s.vm.findClass RX2 = some m.cls := findClass_of_methodNamed B.named
  have hlocks := B.notSynchronized
  have hS : va_S (dkA z) s.heap s.heap [] := va_S.rf
  have hF : dkF [(12, 12, 2, 2), (12, 12, 4, 5), (14, 14, 11, 11), (14, 14, 15, 15), (21, 21, 0, 5), (22, 22, 0, 5), (23, 23, 0, 5)] I0 I0 := dkF_rf _ _
  have hl := lv_entry ([.ref (z + 12)]) (n := 4) (Nat.le_of_ble_eq_true rfl)
  have hgo : entryFrame m args 4 = entryFrame m ([.ref (z + 12)] : List Value).toArray 4 := by rw [ha]
  rw [hgo, lg_entry_eq]
  generalize (lg_sl ([.ref (z + 12)]) ++ List.replicate (4 - (lg_sl ([.ref (z + 12)])).length) Slot.unset).toArray = ls at hl ⊢
  have hl : lv_has ls 4 [(0, .ref (z + 12))] := hl
  have C2 : ∀ (n : Nat), ∀ (I : dkI) (H : Heap) (locs : List Loc) (ls : Array Slot) (x2_1 : Int32), (90 - x2_1.toInt).toNat < n → dkW g z I H → va_S (dkA z) s.heap H locs → dkF [(12, 12, 2, 2), (12, 12, 4, 5), (14, 14, 11, 11), (14, 14, 15, 15), (21, 21, 0, 5), (22, 22, 0, 5), (23, 23, 0, 5)] I0 I → dkOk I → dkN [(0, 90)] x2_1 → lv_has ls 4 [(0, .ref (z + 12)), (1, .int x2_1)] → W p l e (headSpec wsX2_readsDogs (dkR 2)).room s m args below meth c H locs 0 0 (MQ below (dkQi g z (fun r I1 => dkF [(12, 12, 2, 2), (12, 12, 4, 5), (14, 14, 11, 11), (14, 14, 15, 15), (21, 21, 0, 5), (22, 22, 0, 5), (23, 23, 0, 5)] I0 I1 ∧ dkOk I1 ∧ ((dkN [(0, 0)] r ∧ dkN [(1, 90)] (I1 12 1) ∧ dkN [(0, 90)] (I1 12 4) ∧ dkN [(1, 3)] (I1 12 5) ∧ True) ∨ (dkN [(1, 1)] r ∧ True)))) args s 0 0 (dkA z)) (F0 m 2 ls []) := by
    intro n
    induction n with
    | zero => intro I H locs ls x2_1 hn; exact absurd hn (Nat.not_lt_zero _)
    | succ n ih2 =>
      intro I2_ H locs ls x2_1 hn2 hW hS hF_2 hO k2_0 hl
      have hF := hF_2
      refine lv_iload_n hx hb dX2_readsDogs_2 rfl (lv_at hl 1 rfl) ?_
      refine lv_bipush (v := 90) hx hb dX2_readsDogs_3 (by decide) ?_
      refine lv_icmp_ge (tgt := 114) hx hb dX2_readsDogs_5 (by decide) (fun c1 => ?_) (fun c1 => ?_)
      ·
        have d2 : dkN [(90, 90)] x2_1 := dkN_le2 0 (dkN_lit (x := 90) (90) rfl) k2_0 (dkc_le c1) rfl
        refine lv_iconst (v := 1) hx hb dX2_readsDogs_114 (by decide) ?_
        exact W.zret (v := 1) (ty := .boolean) hx hb hr rfl (fun t ht hW9 => ⟨⟨1, I2_, rfl, ⟨hF, hO, Or.inr (⟨dkN_sub (dkN_lit (x := 1) (1) rfl) rfl, trivial⟩)⟩, dkW_eq ht hW⟩, hS.F ht⟩) hS.2.2 dX2_readsDogs_115
      ·
        have d3 : dkN [(0, 89)] x2_1 := dkN_le1 1 k2_0 (dkN_lit (x := 90) (90) rfl) (dkc_nle c1) rfl
        refine lv_aload_n hx hb dX2_readsDogs_8 rfl (lv_at hl 0 rfl) ?_
        refine dk_get (k := 12) hx hb hts iX2_readsDogs_2 hown hK (dk_at12 hW) rfl 2 (by decide) (hts (.fieldLink RX2 30 "DogKings$Reader" "at" "I") (List.mem_of_getElem? (i := 1) rfl)) rfl dX2_readsDogs_9 ?_
        refine lv_topi (fun v4 ev4 => ?_)
        have dv4 : dkN [(0, 90)] v4 := by rw [ev4]; exact (hO 12 2)
        refine lv_aload_n hx hb dX2_readsDogs_12 rfl (lv_at hl 0 rfl) ?_
        refine dk_get (k := 12) hx hb hts iX2_readsDogs_2 hown hK (dk_at12 hW) rfl 1 (by decide) (hts (.fieldLink RX2 22 "DogKings$Reader" "bytes" "I") (List.mem_of_getElem? (i := 2) rfl)) rfl dX2_readsDogs_13 ?_
        refine lv_topi (fun v5 ev5 => ?_)
        have dv5 : dkN [(0, 90)] v5 := by rw [ev5]; exact (hO 12 1)
        refine lv_icmp_ge (tgt := 114) hx hb dX2_readsDogs_16 (by decide) (fun c6 => ?_) (fun c6 => ?_)
        ·
          refine lv_iconst (v := 1) hx hb dX2_readsDogs_114 (by decide) ?_
          exact W.zret (v := 1) (ty := .boolean) hx hb hr rfl (fun t ht hW9 => ⟨⟨1, I2_, rfl, ⟨hF, hO, Or.inr (⟨dkN_sub (dkN_lit (x := 1) (1) rfl) rfl, trivial⟩)⟩, dkW_eq ht hW⟩, hS.F ht⟩) hS.2.2 dX2_readsDogs_115
        ·
          have d7 : dkN [(1, 90)] v5 := dkN_le2 1 dv4 dv5 (dkc_nle c6) rfl
          have f8 : dkN [(1, 90)] (I2_ 12 1) := by rw [← ev5]; exact d7
          have d9 : dkN [(0, 89)] v4 := dkN_le1 1 dv4 dv5 (dkc_nle c6) rfl
          have f10 : dkN [(0, 89)] (I2_ 12 2) := by rw [← ev4]; exact d9
          refine lv_aload_n hx hb dX2_readsDogs_19 rfl (lv_at hl 0 rfl) ?_
          refine dk_Vi (As := []) (rest := []) ⟨hx, hb, hml, hown, hts⟩ (c_X2_coming_0 l g z I2_ hO) (cwV 0 hts gX2_readsDogs_X2_coming rfl rfl rfl (by decide +kernel) ⟨Nat.le_of_ble_eq_true rfl, Nat.le_of_ble_eq_true rfl⟩) (dk_at12 hW) rfl hK hT hW hS rfl hl.1 rfl (Nat.le_of_ble_eq_true rfl) dX2_readsDogs_20 ⟨Nat.zero_le _, Nat.zero_le _⟩ (fun v11 I11 H11 L11 hp11 hW hS => ?_)
          obtain ⟨hF11, hO, hc11⟩ := hp11
          have hF := dkF_call hF hF11 rfl
          rcases hc11 with ⟨dv11, -⟩ | hc11
          ·
            refine dk_Si (As := [.int v11]) (rest := []) ⟨hx, hb, hml, hown, hts⟩ (c_X2_sortOf_0 l g z I11 v11 dv11 hO) (va_cwS 1 hts gX2_readsDogs_X2_sortOf rfl rfl rfl (by decide +kernel) ⟨Nat.le_of_ble_eq_true rfl, Nat.le_of_ble_eq_true rfl⟩) hK hT hW hS rfl hl.1 rfl (Nat.le_of_ble_eq_true rfl) dX2_readsDogs_23 ⟨Nat.zero_le _, Nat.zero_le _⟩ (fun v12 I12 H12 L12 hp12 hW hS => ?_)
            obtain ⟨hF12, hO, hc12⟩ := hp12
            have hF := dkF_call hF hF12 rfl
            obtain ⟨dv12, -⟩ := hc12
            refine lv_istore_n (lv' := [(2, .int v12), (0, .ref (z + 12)), (1, .int x2_1)]) hx hb dX2_readsDogs_26 rfl hl (by decide) rfl (fun ls hl => ?_)
            refine lv_iload_n hx hb dX2_readsDogs_27 rfl (lv_at hl 0 rfl) ?_
            refine lv_ldc (v := (-1000000)) hx hb hown (hts (.constant RX2 50 (-1000000)) (List.mem_of_getElem? (i := 3) rfl)) dX2_readsDogs_28 ?_
            refine lv_icmp_ne (tgt := 39) hx hb dX2_readsDogs_30 (by decide) (fun c13 => ?_) (fun c13 => ?_)
            ·
              exact (dkN_nil (show dkN [] v12 from dkN_ne1 (-1000000) dv12 (dkN_lit (x := (-1000000)) (-1000000) rfl) (dk_ne c13) rfl)).elim
            ·
              refine lv_aload_n hx hb dX2_readsDogs_33 rfl (lv_at hl 1 rfl) ?_
              refine lv_iconst (v := 1) hx hb dX2_readsDogs_34 (by decide) ?_
              refine dk_Vi (As := [.int 1]) (rest := []) ⟨hx, hb, hml, hown, hts⟩ (c_X2_meets_0 l g z I12 1 (dkN_lit (x := 1) (1) rfl) hO) (cwV 1 hts gX2_readsDogs_X2_meets rfl rfl rfl (by decide +kernel) ⟨Nat.le_of_ble_eq_true rfl, Nat.le_of_ble_eq_true rfl⟩) (dk_at12 hW) rfl hK hT hW hS rfl hl.1 rfl (Nat.le_of_ble_eq_true rfl) dX2_readsDogs_35 ⟨Nat.zero_le _, Nat.zero_le _⟩ (fun v14 I14 H14 L14 hp14 hW hS => ?_)
              obtain ⟨hF14, hO, hc14⟩ := hp14
              have hF := dkF_call hF hF14 rfl
              obtain ⟨dv14, f14_12_4, f14_12_5, -⟩ := hc14
              exact W.zret (v := v14) (ty := .boolean) hx hb hr (dkN_zr dv14 rfl) (fun t ht hW9 => ⟨⟨v14, I14, rfl, ⟨hF, hO, Or.inl ⟨dkN_sub dv14 rfl, (show dkN [(1, 90)] (I14 12 1) from dkN_sub (by rw [hF14 12 1 rfl]; exact (by rw [hF12 12 1 rfl]; exact (by rw [hF11 12 1 rfl]; exact f8))) rfl), (show dkN [(0, 90)] (I14 12 4) from dkN_sub f14_12_4 rfl), (show dkN [(1, 3)] (I14 12 5) from dkN_sub f14_12_5 rfl), trivial⟩⟩, dkW_eq ht hW⟩, hS.F ht⟩) hS.2.2 dX2_readsDogs_38
          ·
            obtain ⟨dv11, f11_12_1, f11_12_2, -⟩ := hc11
            refine dk_Si (As := [.int v11]) (rest := []) ⟨hx, hb, hml, hown, hts⟩ (c_X2_sortOf_1 l g z I11 v11 dv11 hO) (va_cwS 1 hts gX2_readsDogs_X2_sortOf rfl rfl rfl (by decide +kernel) ⟨Nat.le_of_ble_eq_true rfl, Nat.le_of_ble_eq_true rfl⟩) hK hT hW hS rfl hl.1 rfl (Nat.le_of_ble_eq_true rfl) dX2_readsDogs_23 ⟨Nat.zero_le _, Nat.zero_le _⟩ (fun v15 I15 H15 L15 hp15 hW hS => ?_)
            obtain ⟨hF15, hO, hc15⟩ := hp15
            have hF := dkF_call hF hF15 rfl
            obtain ⟨dv15, -⟩ := hc15
            refine lv_istore_n (lv' := [(2, .int v15), (0, .ref (z + 12)), (1, .int x2_1)]) hx hb dX2_readsDogs_26 rfl hl (by decide) rfl (fun ls hl => ?_)
            refine lv_iload_n hx hb dX2_readsDogs_27 rfl (lv_at hl 0 rfl) ?_
            refine lv_ldc (v := (-1000000)) hx hb hown (hts (.constant RX2 50 (-1000000)) (List.mem_of_getElem? (i := 3) rfl)) dX2_readsDogs_28 ?_
            refine lv_icmp_ne (tgt := 39) hx hb dX2_readsDogs_30 (by decide) (fun c16 => ?_) (fun c16 => ?_)
            ·
              have d17 : dkN [(1, 5)] v15 := dkN_ne1 (-1000000) dv15 (dkN_lit (x := (-1000000)) (-1000000) rfl) (dk_ne c16) rfl
              refine lv_aload_n hx hb dX2_readsDogs_39 rfl (lv_at hl 1 rfl) ?_
              refine dk_get (k := 12) hx hb hts iX2_readsDogs_2 hown hK (dk_at12 hW) rfl 3 (by decide) (hts (.fieldLink RX2 18 "DogKings$Reader" "draft" "LDogKings$Town;") (List.mem_of_getElem? (i := 4) rfl)) rfl dX2_readsDogs_40 ?_
              refine dk_get (k := 14) hx hb hts iX2_readsDogs_4 hown hK (dk_at14 hW) rfl 11 (by decide) (hts (.fieldLink RX2 79 "DogKings$Town" "dogs" "I") (List.mem_of_getElem? (i := 5) rfl)) rfl dX2_readsDogs_43 ?_
              refine lv_topi (fun v18 ev18 => ?_)
              have dv18 : dkN [(0, 6)] v18 := by rw [ev18]; exact (hO 14 11)
              refine lv_bipush (v := 6) hx hb dX2_readsDogs_46 (by decide) ?_
              refine lv_icmp_lt (tgt := 57) hx hb dX2_readsDogs_48 (by decide) (fun c19 => ?_) (fun c19 => ?_)
              ·
                have d20 : dkN [(0, 5)] v18 := dkN_le1 1 dv18 (dkN_lit (x := 6) (6) rfl) (dkc_lt c19) rfl
                have f21 : dkN [(0, 5)] (I15 14 11) := by rw [← ev18]; exact d20
                refine lv_aload_n hx hb dX2_readsDogs_57 rfl (lv_at hl 1 rfl) ?_
                refine lv_dup hx hb dX2_readsDogs_58 rfl ?_
                refine dk_get (k := 12) hx hb hts iX2_readsDogs_2 hown hK (dk_at12 hW) rfl 2 (by decide) (hts (.fieldLink RX2 30 "DogKings$Reader" "at" "I") (List.mem_of_getElem? (i := 1) rfl)) rfl dX2_readsDogs_59 ?_
                refine lv_topi (fun v22 ev22 => ?_)
                have dv22 : dkN [(0, 89)] v22 := by rw [ev22]; exact (by rw [hF15 12 2 rfl]; exact f11_12_2)
                refine lv_iconst (v := 1) hx hb dX2_readsDogs_62 (by decide) ?_
                refine lv_iadd hx hb dX2_readsDogs_63 ?_
                refine lv_topi (fun v23 ev23 => ?_)
                have dv23 : dkN [(1, 90)] v23 := by rw [ev23]; exact dkN_add dv22 (dkN_lit (x := 1) (1) rfl) rfl
                refine dk_put (k := 12) hx hb hts iX2_readsDogs_2 tyX2 tyX2_ok nmX2 hown hK hW (dk_at12 hW) hS rfl 2 (by decide) (hts (.fieldLink RX2 30 "DogKings$Reader" "at" "I") (List.mem_of_getElem? (i := 1) rfl)) rfl rfl (Nat.le_of_ble_eq_true rfl) rfl dX2_readsDogs_64 (fun I24 H24 L24 eI24 hW hS => ?_)
                have eI24 : I24 = dkU I15 12 2 v23 := eI24
                have hO := dkO_set hO eI24 (dkN_sub dv23 rfl)
                have hF := dkF_set hF eI24 rfl
                refine lv_aload_n hx hb dX2_readsDogs_67 rfl (lv_at hl 1 rfl) ?_
                refine lv_iconst (v := 0) hx hb dX2_readsDogs_68 (by decide) ?_
                refine lv_aload_n hx hb dX2_readsDogs_69 rfl (lv_at hl 1 rfl) ?_
                refine dk_get (k := 12) hx hb hts iX2_readsDogs_2 hown hK (dk_at12 hW) rfl 3 (by decide) (hts (.fieldLink RX2 18 "DogKings$Reader" "draft" "LDogKings$Town;") (List.mem_of_getElem? (i := 4) rfl)) rfl dX2_readsDogs_70 ?_
                refine dk_get (k := 14) hx hb hts iX2_readsDogs_4 hown hK (dk_at14 hW) rfl 0 (by decide) (hts (.fieldLink RX2 68 "DogKings$Town" "places" "I") (List.mem_of_getElem? (i := 6) rfl)) rfl dX2_readsDogs_73 ?_
                refine lv_topi (fun v25 ev25 => ?_)
                have dv25 : dkN [(0, 9)] v25 := by rw [ev25]; exact (hO 14 0)
                refine lv_iconst (v := 1) hx hb dX2_readsDogs_76 (by decide) ?_
                refine lv_isub hx hb dX2_readsDogs_77 ?_
                refine lv_topi (fun v26 ev26 => ?_)
                have dv26 : dkN [(-1, 8)] v26 := by rw [ev26]; exact dkN_subt dv25 (dkN_lit (x := 1) (1) rfl) rfl
                refine dk_Vi (As := [.int 0, .int v26]) (rest := []) ⟨hx, hb, hml, hown, hts⟩ (c_X2_number_2 l g z I24 0 v26 (dkN_lit (x := 0) (0) rfl) dv26 hO) (cwV 2 hts gX2_readsDogs_X2_number rfl rfl rfl (by decide +kernel) ⟨Nat.le_of_ble_eq_true rfl, Nat.le_of_ble_eq_true rfl⟩) (dk_at12 hW) rfl hK hT hW hS rfl hl.1 rfl (Nat.le_of_ble_eq_true rfl) dX2_readsDogs_78 ⟨Nat.zero_le _, Nat.zero_le _⟩ (fun v27 I27 H27 L27 hp27 hW hS => ?_)
                obtain ⟨hF27, hO, hc27⟩ := hp27
                have hF := dkF_call hF hF27 rfl
                rcases hc27 with ⟨dv27, f27_12_4, f27_12_5, -⟩ | hc27
                ·
                  refine lv_istore_n (lv' := [(3, .int v27), (2, .int v15), (0, .ref (z + 12)), (1, .int x2_1)]) hx hb dX2_readsDogs_81 rfl hl (by decide) rfl (fun ls hl => ?_)
                  refine lv_iload_n hx hb dX2_readsDogs_82 rfl (lv_at hl 0 rfl) ?_
                  refine lv_ldc (v := (-1000000)) hx hb hown (hts (.constant RX2 50 (-1000000)) (List.mem_of_getElem? (i := 3) rfl)) dX2_readsDogs_83 ?_
                  refine lv_icmp_eq (tgt := 97) hx hb dX2_readsDogs_85 (by decide) (fun c28 => ?_) (fun c28 => ?_)
                  ·
                    refine lv_iconst (v := 0) hx hb dX2_readsDogs_97 (by decide) ?_
                    exact W.zret (v := 0) (ty := .boolean) hx hb hr rfl (fun t ht hW9 => ⟨⟨0, I27, rfl, ⟨hF, hO, Or.inl ⟨dkN_sub (dkN_lit (x := 0) (0) rfl) rfl, (show dkN [(1, 90)] (I27 12 1) from dkN_sub (by rw [hF27 12 1 rfl]; exact (by rw [eI24, dkU_sn (by decide)]; exact (by rw [hF15 12 1 rfl]; exact f11_12_1))) rfl), (show dkN [(0, 90)] (I27 12 4) from dkN_sub f27_12_4 rfl), (show dkN [(1, 3)] (I27 12 5) from dkN_sub f27_12_5 rfl), trivial⟩⟩, dkW_eq ht hW⟩, hS.F ht⟩) hS.2.2 dX2_readsDogs_98
                  ·
                    exact (dkN_nil (show dkN [] v27 from dkN_ne1 (-1000000) dv27 (dkN_lit (x := (-1000000)) (-1000000) rfl) (dk_ne c28) rfl)).elim
                ·
                  obtain ⟨dv27, a27_1, -⟩ := hc27
                  have d29 : dkN [(0, 8)] v26 := dkN_eq1 dv26 a27_1 rfl rfl
                  refine lv_istore_n (lv' := [(3, .int v27), (2, .int v15), (0, .ref (z + 12)), (1, .int x2_1)]) hx hb dX2_readsDogs_81 rfl hl (by decide) rfl (fun ls hl => ?_)
                  refine lv_iload_n hx hb dX2_readsDogs_82 rfl (lv_at hl 0 rfl) ?_
                  refine lv_ldc (v := (-1000000)) hx hb hown (hts (.constant RX2 50 (-1000000)) (List.mem_of_getElem? (i := 3) rfl)) dX2_readsDogs_83 ?_
                  refine lv_icmp_eq (tgt := 97) hx hb dX2_readsDogs_85 (by decide) (fun c30 => ?_) (fun c30 => ?_)
                  ·
                    exact (dkN_nil (show dkN [] v27 from dkN_eq1 dv27 (dkN_lit (x := (-1000000)) (-1000000) rfl) (congrArg Int32.toInt c30) rfl)).elim
                  ·
                    refine lv_aload_n hx hb dX2_readsDogs_88 rfl (lv_at hl 2 rfl) ?_
                    refine lv_bipush (v := 59) hx hb dX2_readsDogs_89 (by decide) ?_
                    refine dk_Vi (As := [.int 59]) (rest := []) ⟨hx, hb, hml, hown, hts⟩ (c_X2_takes_2 l g z I27 59 (dkN_lit (x := 59) (59) rfl) hO) (cwV 1 hts gX2_readsDogs_X2_takes rfl rfl rfl (by decide +kernel) ⟨Nat.le_of_ble_eq_true rfl, Nat.le_of_ble_eq_true rfl⟩) (dk_at12 hW) rfl hK hT hW hS rfl hl.1 rfl (Nat.le_of_ble_eq_true rfl) dX2_readsDogs_91 ⟨Nat.zero_le _, Nat.zero_le _⟩ (fun v31 I31 H31 L31 hp31 hW hS => ?_)
                    obtain ⟨hF31, hO, hc31⟩ := hp31
                    have hF := dkF_call hF hF31 rfl
                    rcases hc31 with ⟨dv31, f31_12_4, f31_12_5, -⟩ | hc31
                    ·
                      refine lv_if_ne (tgt := 99) hx hb dX2_readsDogs_94 (by decide) (fun c32 => ?_) (fun c32 => ?_)
                      ·
                        exact (dkN_nil (show dkN [] v31 from dkN_ne1 (0) dv31 (dkN_lit (x := 0) (0) rfl) (dk_ne c32) rfl)).elim
                      ·
                        refine lv_iconst (v := 0) hx hb dX2_readsDogs_97 (by decide) ?_
                        exact W.zret (v := 0) (ty := .boolean) hx hb hr rfl (fun t ht hW9 => ⟨⟨0, I31, rfl, ⟨hF, hO, Or.inl ⟨dkN_sub (dkN_lit (x := 0) (0) rfl) rfl, (show dkN [(1, 90)] (I31 12 1) from dkN_sub (by rw [hF31 12 1 rfl]; exact (by rw [hF27 12 1 rfl]; exact (by rw [eI24, dkU_sn (by decide)]; exact (by rw [hF15 12 1 rfl]; exact f11_12_1)))) rfl), (show dkN [(0, 90)] (I31 12 4) from dkN_sub f31_12_4 rfl), (show dkN [(1, 3)] (I31 12 5) from dkN_sub f31_12_5 rfl), trivial⟩⟩, dkW_eq ht hW⟩, hS.F ht⟩) hS.2.2 dX2_readsDogs_98
                    ·
                      obtain ⟨dv31, f31_12_1, f31_12_2, -⟩ := hc31
                      refine lv_if_ne (tgt := 99) hx hb dX2_readsDogs_94 (by decide) (fun c33 => ?_) (fun c33 => ?_)
                      ·
                        refine lv_aload_n hx hb dX2_readsDogs_99 rfl (lv_at hl 2 rfl) ?_
                        refine dk_get (k := 12) hx hb hts iX2_readsDogs_2 hown hK (dk_at12 hW) rfl 3 (by decide) (hts (.fieldLink RX2 18 "DogKings$Reader" "draft" "LDogKings$Town;") (List.mem_of_getElem? (i := 4) rfl)) rfl dX2_readsDogs_100 ?_
                        refine lv_iload_n hx hb dX2_readsDogs_103 rfl (lv_at hl 1 rfl) ?_
                        refine lv_iload_n hx hb dX2_readsDogs_104 rfl (lv_at hl 0 rfl) ?_
                        refine dk_Vv (As := [.int v15, .int v27]) (rest := []) ⟨hx, hb, hml, hown, hts⟩ (c_X4_kennel_0 l g z I31 (14) (by unfold dkT; omega) v15 v27 d17 dv27 hO) (cwV 2 hts gX2_readsDogs_X4_kennel rfl rfl rfl (by decide +kernel) ⟨Nat.le_of_ble_eq_true rfl, Nat.le_of_ble_eq_true rfl⟩) (dk_at14 hW) rfl hK hT hW hS rfl hl.1 rfl (Nat.le_of_ble_eq_true rfl) dX2_readsDogs_105 ⟨Nat.zero_le _, Nat.zero_le _⟩ (fun I34 H34 L34 hp34 hW hS => ?_)
                        obtain ⟨hF34, hO, hc34⟩ := hp34
                        have hF := dkF_call hF hF34 rfl
                        obtain ⟨f34_14_11, -⟩ := hc34
                        obtain ⟨v35, ev35⟩ : ∃ y : Int32, y = x2_1 + 1 := ⟨_, rfl⟩
                        have dv35 : dkN [(1, 90)] v35 := by rw [ev35]; exact dkN_add d3 (dkN_lit (x := 1) (1) rfl) rfl
                        refine lv_iinc (v := v35) (lv' := [(1, .int v35), (3, .int v27), (2, .int v15), (0, .ref (z + 12))]) hx hb dX2_readsDogs_108 hl (k := 3) rfl (by rw [ev35]; rfl) (by decide) rfl (fun ls hl => ?_)
                        refine lv_goto (tgt := 2) hx hb dX2_readsDogs_111 (by decide) ?_
                        exact ih2 I34 _ _ ls v35 (dk_near hn2 (by rw [ev35]; exact dk_inc d3 rfl) (dkN_lt d3 rfl)) hW hS hF hO (dkN_sub dv35 rfl) (lv_sub hl [3, 0] rfl)
                      ·
                        exact (dkN_nil (show dkN [] v31 from dkN_eq1 dv31 (dkN_lit (x := 0) (0) rfl) (congrArg Int32.toInt c33) rfl)).elim
              ·
                have d36 : dkN [(6, 6)] v18 := dkN_le2 0 (dkN_lit (x := 6) (6) rfl) dv18 (dkc_nlt c19) rfl
                have f37 : dkN [(6, 6)] (I15 14 11) := by rw [← ev18]; exact d36
                refine lv_aload_n hx hb dX2_readsDogs_51 rfl (lv_at hl 1 rfl) ?_
                refine lv_iconst (v := 3) hx hb dX2_readsDogs_52 (by decide) ?_
                refine dk_Vi (As := [.int 3]) (rest := []) ⟨hx, hb, hml, hown, hts⟩ (c_X2_meets_2 l g z I15 3 (dkN_lit (x := 3) (3) rfl) hO) (cwV 1 hts gX2_readsDogs_X2_meets rfl rfl rfl (by decide +kernel) ⟨Nat.le_of_ble_eq_true rfl, Nat.le_of_ble_eq_true rfl⟩) (dk_at12 hW) rfl hK hT hW hS rfl hl.1 rfl (Nat.le_of_ble_eq_true rfl) dX2_readsDogs_53 ⟨Nat.zero_le _, Nat.zero_le _⟩ (fun v38 I38 H38 L38 hp38 hW hS => ?_)
                obtain ⟨hF38, hO, hc38⟩ := hp38
                have hF := dkF_call hF hF38 rfl
                obtain ⟨dv38, f38_12_4, f38_12_5, -⟩ := hc38
                exact W.zret (v := v38) (ty := .boolean) hx hb hr (dkN_zr dv38 rfl) (fun t ht hW9 => ⟨⟨v38, I38, rfl, ⟨hF, hO, Or.inl ⟨dkN_sub dv38 rfl, (show dkN [(1, 90)] (I38 12 1) from dkN_sub (by rw [hF38 12 1 rfl]; exact (by rw [hF15 12 1 rfl]; exact f11_12_1)) rfl), (show dkN [(0, 90)] (I38 12 4) from dkN_sub f38_12_4 rfl), (show dkN [(1, 3)] (I38 12 5) from dkN_sub f38_12_5 rfl), trivial⟩⟩, dkW_eq ht hW⟩, hS.F ht⟩) hS.2.2 dX2_readsDogs_56
            ·
              have d39 : dkN [(-1000000, -1000000)] v15 := dkN_eq1 dv15 (dkN_lit (x := (-1000000)) (-1000000) rfl) (congrArg Int32.toInt c16) rfl
              refine lv_aload_n hx hb dX2_readsDogs_33 rfl (lv_at hl 1 rfl) ?_
              refine lv_iconst (v := 1) hx hb dX2_readsDogs_34 (by decide) ?_
              refine dk_Vi (As := [.int 1]) (rest := []) ⟨hx, hb, hml, hown, hts⟩ (c_X2_meets_0 l g z I15 1 (dkN_lit (x := 1) (1) rfl) hO) (cwV 1 hts gX2_readsDogs_X2_meets rfl rfl rfl (by decide +kernel) ⟨Nat.le_of_ble_eq_true rfl, Nat.le_of_ble_eq_true rfl⟩) (dk_at12 hW) rfl hK hT hW hS rfl hl.1 rfl (Nat.le_of_ble_eq_true rfl) dX2_readsDogs_35 ⟨Nat.zero_le _, Nat.zero_le _⟩ (fun v40 I40 H40 L40 hp40 hW hS => ?_)
              obtain ⟨hF40, hO, hc40⟩ := hp40
              have hF := dkF_call hF hF40 rfl
              obtain ⟨dv40, f40_12_4, f40_12_5, -⟩ := hc40
              exact W.zret (v := v40) (ty := .boolean) hx hb hr (dkN_zr dv40 rfl) (fun t ht hW9 => ⟨⟨v40, I40, rfl, ⟨hF, hO, Or.inl ⟨dkN_sub dv40 rfl, (show dkN [(1, 90)] (I40 12 1) from dkN_sub (by rw [hF40 12 1 rfl]; exact (by rw [hF15 12 1 rfl]; exact f11_12_1)) rfl), (show dkN [(0, 90)] (I40 12 4) from dkN_sub f40_12_4 rfl), (show dkN [(1, 3)] (I40 12 5) from dkN_sub f40_12_5 rfl), trivial⟩⟩, dkW_eq ht hW⟩, hS.F ht⟩) hS.2.2 dX2_readsDogs_38
  refine lv_iconst (v := 0) hx hb dX2_readsDogs_0 (by decide) ?_
  refine lv_istore_n (lv' := [(1, .int 0), (0, .ref (z + 12))]) hx hb dX2_readsDogs_1 rfl hl (by decide) rfl (fun ls hl => ?_)
  exact C2 _ I0 _ _ ls 0 (Nat.lt_succ_self _) hW hS hF hO (dkN_sub (dkN_lit (x := 0) (0) rfl) rfl) (lv_sub hl [1, 0] rfl)
set_option maxHeartbeats 4000000 in
set_option maxRecDepth 100000 in
theorem c_X2_reads_0 (l : Launch) (g : dkG) (z : Nat) (I0 : dkI)  (hO : dkOk I0) : Met l yX2_reads wsX2_reads (dkR 4) (dkPc g z [.ref (z + 12)] I0) (dkQi g z (fun r I1 => dkF [(12, 12, 1, 2), (12, 12, 4, 5), (14, 14, 0, 4), (14, 14, 11, 11), (14, 14, 15, 17), (15, 15, 0, 4), (16, 16, 0, 4), (17, 17, 0, 4), (18, 18, 0, 4), (19, 19, 0, 4), (20, 20, 0, 4), (21, 21, 0, 5), (22, 22, 0, 5), (23, 23, 0, 5)] I0 I1 ∧ dkOk I1 ∧ ((dkN [(0, 0)] r ∧ dkN [(0, 0)] (I1 12 1) ∧ dkN [(0, 90)] (I1 12 4) ∧ dkN [(1, 3)] (I1 12 5) ∧ True) ∨ (dkN [(1, 1)] r ∧ dkN [(0, 0)] (I1 12 1) ∧ dkN [(3, 9)] (I1 14 0) ∧ dkN [(1, 30)] (I1 14 1) ∧ dkN [(0, 0)] (I1 14 16) ∧ dkN [(0, 0)] (I1 14 17) ∧ dkN [(0, 0)] (I1 14 2) ∧ dkN [(0, 0)] (I1 14 3) ∧ dkN [(1, 5)] (I1 14 4) ∧ True)))) 0 0 (dkA z) := by
  refine Met.ofW (cc := cX2_reads) (maxL := 2) (ret := (some .boolean)) (by decide) rfl ?_
  intro p e s m args below meth c s₁ B hml hv
  obtain ⟨ha, hW, hK, hT⟩ := hv
  have hx := B.exec
  have hb := B.bytes
  have hr := B.returns
  have hts := atoms_spec (ws := wsX2_reads) B.pre
  have hown : s.vm.findClass RX2 = some m.cls := findClass_of_methodNamed B.named
  have hlocks := B.notSynchronized
  have hS : va_S (dkA z) s.heap s.heap [] := va_S.rf
  have hF : dkF [(12, 12, 1, 2), (12, 12, 4, 5), (14, 14, 0, 4), (14, 14, 11, 11), (14, 14, 15, 17), (15, 15, 0, 4), (16, 16, 0, 4), (17, 17, 0, 4), (18, 18, 0, 4), (19, 19, 0, 4), (20, 20, 0, 4), (21, 21, 0, 5), (22, 22, 0, 5), (23, 23, 0, 5)] I0 I0 := dkF_rf _ _
  have hl := lv_entry ([.ref (z + 12)]) (n := 2) (Nat.le_of_ble_eq_true rfl)
  have hgo : entryFrame m args 2 = entryFrame m ([.ref (z + 12)] : List Value).toArray 2 := by rw [ha]
  rw [hgo, lg_entry_eq]
  generalize (lg_sl ([.ref (z + 12)]) ++ List.replicate (2 - (lg_sl ([.ref (z + 12)])).length) Slot.unset).toArray = ls at hl ⊢
  have hl : lv_has ls 2 [(0, .ref (z + 12))] := hl
  have C30 : ∀ (I : dkI) (H : Heap) (locs : List Loc) (ls : Array Slot), dkW g z I H → va_S (dkA z) s.heap H locs → dkF [(12, 12, 1, 2), (12, 12, 4, 5), (14, 14, 0, 4), (14, 14, 11, 11), (14, 14, 15, 17), (15, 15, 0, 4), (16, 16, 0, 4), (17, 17, 0, 4), (18, 18, 0, 4), (19, 19, 0, 4), (20, 20, 0, 4), (21, 21, 0, 5), (22, 22, 0, 5), (23, 23, 0, 5)] I0 I → dkOk I → dkN [(0, 90)] (I 12 4) → dkN [(1, 3)] (I 12 5) → lv_has ls 2 [(0, .ref (z + 12))] → W p l e (headSpec wsX2_reads (dkR 4)).room s m args below meth c H locs 0 0 (MQ below (dkQi g z (fun r I1 => dkF [(12, 12, 1, 2), (12, 12, 4, 5), (14, 14, 0, 4), (14, 14, 11, 11), (14, 14, 15, 17), (15, 15, 0, 4), (16, 16, 0, 4), (17, 17, 0, 4), (18, 18, 0, 4), (19, 19, 0, 4), (20, 20, 0, 4), (21, 21, 0, 5), (22, 22, 0, 5), (23, 23, 0, 5)] I0 I1 ∧ dkOk I1 ∧ ((dkN [(0, 0)] r ∧ dkN [(0, 0)] (I1 12 1) ∧ dkN [(0, 90)] (I1 12 4) ∧ dkN [(1, 3)] (I1 12 5) ∧ True) ∨ (dkN [(1, 1)] r ∧ dkN [(0, 0)] (I1 12 1) ∧ dkN [(3, 9)] (I1 14 0) ∧ dkN [(1, 30)] (I1 14 1) ∧ dkN [(0, 0)] (I1 14 16) ∧ dkN [(0, 0)] (I1 14 17) ∧ dkN [(0, 0)] (I1 14 2) ∧ dkN [(0, 0)] (I1 14 3) ∧ dkN [(1, 5)] (I1 14 4) ∧ True)))) args s 0 0 (dkA z)) (F0 m 30 ls []) := by
    intro I30_ H locs ls hW hS hF_30 hO f30_0 f30_1 hl
    have hF := hF_30
    refine lv_iconst (v := 0) hx hb dX2_reads_30 (by decide) ?_
    refine lv_istore_n (lv' := [(1, .int 0), (0, .ref (z + 12))]) hx hb dX2_reads_31 rfl hl (by decide) rfl (fun ls hl => ?_)
    refine lv_aload_n hx hb dX2_reads_32 rfl (lv_at hl 1 rfl) ?_
    refine lv_iconst (v := 0) hx hb dX2_reads_33 (by decide) ?_
    refine dk_put (k := 12) hx hb hts iX2_reads_2 tyX2 tyX2_ok nmX2 hown hK hW (dk_at12 hW) hS rfl 1 (by decide) (hts (.fieldLink RX2 22 "DogKings$Reader" "bytes" "I") (List.mem_of_getElem? (i := 2) rfl)) rfl rfl (Nat.le_of_ble_eq_true rfl) rfl dX2_reads_34 (fun I1 H1 L1 eI1 hW hS => ?_)
    have eI1 : I1 = dkU I30_ 12 1 0 := eI1
    have hO := dkO_set hO eI1 (dkN_sub (dkN_lit (x := 0) (0) rfl) rfl)
    have hF := dkF_set hF eI1 rfl
    refine lv_iload_n hx hb dX2_reads_37 rfl (lv_at hl 0 rfl) ?_
    exact W.zret (v := 0) (ty := .boolean) hx hb hr rfl (fun t ht hW9 => ⟨⟨0, I1, rfl, ⟨hF, hO, Or.inl ⟨dkN_sub (dkN_lit (x := 0) (0) rfl) rfl, (show dkN [(0, 0)] (I1 12 1) from dkN_sub (by rw [eI1, dkU_ss]; exact (dkN_lit (x := 0) (0) rfl)) rfl), (show dkN [(0, 90)] (I1 12 4) from dkN_sub (by rw [eI1, dkU_sn (by decide)]; exact f30_0) rfl), (show dkN [(1, 3)] (I1 12 5) from dkN_sub (by rw [eI1, dkU_sn (by decide)]; exact f30_1) rfl), trivial⟩⟩, dkW_eq ht hW⟩, hS.F ht⟩) hS.2.2 dX2_reads_38
  refine lv_aload_n hx hb dX2_reads_0 rfl (lv_at hl 0 rfl) ?_
  refine lv_iconst (v := 0) hx hb dX2_reads_1 (by decide) ?_
  refine dk_put (k := 12) hx hb hts iX2_reads_2 tyX2 tyX2_ok nmX2 hown hK hW (dk_at12 hW) hS rfl 2 (by decide) (hts (.fieldLink RX2 30 "DogKings$Reader" "at" "I") (List.mem_of_getElem? (i := 1) rfl)) rfl rfl (Nat.le_of_ble_eq_true rfl) rfl dX2_reads_2 (fun I2 H2 L2 eI2 hW hS => ?_)
  have eI2 : I2 = dkU I0 12 2 0 := eI2
  have hO := dkO_set hO eI2 (dkN_sub (dkN_lit (x := 0) (0) rfl) rfl)
  have hF := dkF_set hF eI2 rfl
  refine lv_aload_n hx hb dX2_reads_5 rfl (lv_at hl 0 rfl) ?_
  refine dk_Vi (As := []) (rest := []) ⟨hx, hb, hml, hown, hts⟩ (c_X2_readsLaw_0 l g z I2 hO) (cwV 0 hts gX2_reads_X2_readsLaw rfl rfl rfl (by decide +kernel) ⟨Nat.le_of_ble_eq_true rfl, Nat.le_of_ble_eq_true rfl⟩) (dk_at12 hW) rfl hK hT hW hS rfl hl.1 rfl (Nat.le_of_ble_eq_true rfl) dX2_reads_6 ⟨Nat.zero_le _, Nat.zero_le _⟩ (fun v3 I3 H3 L3 hp3 hW hS => ?_)
  obtain ⟨hF3, hO, hc3⟩ := hp3
  have hF := dkF_call hF hF3 rfl
  rcases hc3 with ⟨dv3, f3_12_4, f3_12_5, -⟩ | hc3
  ·
    refine lv_if_eq (tgt := 30) hx hb dX2_reads_9 (by decide) (fun c4 => ?_) (fun c4 => ?_)
    ·
      exact C30 I3 _ _ ls  hW hS hF hO (show dkN [(0, 90)] (I3 12 4) from dkN_sub f3_12_4 rfl) (show dkN [(1, 3)] (I3 12 5) from dkN_sub f3_12_5 rfl) (lv_sub hl [0] rfl)
    ·
      exact (dkN_nil (show dkN [] v3 from dkN_ne1 (0) dv3 (dkN_lit (x := 0) (0) rfl) (dk_ne c4) rfl)).elim
  ·
    obtain ⟨dv3, f3_12_1, f3_12_2, f3_14_0, f3_14_1, f3_14_11, f3_14_15, f3_14_16, f3_14_17, f3_14_2, f3_14_3, f3_14_4, -⟩ := hc3
    refine lv_if_eq (tgt := 30) hx hb dX2_reads_9 (by decide) (fun c5 => ?_) (fun c5 => ?_)
    ·
      exact (dkN_nil (show dkN [] v3 from dkN_eq1 dv3 (dkN_lit (x := 0) (0) rfl) (congrArg Int32.toInt c5) rfl)).elim
    ·
      refine lv_aload_n hx hb dX2_reads_12 rfl (lv_at hl 0 rfl) ?_
      refine dk_Vi (As := []) (rest := []) ⟨hx, hb, hml, hown, hts⟩ (c_X2_readsPeople_0 l g z I3 hO) (cwV 0 hts gX2_reads_X2_readsPeople rfl rfl rfl (by decide +kernel) ⟨Nat.le_of_ble_eq_true rfl, Nat.le_of_ble_eq_true rfl⟩) (dk_at12 hW) rfl hK hT hW hS rfl hl.1 rfl (Nat.le_of_ble_eq_true rfl) dX2_reads_13 ⟨Nat.zero_le _, Nat.zero_le _⟩ (fun v6 I6 H6 L6 hp6 hW hS => ?_)
      obtain ⟨hF6, hO, hc6⟩ := hp6
      have hF := dkF_call hF hF6 rfl
      rcases hc6 with ⟨dv6, f6_12_4, f6_12_5, -⟩ | hc6
      ·
        refine lv_if_eq (tgt := 30) hx hb dX2_reads_16 (by decide) (fun c7 => ?_) (fun c7 => ?_)
        ·
          exact C30 I6 _ _ ls  hW hS hF hO (show dkN [(0, 90)] (I6 12 4) from dkN_sub f6_12_4 rfl) (show dkN [(1, 3)] (I6 12 5) from dkN_sub f6_12_5 rfl) (lv_sub hl [0] rfl)
        ·
          exact (dkN_nil (show dkN [] v6 from dkN_ne1 (0) dv6 (dkN_lit (x := 0) (0) rfl) (dk_ne c7) rfl)).elim
      ·
        obtain ⟨dv6, f6_12_1, f6_14_4, -⟩ := hc6
        refine lv_if_eq (tgt := 30) hx hb dX2_reads_16 (by decide) (fun c8 => ?_) (fun c8 => ?_)
        ·
          exact (dkN_nil (show dkN [] v6 from dkN_eq1 dv6 (dkN_lit (x := 0) (0) rfl) (congrArg Int32.toInt c8) rfl)).elim
        ·
          refine lv_aload_n hx hb dX2_reads_19 rfl (lv_at hl 0 rfl) ?_
          refine dk_Vi (As := []) (rest := []) ⟨hx, hb, hml, hown, hts⟩ (c_X2_readsDogs_0 l g z I6 hO) (cwV 0 hts gX2_reads_X2_readsDogs rfl rfl rfl (by decide +kernel) ⟨Nat.le_of_ble_eq_true rfl, Nat.le_of_ble_eq_true rfl⟩) (dk_at12 hW) rfl hK hT hW hS rfl hl.1 rfl (Nat.le_of_ble_eq_true rfl) dX2_reads_20 ⟨Nat.zero_le _, Nat.zero_le _⟩ (fun v9 I9 H9 L9 hp9 hW hS => ?_)
          obtain ⟨hF9, hO, hc9⟩ := hp9
          have hF := dkF_call hF hF9 rfl
          rcases hc9 with ⟨dv9, f9_12_1, f9_12_4, f9_12_5, -⟩ | hc9
          ·
            refine lv_if_eq (tgt := 30) hx hb dX2_reads_23 (by decide) (fun c10 => ?_) (fun c10 => ?_)
            ·
              exact C30 I9 _ _ ls  hW hS hF hO (show dkN [(0, 90)] (I9 12 4) from dkN_sub f9_12_4 rfl) (show dkN [(1, 3)] (I9 12 5) from dkN_sub f9_12_5 rfl) (lv_sub hl [0] rfl)
            ·
              exact (dkN_nil (show dkN [] v9 from dkN_ne1 (0) dv9 (dkN_lit (x := 0) (0) rfl) (dk_ne c10) rfl)).elim
          ·
            obtain ⟨dv9, -⟩ := hc9
            refine lv_if_eq (tgt := 30) hx hb dX2_reads_23 (by decide) (fun c11 => ?_) (fun c11 => ?_)
            ·
              exact (dkN_nil (show dkN [] v9 from dkN_eq1 dv9 (dkN_lit (x := 0) (0) rfl) (congrArg Int32.toInt c11) rfl)).elim
            ·
              refine lv_iconst (v := 1) hx hb dX2_reads_26 (by decide) ?_
              refine lv_goto (tgt := 31) hx hb dX2_reads_27 (by decide) ?_
              refine lv_istore_n (lv' := [(1, .int 1), (0, .ref (z + 12))]) hx hb dX2_reads_31 rfl hl (by decide) rfl (fun ls hl => ?_)
              refine lv_aload_n hx hb dX2_reads_32 rfl (lv_at hl 1 rfl) ?_
              refine lv_iconst (v := 0) hx hb dX2_reads_33 (by decide) ?_
              refine dk_put (k := 12) hx hb hts iX2_reads_2 tyX2 tyX2_ok nmX2 hown hK hW (dk_at12 hW) hS rfl 1 (by decide) (hts (.fieldLink RX2 22 "DogKings$Reader" "bytes" "I") (List.mem_of_getElem? (i := 2) rfl)) rfl rfl (Nat.le_of_ble_eq_true rfl) rfl dX2_reads_34 (fun I12 H12 L12 eI12 hW hS => ?_)
              have eI12 : I12 = dkU I9 12 1 0 := eI12
              have hO := dkO_set hO eI12 (dkN_sub (dkN_lit (x := 0) (0) rfl) rfl)
              have hF := dkF_set hF eI12 rfl
              refine lv_iload_n hx hb dX2_reads_37 rfl (lv_at hl 0 rfl) ?_
              exact W.zret (v := 1) (ty := .boolean) hx hb hr rfl (fun t ht hW9 => ⟨⟨1, I12, rfl, ⟨hF, hO, Or.inr (⟨dkN_sub (dkN_lit (x := 1) (1) rfl) rfl, (show dkN [(0, 0)] (I12 12 1) from dkN_sub (by rw [eI12, dkU_ss]; exact (dkN_lit (x := 0) (0) rfl)) rfl), (show dkN [(3, 9)] (I12 14 0) from dkN_sub (by rw [eI12, dkU_n (by decide)]; exact (by rw [hF9 14 0 rfl]; exact (by rw [hF6 14 0 rfl]; exact f3_14_0))) rfl), (show dkN [(1, 30)] (I12 14 1) from dkN_sub (by rw [eI12, dkU_n (by decide)]; exact (by rw [hF9 14 1 rfl]; exact (by rw [hF6 14 1 rfl]; exact f3_14_1))) rfl), (show dkN [(0, 0)] (I12 14 16) from dkN_sub (by rw [eI12, dkU_n (by decide)]; exact (by rw [hF9 14 16 rfl]; exact (by rw [hF6 14 16 rfl]; exact f3_14_16))) rfl), (show dkN [(0, 0)] (I12 14 17) from dkN_sub (by rw [eI12, dkU_n (by decide)]; exact (by rw [hF9 14 17 rfl]; exact (by rw [hF6 14 17 rfl]; exact f3_14_17))) rfl), (show dkN [(0, 0)] (I12 14 2) from dkN_sub (by rw [eI12, dkU_n (by decide)]; exact (by rw [hF9 14 2 rfl]; exact (by rw [hF6 14 2 rfl]; exact f3_14_2))) rfl), (show dkN [(0, 0)] (I12 14 3) from dkN_sub (by rw [eI12, dkU_n (by decide)]; exact (by rw [hF9 14 3 rfl]; exact (by rw [hF6 14 3 rfl]; exact f3_14_3))) rfl), (show dkN [(1, 5)] (I12 14 4) from dkN_sub (by rw [eI12, dkU_n (by decide)]; exact (by rw [hF9 14 4 rfl]; exact f6_14_4)) rfl), trivial⟩)⟩, dkW_eq ht hW⟩, hS.F ht⟩) hS.2.2 dX2_reads_38
set_option maxHeartbeats 4000000 in
set_option maxRecDepth 100000 in
theorem c_X4_become_0 (l : Launch) (g : dkG) (z : Nat) (I0 : dkI) (t0 : Nat) (ht0 : dkT t0) (t1 : Nat) (ht1 : dkT t1)  (hO : dkOk I0) : Met l yX4_become wsX4_become (dkR 0) (dkPc g z [.ref (z + t0), .ref (z + t1)] I0) (dkQv g z (fun I1 => dkF [(t0, t0, 0, 4), (t0, t0, 11, 11), (t0, t0, 15, 17), (t0 + 1, t0 + 1, 0, 4), (t0 + 2, t0 + 2, 0, 4), (t0 + 3, t0 + 3, 0, 4), (t0 + 4, t0 + 4, 0, 4), (t0 + 5, t0 + 5, 0, 4), (t0 + 6, t0 + 6, 0, 4), (t0 + 7, t0 + 7, 0, 5), (t0 + 8, t0 + 8, 0, 5), (t0 + 9, t0 + 9, 0, 5)] I0 I1 ∧ dkOk I1 ∧ ((True)))) 0 0 (dkA z) := by
  refine Met.ofW (cc := cX4_become) (maxL := 3) (ret := none) (by decide) rfl ?_
  intro p e s m args below meth c s₁ B hml hv
  obtain ⟨ha, hW, hK, hT⟩ := hv
  have hx := B.exec
  have hb := B.bytes
  have hr := B.returns
  have hts := atoms_spec (ws := wsX4_become) B.pre
  have hown : s.vm.findClass RX4 = some m.cls := findClass_of_methodNamed B.named
  have hlocks := B.notSynchronized
  have hS : va_S (dkA z) s.heap s.heap [] := va_S.rf
  have hF : dkF [(t0, t0, 0, 4), (t0, t0, 11, 11), (t0, t0, 15, 17), (t0 + 1, t0 + 1, 0, 4), (t0 + 2, t0 + 2, 0, 4), (t0 + 3, t0 + 3, 0, 4), (t0 + 4, t0 + 4, 0, 4), (t0 + 5, t0 + 5, 0, 4), (t0 + 6, t0 + 6, 0, 4), (t0 + 7, t0 + 7, 0, 5), (t0 + 8, t0 + 8, 0, 5), (t0 + 9, t0 + 9, 0, 5)] I0 I0 := dkF_rf _ _
  have hl := lv_entry ([.ref (z + t0), .ref (z + t1)]) (n := 3) (Nat.le_of_ble_eq_true rfl)
  have hgo : entryFrame m args 3 = entryFrame m ([.ref (z + t0), .ref (z + t1)] : List Value).toArray 3 := by rw [ha]
  rw [hgo, lg_entry_eq]
  generalize (lg_sl ([.ref (z + t0), .ref (z + t1)]) ++ List.replicate (3 - (lg_sl ([.ref (z + t0), .ref (z + t1)])).length) Slot.unset).toArray = ls at hl ⊢
  have hl : lv_has ls 3 [(0, .ref (z + t0)), (1, .ref (z + t1))] := hl
  have C138 : ∀ (n : Nat), ∀ (I : dkI) (H : Heap) (locs : List Loc) (ls : Array Slot) (x138_2 : Int32), (6 - x138_2.toInt).toNat < n → dkW g z I H → va_S (dkA z) s.heap H locs → dkF [(t0, t0, 0, 4), (t0, t0, 11, 11), (t0, t0, 15, 17), (t0 + 1, t0 + 1, 0, 4), (t0 + 2, t0 + 2, 0, 4), (t0 + 3, t0 + 3, 0, 4), (t0 + 4, t0 + 4, 0, 4), (t0 + 5, t0 + 5, 0, 4), (t0 + 6, t0 + 6, 0, 4), (t0 + 7, t0 + 7, 0, 5), (t0 + 8, t0 + 8, 0, 5), (t0 + 9, t0 + 9, 0, 5)] I0 I → dkOk I → dkN [(0, 6)] x138_2 → lv_has ls 3 [(0, .ref (z + t0)), (1, .ref (z + t1)), (2, .int x138_2)] → W p l e (headSpec wsX4_become (dkR 0)).room s m args below meth c H locs 0 0 (MQ below (dkQv g z (fun I1 => dkF [(t0, t0, 0, 4), (t0, t0, 11, 11), (t0, t0, 15, 17), (t0 + 1, t0 + 1, 0, 4), (t0 + 2, t0 + 2, 0, 4), (t0 + 3, t0 + 3, 0, 4), (t0 + 4, t0 + 4, 0, 4), (t0 + 5, t0 + 5, 0, 4), (t0 + 6, t0 + 6, 0, 4), (t0 + 7, t0 + 7, 0, 5), (t0 + 8, t0 + 8, 0, 5), (t0 + 9, t0 + 9, 0, 5)] I0 I1 ∧ dkOk I1 ∧ ((True)))) args s 0 0 (dkA z)) (F0 m 138 ls []) := by
    intro n
    induction n with
    | zero => intro I H locs ls x138_2 hn; exact absurd hn (Nat.not_lt_zero _)
    | succ n ih138 =>
      intro I138_ H locs ls x138_2 hn138 hW hS hF_138 hO k138_0 hl
      have hF := hF_138
      refine lv_iload_n hx hb dX4_become_138 rfl (lv_at hl 2 rfl) ?_
      refine lv_aload_n hx hb dX4_become_139 rfl (lv_at hl 0 rfl) ?_
      refine dk_get (k := t0) hx hb hts iX4_become_4 hown hK (dk_aT0 ht0 hW) rfl 11 (by decide) (hts (.fieldLink RX4 58 "DogKings$Town" "dogs" "I") (List.mem_of_getElem? (i := 12) rfl)) rfl dX4_become_140 ?_
      refine lv_topi (fun v1 ev1 => ?_)
      have dv1 : dkN [(0, 6)] v1 := by rw [ev1]; exact (dkO_at hO ht0 (c := 0) (by decide) 11)
      refine lv_icmp_ge (tgt := 188) hx hb dX4_become_143 (by decide) (fun c2 => ?_) (fun c2 => ?_)
      ·
        refine lv_aload_n hx hb dX4_become_188 rfl (lv_at hl 0 rfl) ?_
        refine lv_aload_n hx hb dX4_become_189 rfl (lv_at hl 1 rfl) ?_
        refine dk_get (k := t1) hx hb hts iX4_become_4 hown hK (dk_aT0 ht1 hW) rfl 15 (by decide) (hts (.fieldLink RX4 61 "DogKings$Town" "dogsThere" "I") (List.mem_of_getElem? (i := 16) rfl)) rfl dX4_become_190 ?_
        refine lv_topi (fun v3 ev3 => ?_)
        refine dk_put (k := t0) hx hb hts iX4_become_4 tyX4 tyX4_ok nmX4 hown hK hW (dk_aT0 ht0 hW) hS rfl 15 (by decide) (hts (.fieldLink RX4 61 "DogKings$Town" "dogsThere" "I") (List.mem_of_getElem? (i := 16) rfl)) rfl rfl (Nat.le_of_ble_eq_true rfl) (dk_eT15 ht0) dX4_become_193 (fun I4 H4 L4 eI4 hW hS => ?_)
        have eI4 : I4 = dkU I138_ t0 15 v3 := eI4
        have hO := dkO_setT hO ht0 (c := 0) (by decide) eI4 (dkN_sub (dkN_top v3) rfl)
        have hF := dkF_set hF eI4 (dkIn_at (i := 2) rfl (Nat.le_refl _) (Nat.le_refl _) (by decide) (by decide))
        refine lv_aload_n hx hb dX4_become_196 rfl (lv_at hl 0 rfl) ?_
        refine lv_aload_n hx hb dX4_become_197 rfl (lv_at hl 1 rfl) ?_
        refine dk_get (k := t1) hx hb hts iX4_become_4 hown hK (dk_aT0 ht1 hW) rfl 16 (by decide) (hts (.fieldLink RX4 64 "DogKings$Town" "dogsAsleep" "I") (List.mem_of_getElem? (i := 17) rfl)) rfl dX4_become_198 ?_
        refine lv_topi (fun v5 ev5 => ?_)
        refine dk_put (k := t0) hx hb hts iX4_become_4 tyX4 tyX4_ok nmX4 hown hK hW (dk_aT0 ht0 hW) hS rfl 16 (by decide) (hts (.fieldLink RX4 64 "DogKings$Town" "dogsAsleep" "I") (List.mem_of_getElem? (i := 17) rfl)) rfl rfl (Nat.le_of_ble_eq_true rfl) (dk_eT16 ht0) dX4_become_201 (fun I6 H6 L6 eI6 hW hS => ?_)
        have eI6 : I6 = dkU I4 t0 16 v5 := eI6
        have hO := dkO_setT hO ht0 (c := 0) (by decide) eI6 (dkN_sub (dkN_top v5) rfl)
        have hF := dkF_set hF eI6 (dkIn_at (i := 2) rfl (Nat.le_refl _) (Nat.le_refl _) (by decide) (by decide))
        refine lv_aload_n hx hb dX4_become_204 rfl (lv_at hl 0 rfl) ?_
        refine lv_aload_n hx hb dX4_become_205 rfl (lv_at hl 1 rfl) ?_
        refine dk_get (k := t1) hx hb hts iX4_become_4 hown hK (dk_aT0 ht1 hW) rfl 17 (by decide) (hts (.fieldLink RX4 67 "DogKings$Town" "cats" "I") (List.mem_of_getElem? (i := 18) rfl)) rfl dX4_become_206 ?_
        refine lv_topi (fun v7 ev7 => ?_)
        refine dk_put (k := t0) hx hb hts iX4_become_4 tyX4 tyX4_ok nmX4 hown hK hW (dk_aT0 ht0 hW) hS rfl 17 (by decide) (hts (.fieldLink RX4 67 "DogKings$Town" "cats" "I") (List.mem_of_getElem? (i := 18) rfl)) rfl rfl (Nat.le_of_ble_eq_true rfl) (dk_eT17 ht0) dX4_become_209 (fun I8 H8 L8 eI8 hW hS => ?_)
        have eI8 : I8 = dkU I6 t0 17 v7 := eI8
        have hO := dkO_setT hO ht0 (c := 0) (by decide) eI8 (dkN_sub (dkN_top v7) rfl)
        have hF := dkF_set hF eI8 (dkIn_at (i := 2) rfl (Nat.le_refl _) (Nat.le_refl _) (by decide) (by decide))
        exact W.vret hx hb hr (fun t ht hW9 => ⟨⟨I8, rfl, ⟨hF, hO, trivial⟩, dkW_eq ht hW⟩, hS.F ht⟩) hS.2.2 dX4_become_212
      ·
        have d9 : dkN [(1, 6)] v1 := dkN_le2 1 k138_0 dv1 (dkc_nle c2) rfl
        have f10 : dkN [(1, 6)] (I138_ t0 11) := by rw [← ev1]; exact d9
        have d11 : dkN [(0, 5)] x138_2 := dkN_le1 1 k138_0 dv1 (dkc_nle c2) rfl
        refine lv_aload_n hx hb dX4_become_146 rfl (lv_at hl 0 rfl) ?_
        refine dk_get (k := t0) hx hb hts iX4_become_4 hown hK (dk_aT0 ht0 hW) rfl 12 (by decide) (hts (.fieldLink RX4 30 "DogKings$Town" "sort" "[I") (List.mem_of_getElem? (i := 13) rfl)) rfl dX4_become_147 ?_
        refine lv_iload_n hx hb dX4_become_150 rfl (lv_at hl 2 rfl) ?_
        refine lv_aload_n hx hb dX4_become_151 rfl (lv_at hl 1 rfl) ?_
        refine dk_get (k := t1) hx hb hts iX4_become_4 hown hK (dk_aT0 ht1 hW) rfl 12 (by decide) (hts (.fieldLink RX4 30 "DogKings$Town" "sort" "[I") (List.mem_of_getElem? (i := 13) rfl)) rfl dX4_become_152 ?_
        refine lv_iload_n hx hb dX4_become_155 rfl (lv_at hl 2 rfl) ?_
        refine dk_ild (k := (t1 + 7)) hx hb hK (dk_aT7 ht1 hW) (dkN_in (n := 6) d11 rfl) dX4_become_156 ?_
        refine lv_topi (fun v12 ev12 => ?_)
        refine dk_ist (k := (t0 + 7)) hx hb hK hW (fun _ => dkC_T g z ht0 (c := 7) (by decide) _) (by have := dkT_lt ht0; omega) hS (dkN_in (n := 6) d11 rfl) dX4_become_157 (fun I13 H13 L13 eI13 hW hS => ?_)
        have hO := dkO_setT hO ht0 (c := 7) (by decide) eI13 (dkN_sub (dkN_top v12) rfl)
        have hF := dkF_set hF eI13 (dkIn_atv (i := 9) rfl (Nat.le_refl _) (Nat.le_refl _) d11 rfl)
        refine lv_aload_n hx hb dX4_become_158 rfl (lv_at hl 0 rfl) ?_
        refine dk_get (k := t0) hx hb hts iX4_become_4 hown hK (dk_aT0 ht0 hW) rfl 13 (by decide) (hts (.fieldLink RX4 33 "DogKings$Town" "dogHome" "[I") (List.mem_of_getElem? (i := 14) rfl)) rfl dX4_become_159 ?_
        refine lv_iload_n hx hb dX4_become_162 rfl (lv_at hl 2 rfl) ?_
        refine lv_aload_n hx hb dX4_become_163 rfl (lv_at hl 1 rfl) ?_
        refine dk_get (k := t1) hx hb hts iX4_become_4 hown hK (dk_aT0 ht1 hW) rfl 13 (by decide) (hts (.fieldLink RX4 33 "DogKings$Town" "dogHome" "[I") (List.mem_of_getElem? (i := 14) rfl)) rfl dX4_become_164 ?_
        refine lv_iload_n hx hb dX4_become_167 rfl (lv_at hl 2 rfl) ?_
        refine dk_ild (k := (t1 + 8)) hx hb hK (dk_aT8 ht1 hW) (dkN_in (n := 6) d11 rfl) dX4_become_168 ?_
        refine lv_topi (fun v14 ev14 => ?_)
        refine dk_ist (k := (t0 + 8)) hx hb hK hW (fun _ => dkC_T g z ht0 (c := 8) (by decide) _) (by have := dkT_lt ht0; omega) hS (dkN_in (n := 6) d11 rfl) dX4_become_169 (fun I15 H15 L15 eI15 hW hS => ?_)
        have hO := dkO_setT hO ht0 (c := 8) (by decide) eI15 (dkN_sub (dkN_top v14) rfl)
        have hF := dkF_set hF eI15 (dkIn_atv (i := 10) rfl (Nat.le_refl _) (Nat.le_refl _) d11 rfl)
        refine lv_aload_n hx hb dX4_become_170 rfl (lv_at hl 0 rfl) ?_
        refine dk_get (k := t0) hx hb hts iX4_become_4 hown hK (dk_aT0 ht0 hW) rfl 14 (by decide) (hts (.fieldLink RX4 36 "DogKings$Town" "dogAt" "[I") (List.mem_of_getElem? (i := 15) rfl)) rfl dX4_become_171 ?_
        refine lv_iload_n hx hb dX4_become_174 rfl (lv_at hl 2 rfl) ?_
        refine lv_aload_n hx hb dX4_become_175 rfl (lv_at hl 1 rfl) ?_
        refine dk_get (k := t1) hx hb hts iX4_become_4 hown hK (dk_aT0 ht1 hW) rfl 14 (by decide) (hts (.fieldLink RX4 36 "DogKings$Town" "dogAt" "[I") (List.mem_of_getElem? (i := 15) rfl)) rfl dX4_become_176 ?_
        refine lv_iload_n hx hb dX4_become_179 rfl (lv_at hl 2 rfl) ?_
        refine dk_ild (k := (t1 + 9)) hx hb hK (dk_aT9 ht1 hW) (dkN_in (n := 6) d11 rfl) dX4_become_180 ?_
        refine lv_topi (fun v16 ev16 => ?_)
        refine dk_ist (k := (t0 + 9)) hx hb hK hW (fun _ => dkC_T g z ht0 (c := 9) (by decide) _) (by have := dkT_lt ht0; omega) hS (dkN_in (n := 6) d11 rfl) dX4_become_181 (fun I17 H17 L17 eI17 hW hS => ?_)
        have hO := dkO_setT hO ht0 (c := 9) (by decide) eI17 (dkN_sub (dkN_top v16) rfl)
        have hF := dkF_set hF eI17 (dkIn_atv (i := 11) rfl (Nat.le_refl _) (Nat.le_refl _) d11 rfl)
        obtain ⟨v18, ev18⟩ : ∃ y : Int32, y = x138_2 + 1 := ⟨_, rfl⟩
        have dv18 : dkN [(1, 6)] v18 := by rw [ev18]; exact dkN_add d11 (dkN_lit (x := 1) (1) rfl) rfl
        refine lv_iinc (v := v18) (lv' := [(2, .int v18), (0, .ref (z + t0)), (1, .ref (z + t1))]) hx hb dX4_become_182 hl (k := 2) rfl (by rw [ev18]; rfl) (by decide) rfl (fun ls hl => ?_)
        refine lv_goto (tgt := 138) hx hb dX4_become_185 (by decide) ?_
        exact ih138 I17 _ _ ls v18 (dk_near hn138 (by rw [ev18]; exact dk_inc d11 rfl) (dkN_lt d11 rfl)) hW hS hF hO (dkN_sub dv18 rfl) (lv_sub hl [1, 2, 0] rfl)
  have C42 : ∀ (n : Nat), ∀ (I : dkI) (H : Heap) (locs : List Loc) (ls : Array Slot) (x42_2 : Int32), (5 - x42_2.toInt).toNat < n → dkW g z I H → va_S (dkA z) s.heap H locs → dkF [(t0, t0, 0, 4), (t0, t0, 11, 11), (t0, t0, 15, 17), (t0 + 1, t0 + 1, 0, 4), (t0 + 2, t0 + 2, 0, 4), (t0 + 3, t0 + 3, 0, 4), (t0 + 4, t0 + 4, 0, 4), (t0 + 5, t0 + 5, 0, 4), (t0 + 6, t0 + 6, 0, 4), (t0 + 7, t0 + 7, 0, 5), (t0 + 8, t0 + 8, 0, 5), (t0 + 9, t0 + 9, 0, 5)] I0 I → dkOk I → dkN [(0, 5)] x42_2 → lv_has ls 3 [(0, .ref (z + t0)), (1, .ref (z + t1)), (2, .int x42_2)] → W p l e (headSpec wsX4_become (dkR 0)).room s m args below meth c H locs 0 0 (MQ below (dkQv g z (fun I1 => dkF [(t0, t0, 0, 4), (t0, t0, 11, 11), (t0, t0, 15, 17), (t0 + 1, t0 + 1, 0, 4), (t0 + 2, t0 + 2, 0, 4), (t0 + 3, t0 + 3, 0, 4), (t0 + 4, t0 + 4, 0, 4), (t0 + 5, t0 + 5, 0, 4), (t0 + 6, t0 + 6, 0, 4), (t0 + 7, t0 + 7, 0, 5), (t0 + 8, t0 + 8, 0, 5), (t0 + 9, t0 + 9, 0, 5)] I0 I1 ∧ dkOk I1 ∧ ((True)))) args s 0 0 (dkA z)) (F0 m 42 ls []) := by
    intro n
    induction n with
    | zero => intro I H locs ls x42_2 hn; exact absurd hn (Nat.not_lt_zero _)
    | succ n ih42 =>
      intro I42_ H locs ls x42_2 hn42 hW hS hF_42 hO k42_0 hl
      have hF := hF_42
      refine lv_iload_n hx hb dX4_become_42 rfl (lv_at hl 2 rfl) ?_
      refine lv_aload_n hx hb dX4_become_43 rfl (lv_at hl 0 rfl) ?_
      refine dk_get (k := t0) hx hb hts iX4_become_4 hown hK (dk_aT0 ht0 hW) rfl 4 (by decide) (hts (.fieldLink RX4 55 "DogKings$Town" "people" "I") (List.mem_of_getElem? (i := 5) rfl)) rfl dX4_become_44 ?_
      refine lv_topi (fun v19 ev19 => ?_)
      have dv19 : dkN [(0, 5)] v19 := by rw [ev19]; exact (dkO_at hO ht0 (c := 0) (by decide) 4)
      refine lv_icmp_ge (tgt := 128) hx hb dX4_become_47 (by decide) (fun c20 => ?_) (fun c20 => ?_)
      ·
        refine lv_aload_n hx hb dX4_become_128 rfl (lv_at hl 0 rfl) ?_
        refine lv_aload_n hx hb dX4_become_129 rfl (lv_at hl 1 rfl) ?_
        refine dk_get (k := t1) hx hb hts iX4_become_4 hown hK (dk_aT0 ht1 hW) rfl 11 (by decide) (hts (.fieldLink RX4 58 "DogKings$Town" "dogs" "I") (List.mem_of_getElem? (i := 12) rfl)) rfl dX4_become_130 ?_
        refine lv_topi (fun v21 ev21 => ?_)
        have dv21 : dkN [(0, 6)] v21 := by rw [ev21]; exact (dkO_at hO ht1 (c := 0) (by decide) 11)
        refine dk_put (k := t0) hx hb hts iX4_become_4 tyX4 tyX4_ok nmX4 hown hK hW (dk_aT0 ht0 hW) hS rfl 11 (by decide) (hts (.fieldLink RX4 58 "DogKings$Town" "dogs" "I") (List.mem_of_getElem? (i := 12) rfl)) rfl rfl (Nat.le_of_ble_eq_true rfl) (dk_eT11 ht0) dX4_become_133 (fun I22 H22 L22 eI22 hW hS => ?_)
        have eI22 : I22 = dkU I42_ t0 11 v21 := eI22
        have hO := dkO_setT hO ht0 (c := 0) (by decide) eI22 (dkN_sub dv21 rfl)
        have hF := dkF_set hF eI22 (dkIn_at (i := 1) rfl (Nat.le_refl _) (Nat.le_refl _) (by decide) (by decide))
        refine lv_iconst (v := 0) hx hb dX4_become_136 (by decide) ?_
        refine lv_istore_n (lv' := [(2, .int 0), (0, .ref (z + t0)), (1, .ref (z + t1))]) hx hb dX4_become_137 rfl hl (by decide) rfl (fun ls hl => ?_)
        exact C138 _ I22 _ _ ls 0 (Nat.lt_succ_self _) hW hS hF hO (dkN_sub (dkN_lit (x := 0) (0) rfl) rfl) (lv_sub hl [1, 2, 0] rfl)
      ·
        have d23 : dkN [(1, 5)] v19 := dkN_le2 1 k42_0 dv19 (dkc_nle c20) rfl
        have f24 : dkN [(1, 5)] (I42_ t0 4) := by rw [← ev19]; exact d23
        have d25 : dkN [(0, 4)] x42_2 := dkN_le1 1 k42_0 dv19 (dkc_nle c20) rfl
        refine lv_aload_n hx hb dX4_become_50 rfl (lv_at hl 0 rfl) ?_
        refine dk_get (k := t0) hx hb hts iX4_become_4 hown hK (dk_aT0 ht0 hW) rfl 5 (by decide) (hts (.fieldLink RX4 9 "DogKings$Town" "personHome" "[I") (List.mem_of_getElem? (i := 6) rfl)) rfl dX4_become_51 ?_
        refine lv_iload_n hx hb dX4_become_54 rfl (lv_at hl 2 rfl) ?_
        refine lv_aload_n hx hb dX4_become_55 rfl (lv_at hl 1 rfl) ?_
        refine dk_get (k := t1) hx hb hts iX4_become_4 hown hK (dk_aT0 ht1 hW) rfl 5 (by decide) (hts (.fieldLink RX4 9 "DogKings$Town" "personHome" "[I") (List.mem_of_getElem? (i := 6) rfl)) rfl dX4_become_56 ?_
        refine lv_iload_n hx hb dX4_become_59 rfl (lv_at hl 2 rfl) ?_
        refine dk_ild (k := (t1 + 1)) hx hb hK (dk_aT1 ht1 hW) (dkN_in (n := 5) d25 rfl) dX4_become_60 ?_
        refine lv_topi (fun v26 ev26 => ?_)
        refine dk_ist (k := (t0 + 1)) hx hb hK hW (fun _ => dkC_T g z ht0 (c := 1) (by decide) _) (by have := dkT_lt ht0; omega) hS (dkN_in (n := 5) d25 rfl) dX4_become_61 (fun I27 H27 L27 eI27 hW hS => ?_)
        have hO := dkO_setT hO ht0 (c := 1) (by decide) eI27 (dkN_sub (dkN_top v26) rfl)
        have hF := dkF_set hF eI27 (dkIn_atv (i := 3) rfl (Nat.le_refl _) (Nat.le_refl _) d25 rfl)
        refine lv_aload_n hx hb dX4_become_62 rfl (lv_at hl 0 rfl) ?_
        refine dk_get (k := t0) hx hb hts iX4_become_4 hown hK (dk_aT0 ht0 hW) rfl 6 (by decide) (hts (.fieldLink RX4 15 "DogKings$Town" "smell" "[I") (List.mem_of_getElem? (i := 7) rfl)) rfl dX4_become_63 ?_
        refine lv_iload_n hx hb dX4_become_66 rfl (lv_at hl 2 rfl) ?_
        refine lv_aload_n hx hb dX4_become_67 rfl (lv_at hl 1 rfl) ?_
        refine dk_get (k := t1) hx hb hts iX4_become_4 hown hK (dk_aT0 ht1 hW) rfl 6 (by decide) (hts (.fieldLink RX4 15 "DogKings$Town" "smell" "[I") (List.mem_of_getElem? (i := 7) rfl)) rfl dX4_become_68 ?_
        refine lv_iload_n hx hb dX4_become_71 rfl (lv_at hl 2 rfl) ?_
        refine dk_ild (k := (t1 + 2)) hx hb hK (dk_aT2 ht1 hW) (dkN_in (n := 5) d25 rfl) dX4_become_72 ?_
        refine lv_topi (fun v28 ev28 => ?_)
        refine dk_ist (k := (t0 + 2)) hx hb hK hW (fun _ => dkC_T g z ht0 (c := 2) (by decide) _) (by have := dkT_lt ht0; omega) hS (dkN_in (n := 5) d25 rfl) dX4_become_73 (fun I29 H29 L29 eI29 hW hS => ?_)
        have hO := dkO_setT hO ht0 (c := 2) (by decide) eI29 (dkN_sub (dkN_top v28) rfl)
        have hF := dkF_set hF eI29 (dkIn_atv (i := 4) rfl (Nat.le_refl _) (Nat.le_refl _) d25 rfl)
        refine lv_aload_n hx hb dX4_become_74 rfl (lv_at hl 0 rfl) ?_
        refine dk_get (k := t0) hx hb hts iX4_become_4 hown hK (dk_aT0 ht0 hW) rfl 7 (by decide) (hts (.fieldLink RX4 18 "DogKings$Town" "personAt" "[I") (List.mem_of_getElem? (i := 8) rfl)) rfl dX4_become_75 ?_
        refine lv_iload_n hx hb dX4_become_78 rfl (lv_at hl 2 rfl) ?_
        refine lv_aload_n hx hb dX4_become_79 rfl (lv_at hl 1 rfl) ?_
        refine dk_get (k := t1) hx hb hts iX4_become_4 hown hK (dk_aT0 ht1 hW) rfl 7 (by decide) (hts (.fieldLink RX4 18 "DogKings$Town" "personAt" "[I") (List.mem_of_getElem? (i := 8) rfl)) rfl dX4_become_80 ?_
        refine lv_iload_n hx hb dX4_become_83 rfl (lv_at hl 2 rfl) ?_
        refine dk_ild (k := (t1 + 3)) hx hb hK (dk_aT3 ht1 hW) (dkN_in (n := 5) d25 rfl) dX4_become_84 ?_
        refine lv_topi (fun v30 ev30 => ?_)
        refine dk_ist (k := (t0 + 3)) hx hb hK hW (fun _ => dkC_T g z ht0 (c := 3) (by decide) _) (by have := dkT_lt ht0; omega) hS (dkN_in (n := 5) d25 rfl) dX4_become_85 (fun I31 H31 L31 eI31 hW hS => ?_)
        have hO := dkO_setT hO ht0 (c := 3) (by decide) eI31 (dkN_sub (dkN_top v30) rfl)
        have hF := dkF_set hF eI31 (dkIn_atv (i := 5) rfl (Nat.le_refl _) (Nat.le_refl _) d25 rfl)
        refine lv_aload_n hx hb dX4_become_86 rfl (lv_at hl 0 rfl) ?_
        refine dk_get (k := t0) hx hb hts iX4_become_4 hown hK (dk_aT0 ht0 hW) rfl 8 (by decide) (hts (.fieldLink RX4 21 "DogKings$Town" "bones" "[I") (List.mem_of_getElem? (i := 9) rfl)) rfl dX4_become_87 ?_
        refine lv_iload_n hx hb dX4_become_90 rfl (lv_at hl 2 rfl) ?_
        refine lv_aload_n hx hb dX4_become_91 rfl (lv_at hl 1 rfl) ?_
        refine dk_get (k := t1) hx hb hts iX4_become_4 hown hK (dk_aT0 ht1 hW) rfl 8 (by decide) (hts (.fieldLink RX4 21 "DogKings$Town" "bones" "[I") (List.mem_of_getElem? (i := 9) rfl)) rfl dX4_become_92 ?_
        refine lv_iload_n hx hb dX4_become_95 rfl (lv_at hl 2 rfl) ?_
        refine dk_ild (k := (t1 + 4)) hx hb hK (dk_aT4 ht1 hW) (dkN_in (n := 5) d25 rfl) dX4_become_96 ?_
        refine lv_topi (fun v32 ev32 => ?_)
        refine dk_ist (k := (t0 + 4)) hx hb hK hW (fun _ => dkC_T g z ht0 (c := 4) (by decide) _) (by have := dkT_lt ht0; omega) hS (dkN_in (n := 5) d25 rfl) dX4_become_97 (fun I33 H33 L33 eI33 hW hS => ?_)
        have hO := dkO_setT hO ht0 (c := 4) (by decide) eI33 (dkN_sub (dkN_top v32) rfl)
        have hF := dkF_set hF eI33 (dkIn_atv (i := 6) rfl (Nat.le_refl _) (Nat.le_refl _) d25 rfl)
        refine lv_aload_n hx hb dX4_become_98 rfl (lv_at hl 0 rfl) ?_
        refine dk_get (k := t0) hx hb hts iX4_become_4 hown hK (dk_aT0 ht0 hW) rfl 9 (by decide) (hts (.fieldLink RX4 24 "DogKings$Town" "gait" "[I") (List.mem_of_getElem? (i := 10) rfl)) rfl dX4_become_99 ?_
        refine lv_iload_n hx hb dX4_become_102 rfl (lv_at hl 2 rfl) ?_
        refine lv_aload_n hx hb dX4_become_103 rfl (lv_at hl 1 rfl) ?_
        refine dk_get (k := t1) hx hb hts iX4_become_4 hown hK (dk_aT0 ht1 hW) rfl 9 (by decide) (hts (.fieldLink RX4 24 "DogKings$Town" "gait" "[I") (List.mem_of_getElem? (i := 10) rfl)) rfl dX4_become_104 ?_
        refine lv_iload_n hx hb dX4_become_107 rfl (lv_at hl 2 rfl) ?_
        refine dk_ild (k := (t1 + 5)) hx hb hK (dk_aT5 ht1 hW) (dkN_in (n := 5) d25 rfl) dX4_become_108 ?_
        refine lv_topi (fun v34 ev34 => ?_)
        refine dk_ist (k := (t0 + 5)) hx hb hK hW (fun _ => dkC_T g z ht0 (c := 5) (by decide) _) (by have := dkT_lt ht0; omega) hS (dkN_in (n := 5) d25 rfl) dX4_become_109 (fun I35 H35 L35 eI35 hW hS => ?_)
        have hO := dkO_setT hO ht0 (c := 5) (by decide) eI35 (dkN_sub (dkN_top v34) rfl)
        have hF := dkF_set hF eI35 (dkIn_atv (i := 7) rfl (Nat.le_refl _) (Nat.le_refl _) d25 rfl)
        refine lv_aload_n hx hb dX4_become_110 rfl (lv_at hl 0 rfl) ?_
        refine dk_get (k := t0) hx hb hts iX4_become_4 hown hK (dk_aT0 ht0 hW) rfl 10 (by decide) (hts (.fieldLink RX4 27 "DogKings$Town" "reigns" "[I") (List.mem_of_getElem? (i := 11) rfl)) rfl dX4_become_111 ?_
        refine lv_iload_n hx hb dX4_become_114 rfl (lv_at hl 2 rfl) ?_
        refine lv_aload_n hx hb dX4_become_115 rfl (lv_at hl 1 rfl) ?_
        refine dk_get (k := t1) hx hb hts iX4_become_4 hown hK (dk_aT0 ht1 hW) rfl 10 (by decide) (hts (.fieldLink RX4 27 "DogKings$Town" "reigns" "[I") (List.mem_of_getElem? (i := 11) rfl)) rfl dX4_become_116 ?_
        refine lv_iload_n hx hb dX4_become_119 rfl (lv_at hl 2 rfl) ?_
        refine dk_ild (k := (t1 + 6)) hx hb hK (dk_aT6 ht1 hW) (dkN_in (n := 5) d25 rfl) dX4_become_120 ?_
        refine lv_topi (fun v36 ev36 => ?_)
        refine dk_ist (k := (t0 + 6)) hx hb hK hW (fun _ => dkC_T g z ht0 (c := 6) (by decide) _) (by have := dkT_lt ht0; omega) hS (dkN_in (n := 5) d25 rfl) dX4_become_121 (fun I37 H37 L37 eI37 hW hS => ?_)
        have hO := dkO_setT hO ht0 (c := 6) (by decide) eI37 (dkN_sub (dkN_top v36) rfl)
        have hF := dkF_set hF eI37 (dkIn_atv (i := 8) rfl (Nat.le_refl _) (Nat.le_refl _) d25 rfl)
        obtain ⟨v38, ev38⟩ : ∃ y : Int32, y = x42_2 + 1 := ⟨_, rfl⟩
        have dv38 : dkN [(1, 5)] v38 := by rw [ev38]; exact dkN_add d25 (dkN_lit (x := 1) (1) rfl) rfl
        refine lv_iinc (v := v38) (lv' := [(2, .int v38), (0, .ref (z + t0)), (1, .ref (z + t1))]) hx hb dX4_become_122 hl (k := 2) rfl (by rw [ev38]; rfl) (by decide) rfl (fun ls hl => ?_)
        refine lv_goto (tgt := 42) hx hb dX4_become_125 (by decide) ?_
        exact ih42 I37 _ _ ls v38 (dk_near hn42 (by rw [ev38]; exact dk_inc d25 rfl) (dkN_lt d25 rfl)) hW hS hF hO (dkN_sub dv38 rfl) (lv_sub hl [1, 2, 0] rfl)
  refine lv_aload_n hx hb dX4_become_0 rfl (lv_at hl 0 rfl) ?_
  refine lv_aload_n hx hb dX4_become_1 rfl (lv_at hl 1 rfl) ?_
  refine dk_get (k := t1) hx hb hts iX4_become_4 hown hK (dk_aT0 ht1 hW) rfl 0 (by decide) (hts (.fieldLink RX4 42 "DogKings$Town" "places" "I") (List.mem_of_getElem? (i := 1) rfl)) rfl dX4_become_2 ?_
  refine lv_topi (fun v39 ev39 => ?_)
  have dv39 : dkN [(0, 9)] v39 := by rw [ev39]; exact (dkO_at hO ht1 (c := 0) (by decide) 0)
  refine dk_put (k := t0) hx hb hts iX4_become_4 tyX4 tyX4_ok nmX4 hown hK hW (dk_aT0 ht0 hW) hS rfl 0 (by decide) (hts (.fieldLink RX4 42 "DogKings$Town" "places" "I") (List.mem_of_getElem? (i := 1) rfl)) rfl rfl (Nat.le_of_ble_eq_true rfl) (dk_eT0 ht0) dX4_become_5 (fun I40 H40 L40 eI40 hW hS => ?_)
  have eI40 : I40 = dkU I0 t0 0 v39 := eI40
  have hO := dkO_setT hO ht0 (c := 0) (by decide) eI40 (dkN_sub dv39 rfl)
  have hF := dkF_set hF eI40 (dkIn_at (i := 0) rfl (Nat.le_refl _) (Nat.le_refl _) (by decide) (by decide))
  refine lv_aload_n hx hb dX4_become_8 rfl (lv_at hl 0 rfl) ?_
  refine lv_aload_n hx hb dX4_become_9 rfl (lv_at hl 1 rfl) ?_
  refine dk_get (k := t1) hx hb hts iX4_become_4 hown hK (dk_aT0 ht1 hW) rfl 1 (by decide) (hts (.fieldLink RX4 46 "DogKings$Town" "fridayLasts" "I") (List.mem_of_getElem? (i := 2) rfl)) rfl dX4_become_10 ?_
  refine lv_topi (fun v41 ev41 => ?_)
  have dv41 : dkN [(0, 30)] v41 := by rw [ev41]; exact (dkO_at hO ht1 (c := 0) (by decide) 1)
  refine dk_put (k := t0) hx hb hts iX4_become_4 tyX4 tyX4_ok nmX4 hown hK hW (dk_aT0 ht0 hW) hS rfl 1 (by decide) (hts (.fieldLink RX4 46 "DogKings$Town" "fridayLasts" "I") (List.mem_of_getElem? (i := 2) rfl)) rfl rfl (Nat.le_of_ble_eq_true rfl) (dk_eT1 ht0) dX4_become_13 (fun I42 H42 L42 eI42 hW hS => ?_)
  have eI42 : I42 = dkU I40 t0 1 v41 := eI42
  have hO := dkO_setT hO ht0 (c := 0) (by decide) eI42 (dkN_sub dv41 rfl)
  have hF := dkF_set hF eI42 (dkIn_at (i := 0) rfl (Nat.le_refl _) (Nat.le_refl _) (by decide) (by decide))
  refine lv_aload_n hx hb dX4_become_16 rfl (lv_at hl 0 rfl) ?_
  refine lv_aload_n hx hb dX4_become_17 rfl (lv_at hl 1 rfl) ?_
  refine dk_get (k := t1) hx hb hts iX4_become_4 hown hK (dk_aT0 ht1 hW) rfl 2 (by decide) (hts (.fieldLink RX4 49 "DogKings$Town" "friday" "I") (List.mem_of_getElem? (i := 3) rfl)) rfl dX4_become_18 ?_
  refine lv_topi (fun v43 ev43 => ?_)
  refine dk_put (k := t0) hx hb hts iX4_become_4 tyX4 tyX4_ok nmX4 hown hK hW (dk_aT0 ht0 hW) hS rfl 2 (by decide) (hts (.fieldLink RX4 49 "DogKings$Town" "friday" "I") (List.mem_of_getElem? (i := 3) rfl)) rfl rfl (Nat.le_of_ble_eq_true rfl) (dk_eT2 ht0) dX4_become_21 (fun I44 H44 L44 eI44 hW hS => ?_)
  have eI44 : I44 = dkU I42 t0 2 v43 := eI44
  have hO := dkO_setT hO ht0 (c := 0) (by decide) eI44 (dkN_sub (dkN_top v43) rfl)
  have hF := dkF_set hF eI44 (dkIn_at (i := 0) rfl (Nat.le_refl _) (Nat.le_refl _) (by decide) (by decide))
  refine lv_aload_n hx hb dX4_become_24 rfl (lv_at hl 0 rfl) ?_
  refine lv_aload_n hx hb dX4_become_25 rfl (lv_at hl 1 rfl) ?_
  refine dk_get (k := t1) hx hb hts iX4_become_4 hown hK (dk_aT0 ht1 hW) rfl 3 (by decide) (hts (.fieldLink RX4 52 "DogKings$Town" "minute" "I") (List.mem_of_getElem? (i := 4) rfl)) rfl dX4_become_26 ?_
  refine lv_topi (fun v45 ev45 => ?_)
  refine dk_put (k := t0) hx hb hts iX4_become_4 tyX4 tyX4_ok nmX4 hown hK hW (dk_aT0 ht0 hW) hS rfl 3 (by decide) (hts (.fieldLink RX4 52 "DogKings$Town" "minute" "I") (List.mem_of_getElem? (i := 4) rfl)) rfl rfl (Nat.le_of_ble_eq_true rfl) (dk_eT3 ht0) dX4_become_29 (fun I46 H46 L46 eI46 hW hS => ?_)
  have eI46 : I46 = dkU I44 t0 3 v45 := eI46
  have hO := dkO_setT hO ht0 (c := 0) (by decide) eI46 (dkN_sub (dkN_top v45) rfl)
  have hF := dkF_set hF eI46 (dkIn_at (i := 0) rfl (Nat.le_refl _) (Nat.le_refl _) (by decide) (by decide))
  refine lv_aload_n hx hb dX4_become_32 rfl (lv_at hl 0 rfl) ?_
  refine lv_aload_n hx hb dX4_become_33 rfl (lv_at hl 1 rfl) ?_
  refine dk_get (k := t1) hx hb hts iX4_become_4 hown hK (dk_aT0 ht1 hW) rfl 4 (by decide) (hts (.fieldLink RX4 55 "DogKings$Town" "people" "I") (List.mem_of_getElem? (i := 5) rfl)) rfl dX4_become_34 ?_
  refine lv_topi (fun v47 ev47 => ?_)
  have dv47 : dkN [(0, 5)] v47 := by rw [ev47]; exact (dkO_at hO ht1 (c := 0) (by decide) 4)
  refine dk_put (k := t0) hx hb hts iX4_become_4 tyX4 tyX4_ok nmX4 hown hK hW (dk_aT0 ht0 hW) hS rfl 4 (by decide) (hts (.fieldLink RX4 55 "DogKings$Town" "people" "I") (List.mem_of_getElem? (i := 5) rfl)) rfl rfl (Nat.le_of_ble_eq_true rfl) (dk_eT4 ht0) dX4_become_37 (fun I48 H48 L48 eI48 hW hS => ?_)
  have eI48 : I48 = dkU I46 t0 4 v47 := eI48
  have hO := dkO_setT hO ht0 (c := 0) (by decide) eI48 (dkN_sub dv47 rfl)
  have hF := dkF_set hF eI48 (dkIn_at (i := 0) rfl (Nat.le_refl _) (Nat.le_refl _) (by decide) (by decide))
  refine lv_iconst (v := 0) hx hb dX4_become_40 (by decide) ?_
  refine lv_istore_n (lv' := [(2, .int 0), (0, .ref (z + t0)), (1, .ref (z + t1))]) hx hb dX4_become_41 rfl hl (by decide) rfl (fun ls hl => ?_)
  exact C42 _ I48 _ _ ls 0 (Nat.lt_succ_self _) hW hS hF hO (dkN_sub (dkN_lit (x := 0) (0) rfl) rfl) (lv_sub hl [1, 2, 0] rfl)
set_option maxHeartbeats 4000000 in
set_option maxRecDepth 100000 in
theorem c_X0_forget_0 (l : Launch) (g : dkG) (z : Nat) (I0 : dkI)  (hO : dkOk I0) : Met l yX0_forget wsX0_forget (dkR 0) (dkPc g z [.ref (z + 59)] I0) (dkQv g z (fun I1 => dkF [(59, 59, 2, 2)] I0 I1 ∧ dkOk I1 ∧ ((dkN [(0, 0)] (I1 59 2) ∧ True)))) 0 0 (dkA z) := by
  refine Met.ofW (cc := cX0_forget) (maxL := 1) (ret := none) (by decide) rfl ?_
  intro p e s m args below meth c s₁ B hml hv
  obtain ⟨ha, hW, hK, hT⟩ := hv
  have hx := B.exec
  have hb := B.bytes
  have hr := B.returns
  have hts := atoms_spec (ws := wsX0_forget) B.pre
  have hown : s.vm.findClass RX0 = some m.cls := findClass_of_methodNamed B.named
  have hlocks := B.notSynchronized
  have hS : va_S (dkA z) s.heap s.heap [] := va_S.rf
  have hF : dkF [(59, 59, 2, 2)] I0 I0 := dkF_rf _ _
  have hl := lv_entry ([.ref (z + 59)]) (n := 1) (Nat.le_of_ble_eq_true rfl)
  have hgo : entryFrame m args 1 = entryFrame m ([.ref (z + 59)] : List Value).toArray 1 := by rw [ha]
  rw [hgo, lg_entry_eq]
  generalize (lg_sl ([.ref (z + 59)]) ++ List.replicate (1 - (lg_sl ([.ref (z + 59)])).length) Slot.unset).toArray = ls at hl ⊢
  have hl : lv_has ls 1 [(0, .ref (z + 59))] := hl
  refine lv_aload_n hx hb dX0_forget_0 rfl (lv_at hl 0 rfl) ?_
  refine lv_iconst (v := 0) hx hb dX0_forget_1 (by decide) ?_
  refine dk_put (k := 59) hx hb hts iX0_forget_0 tyX0 tyX0_ok nmX0 hown hK hW (dk_at59 hW) hS rfl 2 (by decide) (hts (.fieldLink RX0 24 "DogKings$Acts" "kept" "I") (List.mem_of_getElem? (i := 1) rfl)) rfl rfl (Nat.le_of_ble_eq_true rfl) rfl dX0_forget_2 (fun I1 H1 L1 eI1 hW hS => ?_)
  have eI1 : I1 = dkU I0 59 2 0 := eI1
  have hO := dkO_set hO eI1 (dkN_sub (dkN_lit (x := 0) (0) rfl) rfl)
  have hF := dkF_set hF eI1 rfl
  exact W.vret hx hb hr (fun t ht hW9 => ⟨⟨I1, rfl, ⟨hF, hO, ⟨(show dkN [(0, 0)] (I1 59 2) from dkN_sub (by rw [eI1, dkU_ss]; exact (dkN_lit (x := 0) (0) rfl)) rfl), trivial⟩⟩, dkW_eq ht hW⟩, hS.F ht⟩) hS.2.2 dX0_forget_5
set_option maxHeartbeats 4000000 in
set_option maxRecDepth 100000 in
theorem c_X5_town_0 (l : Launch) (g : dkG) (z : Nat) (I0 : dkI)  (hO : dkOk I0) : Met l yX5_town wsX5_town (dkR 5) (dkPc g z [.ref (z + 0)] I0) (dkQi g z (fun r I1 => dkF [(12, 12, 1, 2), (12, 12, 4, 5), (14, 14, 0, 4), (14, 14, 11, 11), (14, 14, 15, 17), (15, 15, 0, 4), (16, 16, 0, 4), (17, 17, 0, 4), (18, 18, 0, 4), (19, 19, 0, 4), (20, 20, 0, 4), (21, 21, 0, 5), (22, 22, 0, 5), (23, 23, 0, 5), (25, 25, 0, 4), (25, 25, 11, 11), (25, 25, 15, 17), (26, 26, 0, 4), (27, 27, 0, 4), (28, 28, 0, 4), (29, 29, 0, 4), (30, 30, 0, 4), (31, 31, 0, 4), (32, 32, 0, 5), (33, 33, 0, 5), (34, 34, 0, 5), (59, 59, 2, 2)] I0 I1 ∧ dkOk I1 ∧ ((dkN [(-1000190, -1000100)] r ∧ dkN [(0, 0)] (I1 12 1) ∧ dkN [(0, 90)] (I1 12 4) ∧ dkN [(1, 3)] (I1 12 5) ∧ True) ∨ (dkN [(0, 6)] r ∧ dkN [(0, 0)] (I1 12 1) ∧ dkN [(3, 9)] (I1 14 0) ∧ dkN [(1, 30)] (I1 14 1) ∧ dkN [(0, 0)] (I1 14 16) ∧ dkN [(0, 0)] (I1 14 17) ∧ dkN [(0, 0)] (I1 14 2) ∧ dkN [(0, 0)] (I1 14 3) ∧ dkN [(1, 5)] (I1 14 4) ∧ dkN [(0, 0)] (I1 59 2) ∧ True)))) 0 0 (dkA z) := by
  refine Met.ofW (cc := cX5_town) (maxL := 1) (ret := (some .int)) (by decide) rfl ?_
  intro p e s m args below meth c s₁ B hml hv
  obtain ⟨ha, hW, hK, hT⟩ := hv
  have hx := B.exec
  have hb := B.bytes
  have hr := B.returns
  have hts := atoms_spec (ws := wsX5_town) B.pre
  have hown : s.vm.findClass RX5 = some m.cls := findClass_of_methodNamed B.named
  have hlocks := B.notSynchronized
  have hS : va_S (dkA z) s.heap s.heap [] := va_S.rf
  have hF : dkF [(12, 12, 1, 2), (12, 12, 4, 5), (14, 14, 0, 4), (14, 14, 11, 11), (14, 14, 15, 17), (15, 15, 0, 4), (16, 16, 0, 4), (17, 17, 0, 4), (18, 18, 0, 4), (19, 19, 0, 4), (20, 20, 0, 4), (21, 21, 0, 5), (22, 22, 0, 5), (23, 23, 0, 5), (25, 25, 0, 4), (25, 25, 11, 11), (25, 25, 15, 17), (26, 26, 0, 4), (27, 27, 0, 4), (28, 28, 0, 4), (29, 29, 0, 4), (30, 30, 0, 4), (31, 31, 0, 4), (32, 32, 0, 5), (33, 33, 0, 5), (34, 34, 0, 5), (59, 59, 2, 2)] I0 I0 := dkF_rf _ _
  have hl := lv_entry ([.ref (z + 0)]) (n := 1) (Nat.le_of_ble_eq_true rfl)
  have hgo : entryFrame m args 1 = entryFrame m ([.ref (z + 0)] : List Value).toArray 1 := by rw [ha]
  rw [hgo, lg_entry_eq]
  generalize (lg_sl ([.ref (z + 0)]) ++ List.replicate (1 - (lg_sl ([.ref (z + 0)])).length) Slot.unset).toArray = ls at hl ⊢
  have hl : lv_has ls 1 [(0, .ref (z + 0))] := hl
  refine lv_aload_n hx hb dX5_town_0 rfl (lv_at hl 0 rfl) ?_
  refine dk_get (k := 0) hx hb hts iX5_town_5 hown hK (dk_at0 hW) rfl 4 (by decide) (hts (.fieldLink RX5 24 "DogKings" "reader" "LDogKings$Reader;") (List.mem_of_getElem? (i := 1) rfl)) rfl dX5_town_1 ?_
  refine dk_Vi (As := []) (rest := []) ⟨hx, hb, hml, hown, hts⟩ (c_X2_reads_0 l g z I0 hO) (cwV 0 hts gX5_town_X2_reads rfl rfl rfl (by decide +kernel) ⟨Nat.le_of_ble_eq_true rfl, Nat.le_of_ble_eq_true rfl⟩) (dk_at12 hW) rfl hK hT hW hS rfl hl.1 rfl (Nat.le_of_ble_eq_true rfl) dX5_town_4 ⟨Nat.zero_le _, Nat.zero_le _⟩ (fun v1 I1 H1 L1 hp1 hW hS => ?_)
  obtain ⟨hF1, hO, hc1⟩ := hp1
  have hF := dkF_call hF hF1 rfl
  rcases hc1 with ⟨dv1, f1_12_1, f1_12_4, f1_12_5, -⟩ | hc1
  ·
    refine lv_if_ne (tgt := 21) hx hb dX5_town_7 (by decide) (fun c2 => ?_) (fun c2 => ?_)
    ·
      exact (dkN_nil (show dkN [] v1 from dkN_ne1 (0) dv1 (dkN_lit (x := 0) (0) rfl) (dk_ne c2) rfl)).elim
    ·
      refine lv_ldc (v := (-1000100)) hx hb hown (hts (.constant RX5 106 (-1000100)) (List.mem_of_getElem? (i := 2) rfl)) dX5_town_10 ?_
      refine lv_aload_n hx hb dX5_town_12 rfl (lv_at hl 0 rfl) ?_
      refine dk_get (k := 0) hx hb hts iX5_town_5 hown hK (dk_at0 hW) rfl 4 (by decide) (hts (.fieldLink RX5 24 "DogKings" "reader" "LDogKings$Reader;") (List.mem_of_getElem? (i := 1) rfl)) rfl dX5_town_13 ?_
      refine dk_get (k := 12) hx hb hts iX5_town_2 hown hK (dk_at12 hW) rfl 4 (by decide) (hts (.fieldLink RX5 107 "DogKings$Reader" "faultPlace" "I") (List.mem_of_getElem? (i := 3) rfl)) rfl dX5_town_16 ?_
      refine lv_topi (fun v3 ev3 => ?_)
      have dv3 : dkN [(0, 90)] v3 := by rw [ev3]; exact f1_12_4
      refine lv_isub hx hb dX5_town_19 ?_
      refine lv_topi (fun v4 ev4 => ?_)
      have dv4 : dkN [(-1000190, -1000100)] v4 := by rw [ev4]; exact dkN_subt (dkN_lit (x := (-1000100)) (-1000100) rfl) dv3 rfl
      exact W.iret (v := v4) hx hb hr (fun t ht hW9 => ⟨⟨v4, I1, rfl, ⟨hF, hO, Or.inl ⟨dkN_sub dv4 rfl, (show dkN [(0, 0)] (I1 12 1) from dkN_sub f1_12_1 rfl), (show dkN [(0, 90)] (I1 12 4) from dkN_sub f1_12_4 rfl), (show dkN [(1, 3)] (I1 12 5) from dkN_sub f1_12_5 rfl), trivial⟩⟩, dkW_eq ht hW⟩, hS.F ht⟩) hS.2.2 dX5_town_20
  ·
    obtain ⟨dv1, f1_12_1, f1_14_0, f1_14_1, f1_14_16, f1_14_17, f1_14_2, f1_14_3, f1_14_4, -⟩ := hc1
    refine lv_if_ne (tgt := 21) hx hb dX5_town_7 (by decide) (fun c5 => ?_) (fun c5 => ?_)
    ·
      refine lv_aload_n hx hb dX5_town_21 rfl (lv_at hl 0 rfl) ?_
      refine dk_get (k := 0) hx hb hts iX5_town_5 hown hK (dk_at0 hW) rfl 5 (by decide) (hts (.fieldLink RX5 31 "DogKings" "now" "LDogKings$Town;") (List.mem_of_getElem? (i := 4) rfl)) rfl dX5_town_22 ?_
      refine lv_aload_n hx hb dX5_town_25 rfl (lv_at hl 0 rfl) ?_
      refine dk_get (k := 0) hx hb hts iX5_town_5 hown hK (dk_at0 hW) rfl 4 (by decide) (hts (.fieldLink RX5 24 "DogKings" "reader" "LDogKings$Reader;") (List.mem_of_getElem? (i := 1) rfl)) rfl dX5_town_26 ?_
      refine dk_get (k := 12) hx hb hts iX5_town_2 hown hK (dk_at12 hW) rfl 3 (by decide) (hts (.fieldLink RX5 111 "DogKings$Reader" "draft" "LDogKings$Town;") (List.mem_of_getElem? (i := 5) rfl)) rfl dX5_town_29 ?_
      refine dk_Vv (As := [.ref (z + 14)]) (rest := []) ⟨hx, hb, hml, hown, hts⟩ (c_X4_become_0 l g z I1 (25) (by unfold dkT; omega) (14) (by unfold dkT; omega) hO) (cwV 1 hts gX5_town_X4_become rfl rfl rfl (by decide +kernel) ⟨Nat.le_of_ble_eq_true rfl, Nat.le_of_ble_eq_true rfl⟩) (dk_at25 hW) rfl hK hT hW hS rfl hl.1 rfl (Nat.le_of_ble_eq_true rfl) dX5_town_32 ⟨Nat.zero_le _, Nat.zero_le _⟩ (fun I6 H6 L6 hp6 hW hS => ?_)
      obtain ⟨hF6, hO, hc6⟩ := hp6
      have hF := dkF_call hF hF6 rfl
      refine lv_aload_n hx hb dX5_town_35 rfl (lv_at hl 0 rfl) ?_
      refine dk_get (k := 0) hx hb hts iX5_town_5 hown hK (dk_at0 hW) rfl 7 (by decide) (hts (.fieldLink RX5 42 "DogKings" "acts" "LDogKings$Acts;") (List.mem_of_getElem? (i := 6) rfl)) rfl dX5_town_36 ?_
      refine dk_Vv (As := []) (rest := []) ⟨hx, hb, hml, hown, hts⟩ (c_X0_forget_0 l g z I6 hO) (cwV 0 hts gX5_town_X0_forget rfl rfl rfl (by decide +kernel) ⟨Nat.le_of_ble_eq_true rfl, Nat.le_of_ble_eq_true rfl⟩) (dk_at59 hW) rfl hK hT hW hS rfl hl.1 rfl (Nat.le_of_ble_eq_true rfl) dX5_town_39 ⟨Nat.zero_le _, Nat.zero_le _⟩ (fun I7 H7 L7 hp7 hW hS => ?_)
      obtain ⟨hF7, hO, hc7⟩ := hp7
      have hF := dkF_call hF hF7 rfl
      obtain ⟨f7_59_2, -⟩ := hc7
      refine lv_aload_n hx hb dX5_town_42 rfl (lv_at hl 0 rfl) ?_
      refine dk_get (k := 0) hx hb hts iX5_town_5 hown hK (dk_at0 hW) rfl 5 (by decide) (hts (.fieldLink RX5 31 "DogKings" "now" "LDogKings$Town;") (List.mem_of_getElem? (i := 4) rfl)) rfl dX5_town_43 ?_
      refine dk_get (k := 25) hx hb hts iX5_town_4 hown hK (dk_at25 hW) rfl 11 (by decide) (hts (.fieldLink RX5 120 "DogKings$Town" "dogs" "I") (List.mem_of_getElem? (i := 7) rfl)) rfl dX5_town_46 ?_
      refine lv_topi (fun v8 ev8 => ?_)
      have dv8 : dkN [(0, 6)] v8 := by rw [ev8]; exact (hO 25 11)
      exact W.iret (v := v8) hx hb hr (fun t ht hW9 => ⟨⟨v8, I7, rfl, ⟨hF, hO, Or.inr (⟨dkN_sub dv8 rfl, (show dkN [(0, 0)] (I7 12 1) from dkN_sub (by rw [hF7 12 1 rfl]; exact (by rw [hF6 12 1 rfl]; exact f1_12_1)) rfl), (show dkN [(3, 9)] (I7 14 0) from dkN_sub (by rw [hF7 14 0 rfl]; exact (by rw [hF6 14 0 rfl]; exact f1_14_0)) rfl), (show dkN [(1, 30)] (I7 14 1) from dkN_sub (by rw [hF7 14 1 rfl]; exact (by rw [hF6 14 1 rfl]; exact f1_14_1)) rfl), (show dkN [(0, 0)] (I7 14 16) from dkN_sub (by rw [hF7 14 16 rfl]; exact (by rw [hF6 14 16 rfl]; exact f1_14_16)) rfl), (show dkN [(0, 0)] (I7 14 17) from dkN_sub (by rw [hF7 14 17 rfl]; exact (by rw [hF6 14 17 rfl]; exact f1_14_17)) rfl), (show dkN [(0, 0)] (I7 14 2) from dkN_sub (by rw [hF7 14 2 rfl]; exact (by rw [hF6 14 2 rfl]; exact f1_14_2)) rfl), (show dkN [(0, 0)] (I7 14 3) from dkN_sub (by rw [hF7 14 3 rfl]; exact (by rw [hF6 14 3 rfl]; exact f1_14_3)) rfl), (show dkN [(1, 5)] (I7 14 4) from dkN_sub (by rw [hF7 14 4 rfl]; exact (by rw [hF6 14 4 rfl]; exact f1_14_4)) rfl), (show dkN [(0, 0)] (I7 59 2) from dkN_sub f7_59_2 rfl), trivial⟩)⟩, dkW_eq ht hW⟩, hS.F ht⟩) hS.2.2 dX5_town_49
    ·
      exact (dkN_nil (show dkN [] v1 from dkN_eq1 dv1 (dkN_lit (x := 0) (0) rfl) (congrArg Int32.toInt c5) rfl)).elim
set_option maxHeartbeats 4000000 in
set_option maxRecDepth 100000 in
theorem c_X6_byteAt_0 (l : Launch) (g : dkG) (z : Nat) (I0 : dkI) (p0 : Int32) (dp0 : dkN [(0, 90)] p0)  (hO : dkOk I0) : Met l yX6_byteAt wsX6_byteAt (dkR 0) (dkPc g z [.ref (z + 340), .int p0] I0) (dkQi g z (fun r I1 => dkF [] I0 I1 ∧ dkOk I1 ∧ ((dkN [(-1, -1)] r ∧ True) ∨ (dkN [(0, 255)] r ∧ dkN [(0, 89)] p0 ∧ dkN [(1, 90)] (I1 340 6) ∧ True)))) 0 0 (dkA z) := by
  refine Met.ofW (cc := cX6_byteAt) (maxL := 2) (ret := (some .int)) (by decide) rfl ?_
  intro p e s m args below meth c s₁ B hml hv
  obtain ⟨ha, hW, hK, hT⟩ := hv
  have hx := B.exec
  have hb := B.bytes
  have hr := B.returns
  have hts := atoms_spec (ws := wsX6_byteAt) B.pre
  have hown : s.vm.findClass RX6 = some m.cls := findClass_of_methodNamed B.named
  have hlocks := B.notSynchronized
  have hS : va_S (dkA z) s.heap s.heap [] := va_S.rf
  have hF : dkF [] I0 I0 := dkF_rf _ _
  have hl := lv_entry ([.ref (z + 340), .int p0]) (n := 2) (Nat.le_of_ble_eq_true rfl)
  have hgo : entryFrame m args 2 = entryFrame m ([.ref (z + 340), .int p0] : List Value).toArray 2 := by rw [ha]
  rw [hgo, lg_entry_eq]
  generalize (lg_sl ([.ref (z + 340), .int p0]) ++ List.replicate (2 - (lg_sl ([.ref (z + 340), .int p0])).length) Slot.unset).toArray = ls at hl ⊢
  have hl : lv_has ls 2 [(0, .ref (z + 340)), (1, .int p0)] := hl
  refine lv_iload_n hx hb dX6_byteAt_0 rfl (lv_at hl 1 rfl) ?_
  refine lv_aload_n hx hb dX6_byteAt_1 rfl (lv_at hl 0 rfl) ?_
  refine dk_get (k := 340) hx hb hts iX6_byteAt_6 hown hK (dk_at340 hW) rfl 6 (by decide) (hts (.fieldLink RX6 82 "DogKingsModel" "taped" "I") (List.mem_of_getElem? (i := 1) rfl)) rfl dX6_byteAt_2 ?_
  refine lv_topi (fun v1 ev1 => ?_)
  have dv1 : dkN [(0, 90)] v1 := by rw [ev1]; exact (hO 340 6)
  refine lv_icmp_ge (tgt := 17) hx hb dX6_byteAt_5 (by decide) (fun c2 => ?_) (fun c2 => ?_)
  ·
    refine lv_iconst (v := (-1)) hx hb dX6_byteAt_17 (by decide) ?_
    exact W.iret (v := (-1)) hx hb hr (fun t ht hW9 => ⟨⟨(-1), I0, rfl, ⟨hF, hO, Or.inl ⟨dkN_sub (dkN_lit (x := (-1)) (-1) rfl) rfl, trivial⟩⟩, dkW_eq ht hW⟩, hS.F ht⟩) hS.2.2 dX6_byteAt_18
  ·
    have d3 : dkN [(1, 90)] v1 := dkN_le2 1 dp0 dv1 (dkc_nle c2) rfl
    have f4 : dkN [(1, 90)] (I0 340 6) := by rw [← ev1]; exact d3
    have d5 : dkN [(0, 89)] p0 := dkN_le1 1 dp0 dv1 (dkc_nle c2) rfl
    refine lv_aload_n hx hb dX6_byteAt_8 rfl (lv_at hl 0 rfl) ?_
    refine dk_get (k := 340) hx hb hts iX6_byteAt_6 hown hK (dk_at340 hW) rfl 5 (by decide) (hts (.fieldLink RX6 22 "DogKingsModel" "tape" "[I") (List.mem_of_getElem? (i := 2) rfl)) rfl dX6_byteAt_9 ?_
    refine lv_iload_n hx hb dX6_byteAt_12 rfl (lv_at hl 1 rfl) ?_
    refine dk_ild (k := 345) hx hb hK (dk_at345 hW) (dkN_in (n := 90) d5 rfl) dX6_byteAt_13 ?_
    refine lv_topi (fun v6 ev6 => ?_)
    have dv6 : dkN [(0, 255)] v6 := by rw [ev6]; exact (hO 345 _)
    refine lv_goto (tgt := 18) hx hb dX6_byteAt_14 (by decide) ?_
    exact W.iret (v := v6) hx hb hr (fun t ht hW9 => ⟨⟨v6, I0, rfl, ⟨hF, hO, Or.inr (⟨dkN_sub dv6 rfl, dkN_sub d5 rfl, (show dkN [(1, 90)] (I0 340 6) from dkN_sub f4 rfl), trivial⟩)⟩, dkW_eq ht hW⟩, hS.F ht⟩) hS.2.2 dX6_byteAt_18
set_option maxHeartbeats 4000000 in
set_option maxRecDepth 100000 in
theorem c_X6_in_4 (l : Launch) (g : dkG) (z : Nat) (I0 : dkI) (p0 : Int32) (p1 : Int32) (p2 : Int32) (dp0 : dkN [(-1, -1)] p0) (dp1 : dkN [(48, 48)] p1) (dp2 : dkN [(57, 57)] p2)  (hO : dkOk I0) : Met l yX6_in wsX6_in (dkR 0) (dkPc g z [.int p0, .int p1, .int p2] I0) (dkQi g z (fun r I1 => dkF [] I0 I1 ∧ dkOk I1 ∧ ((dkN [(0, 0)] r ∧ True)))) 0 0 (dkA z) := by
  refine Met.ofW (cc := cX6_in) (maxL := 3) (ret := (some .boolean)) (by decide) rfl ?_
  intro p e s m args below meth c s₁ B hml hv
  obtain ⟨ha, hW, hK, hT⟩ := hv
  have hx := B.exec
  have hb := B.bytes
  have hr := B.returns
  have hts := atoms_spec (ws := wsX6_in) B.pre
  have hown : s.vm.findClass RX6 = some m.cls := findClass_of_methodNamed B.named
  have hlocks := B.notSynchronized
  have hS : va_S (dkA z) s.heap s.heap [] := va_S.rf
  have hF : dkF [] I0 I0 := dkF_rf _ _
  have hl := lv_entry ([.int p0, .int p1, .int p2]) (n := 3) (Nat.le_of_ble_eq_true rfl)
  have hgo : entryFrame m args 3 = entryFrame m ([.int p0, .int p1, .int p2] : List Value).toArray 3 := by rw [ha]
  rw [hgo, lg_entry_eq]
  generalize (lg_sl ([.int p0, .int p1, .int p2]) ++ List.replicate (3 - (lg_sl ([.int p0, .int p1, .int p2])).length) Slot.unset).toArray = ls at hl ⊢
  have hl : lv_has ls 3 [(0, .int p0), (1, .int p1), (2, .int p2)] := hl
  refine lv_iload_n hx hb dX6_in_0 rfl (lv_at hl 0 rfl) ?_
  refine lv_iload_n hx hb dX6_in_1 rfl (lv_at hl 1 rfl) ?_
  refine lv_icmp_lt (tgt := 14) hx hb dX6_in_2 (by decide) (fun c1 => ?_) (fun c1 => ?_)
  ·
    refine lv_iconst (v := 0) hx hb dX6_in_14 (by decide) ?_
    exact W.zret (v := 0) (ty := .boolean) hx hb hr rfl (fun t ht hW9 => ⟨⟨0, I0, rfl, ⟨hF, hO, ⟨dkN_sub (dkN_lit (x := 0) (0) rfl) rfl, trivial⟩⟩, dkW_eq ht hW⟩, hS.F ht⟩) hS.2.2 dX6_in_15
  ·
    exact (dkN_nil (show dkN [] p0 from dkN_le2 0 dp1 dp0 (dkc_nlt c1) rfl)).elim
set_option maxHeartbeats 4000000 in
set_option maxRecDepth 100000 in
theorem c_X6_in_5 (l : Launch) (g : dkG) (z : Nat) (I0 : dkI) (p0 : Int32) (p1 : Int32) (p2 : Int32) (dp0 : dkN [(0, 255)] p0) (dp1 : dkN [(48, 48)] p1) (dp2 : dkN [(57, 57)] p2)  (hO : dkOk I0) : Met l yX6_in wsX6_in (dkR 0) (dkPc g z [.int p0, .int p1, .int p2] I0) (dkQi g z (fun r I1 => dkF [] I0 I1 ∧ dkOk I1 ∧ ((dkN [(0, 0)] r ∧ dkN [(0, 47), (58, 255)] p0 ∧ True) ∨ (dkN [(1, 1)] r ∧ dkN [(48, 57)] p0 ∧ True)))) 0 0 (dkA z) := by
  refine Met.ofW (cc := cX6_in) (maxL := 3) (ret := (some .boolean)) (by decide) rfl ?_
  intro p e s m args below meth c s₁ B hml hv
  obtain ⟨ha, hW, hK, hT⟩ := hv
  have hx := B.exec
  have hb := B.bytes
  have hr := B.returns
  have hts := atoms_spec (ws := wsX6_in) B.pre
  have hown : s.vm.findClass RX6 = some m.cls := findClass_of_methodNamed B.named
  have hlocks := B.notSynchronized
  have hS : va_S (dkA z) s.heap s.heap [] := va_S.rf
  have hF : dkF [] I0 I0 := dkF_rf _ _
  have hl := lv_entry ([.int p0, .int p1, .int p2]) (n := 3) (Nat.le_of_ble_eq_true rfl)
  have hgo : entryFrame m args 3 = entryFrame m ([.int p0, .int p1, .int p2] : List Value).toArray 3 := by rw [ha]
  rw [hgo, lg_entry_eq]
  generalize (lg_sl ([.int p0, .int p1, .int p2]) ++ List.replicate (3 - (lg_sl ([.int p0, .int p1, .int p2])).length) Slot.unset).toArray = ls at hl ⊢
  have hl : lv_has ls 3 [(0, .int p0), (1, .int p1), (2, .int p2)] := hl
  refine lv_iload_n hx hb dX6_in_0 rfl (lv_at hl 0 rfl) ?_
  refine lv_iload_n hx hb dX6_in_1 rfl (lv_at hl 1 rfl) ?_
  refine lv_icmp_lt (tgt := 14) hx hb dX6_in_2 (by decide) (fun c1 => ?_) (fun c1 => ?_)
  ·
    have d2 : dkN [(0, 47)] p0 := dkN_le1 1 dp0 dp1 (dkc_lt c1) rfl
    refine lv_iconst (v := 0) hx hb dX6_in_14 (by decide) ?_
    exact W.zret (v := 0) (ty := .boolean) hx hb hr rfl (fun t ht hW9 => ⟨⟨0, I0, rfl, ⟨hF, hO, Or.inl ⟨dkN_sub (dkN_lit (x := 0) (0) rfl) rfl, dkN_sub d2 rfl, trivial⟩⟩, dkW_eq ht hW⟩, hS.F ht⟩) hS.2.2 dX6_in_15
  ·
    have d3 : dkN [(48, 255)] p0 := dkN_le2 0 dp1 dp0 (dkc_nlt c1) rfl
    refine lv_iload_n hx hb dX6_in_5 rfl (lv_at hl 0 rfl) ?_
    refine lv_iload_n hx hb dX6_in_6 rfl (lv_at hl 2 rfl) ?_
    refine lv_icmp_gt (tgt := 14) hx hb dX6_in_7 (by decide) (fun c4 => ?_) (fun c4 => ?_)
    ·
      have d5 : dkN [(58, 255)] p0 := dkN_le2 1 dp2 d3 (dkc_lt c4) rfl
      refine lv_iconst (v := 0) hx hb dX6_in_14 (by decide) ?_
      exact W.zret (v := 0) (ty := .boolean) hx hb hr rfl (fun t ht hW9 => ⟨⟨0, I0, rfl, ⟨hF, hO, Or.inl ⟨dkN_sub (dkN_lit (x := 0) (0) rfl) rfl, dkN_sub d5 rfl, trivial⟩⟩, dkW_eq ht hW⟩, hS.F ht⟩) hS.2.2 dX6_in_15
    ·
      have d6 : dkN [(48, 57)] p0 := dkN_le1 0 d3 dp2 (dkc_nlt c4) rfl
      refine lv_iconst (v := 1) hx hb dX6_in_10 (by decide) ?_
      refine lv_goto (tgt := 15) hx hb dX6_in_11 (by decide) ?_
      exact W.zret (v := 1) (ty := .boolean) hx hb hr rfl (fun t ht hW9 => ⟨⟨1, I0, rfl, ⟨hF, hO, Or.inr (⟨dkN_sub (dkN_lit (x := 1) (1) rfl) rfl, dkN_sub d6 rfl, trivial⟩)⟩, dkW_eq ht hW⟩, hS.F ht⟩) hS.2.2 dX6_in_15
set_option maxHeartbeats 4000000 in
set_option maxRecDepth 100000 in
theorem c_X6_in_6 (l : Launch) (g : dkG) (z : Nat) (I0 : dkI) (p0 : Int32) (p1 : Int32) (p2 : Int32) (dp0 : dkN [(0, 47), (58, 255)] p0) (dp1 : dkN [(97, 97)] p1) (dp2 : dkN [(122, 122)] p2)  (hO : dkOk I0) : Met l yX6_in wsX6_in (dkR 0) (dkPc g z [.int p0, .int p1, .int p2] I0) (dkQi g z (fun r I1 => dkF [] I0 I1 ∧ dkOk I1 ∧ ((dkN [(0, 0)] r ∧ dkN [(0, 47), (58, 96), (123, 255)] p0 ∧ True) ∨ (dkN [(1, 1)] r ∧ dkN [(97, 122)] p0 ∧ True)))) 0 0 (dkA z) := by
  refine Met.ofW (cc := cX6_in) (maxL := 3) (ret := (some .boolean)) (by decide) rfl ?_
  intro p e s m args below meth c s₁ B hml hv
  obtain ⟨ha, hW, hK, hT⟩ := hv
  have hx := B.exec
  have hb := B.bytes
  have hr := B.returns
  have hts := atoms_spec (ws := wsX6_in) B.pre
  have hown : s.vm.findClass RX6 = some m.cls := findClass_of_methodNamed B.named
  have hlocks := B.notSynchronized
  have hS : va_S (dkA z) s.heap s.heap [] := va_S.rf
  have hF : dkF [] I0 I0 := dkF_rf _ _
  have hl := lv_entry ([.int p0, .int p1, .int p2]) (n := 3) (Nat.le_of_ble_eq_true rfl)
  have hgo : entryFrame m args 3 = entryFrame m ([.int p0, .int p1, .int p2] : List Value).toArray 3 := by rw [ha]
  rw [hgo, lg_entry_eq]
  generalize (lg_sl ([.int p0, .int p1, .int p2]) ++ List.replicate (3 - (lg_sl ([.int p0, .int p1, .int p2])).length) Slot.unset).toArray = ls at hl ⊢
  have hl : lv_has ls 3 [(0, .int p0), (1, .int p1), (2, .int p2)] := hl
  refine lv_iload_n hx hb dX6_in_0 rfl (lv_at hl 0 rfl) ?_
  refine lv_iload_n hx hb dX6_in_1 rfl (lv_at hl 1 rfl) ?_
  refine lv_icmp_lt (tgt := 14) hx hb dX6_in_2 (by decide) (fun c1 => ?_) (fun c1 => ?_)
  ·
    have d2 : dkN [(0, 47), (58, 96)] p0 := dkN_le1 1 dp0 dp1 (dkc_lt c1) rfl
    refine lv_iconst (v := 0) hx hb dX6_in_14 (by decide) ?_
    exact W.zret (v := 0) (ty := .boolean) hx hb hr rfl (fun t ht hW9 => ⟨⟨0, I0, rfl, ⟨hF, hO, Or.inl ⟨dkN_sub (dkN_lit (x := 0) (0) rfl) rfl, dkN_sub d2 rfl, trivial⟩⟩, dkW_eq ht hW⟩, hS.F ht⟩) hS.2.2 dX6_in_15
  ·
    have d3 : dkN [(97, 255)] p0 := dkN_le2 0 dp1 dp0 (dkc_nlt c1) rfl
    refine lv_iload_n hx hb dX6_in_5 rfl (lv_at hl 0 rfl) ?_
    refine lv_iload_n hx hb dX6_in_6 rfl (lv_at hl 2 rfl) ?_
    refine lv_icmp_gt (tgt := 14) hx hb dX6_in_7 (by decide) (fun c4 => ?_) (fun c4 => ?_)
    ·
      have d5 : dkN [(123, 255)] p0 := dkN_le2 1 dp2 d3 (dkc_lt c4) rfl
      refine lv_iconst (v := 0) hx hb dX6_in_14 (by decide) ?_
      exact W.zret (v := 0) (ty := .boolean) hx hb hr rfl (fun t ht hW9 => ⟨⟨0, I0, rfl, ⟨hF, hO, Or.inl ⟨dkN_sub (dkN_lit (x := 0) (0) rfl) rfl, dkN_sub d5 rfl, trivial⟩⟩, dkW_eq ht hW⟩, hS.F ht⟩) hS.2.2 dX6_in_15
    ·
      have d6 : dkN [(97, 122)] p0 := dkN_le1 0 d3 dp2 (dkc_nlt c4) rfl
      refine lv_iconst (v := 1) hx hb dX6_in_10 (by decide) ?_
      refine lv_goto (tgt := 15) hx hb dX6_in_11 (by decide) ?_
      exact W.zret (v := 1) (ty := .boolean) hx hb hr rfl (fun t ht hW9 => ⟨⟨1, I0, rfl, ⟨hF, hO, Or.inr (⟨dkN_sub (dkN_lit (x := 1) (1) rfl) rfl, dkN_sub d6 rfl, trivial⟩)⟩, dkW_eq ht hW⟩, hS.F ht⟩) hS.2.2 dX6_in_15
set_option maxHeartbeats 4000000 in
set_option maxRecDepth 100000 in
theorem c_X6_byteAt_1 (l : Launch) (g : dkG) (z : Nat) (I0 : dkI) (p0 : Int32) (dp0 : dkN [(0, 89)] p0)  (hO : dkOk I0) : Met l yX6_byteAt wsX6_byteAt (dkR 0) (dkPc g z [.ref (z + 340), .int p0] I0) (dkQi g z (fun r I1 => dkF [] I0 I1 ∧ dkOk I1 ∧ ((dkN [(-1, -1)] r ∧ dkN [(0, 89)] (I1 340 6) ∧ True) ∨ (dkN [(0, 255)] r ∧ dkN [(1, 90)] (I1 340 6) ∧ True)))) 0 0 (dkA z) := by
  refine Met.ofW (cc := cX6_byteAt) (maxL := 2) (ret := (some .int)) (by decide) rfl ?_
  intro p e s m args below meth c s₁ B hml hv
  obtain ⟨ha, hW, hK, hT⟩ := hv
  have hx := B.exec
  have hb := B.bytes
  have hr := B.returns
  have hts := atoms_spec (ws := wsX6_byteAt) B.pre
  have hown : s.vm.findClass RX6 = some m.cls := findClass_of_methodNamed B.named
  have hlocks := B.notSynchronized
  have hS : va_S (dkA z) s.heap s.heap [] := va_S.rf
  have hF : dkF [] I0 I0 := dkF_rf _ _
  have hl := lv_entry ([.ref (z + 340), .int p0]) (n := 2) (Nat.le_of_ble_eq_true rfl)
  have hgo : entryFrame m args 2 = entryFrame m ([.ref (z + 340), .int p0] : List Value).toArray 2 := by rw [ha]
  rw [hgo, lg_entry_eq]
  generalize (lg_sl ([.ref (z + 340), .int p0]) ++ List.replicate (2 - (lg_sl ([.ref (z + 340), .int p0])).length) Slot.unset).toArray = ls at hl ⊢
  have hl : lv_has ls 2 [(0, .ref (z + 340)), (1, .int p0)] := hl
  refine lv_iload_n hx hb dX6_byteAt_0 rfl (lv_at hl 1 rfl) ?_
  refine lv_aload_n hx hb dX6_byteAt_1 rfl (lv_at hl 0 rfl) ?_
  refine dk_get (k := 340) hx hb hts iX6_byteAt_6 hown hK (dk_at340 hW) rfl 6 (by decide) (hts (.fieldLink RX6 82 "DogKingsModel" "taped" "I") (List.mem_of_getElem? (i := 1) rfl)) rfl dX6_byteAt_2 ?_
  refine lv_topi (fun v1 ev1 => ?_)
  have dv1 : dkN [(0, 90)] v1 := by rw [ev1]; exact (hO 340 6)
  refine lv_icmp_ge (tgt := 17) hx hb dX6_byteAt_5 (by decide) (fun c2 => ?_) (fun c2 => ?_)
  ·
    have d3 : dkN [(0, 89)] v1 := dkN_le1 0 dv1 dp0 (dkc_le c2) rfl
    have f4 : dkN [(0, 89)] (I0 340 6) := by rw [← ev1]; exact d3
    refine lv_iconst (v := (-1)) hx hb dX6_byteAt_17 (by decide) ?_
    exact W.iret (v := (-1)) hx hb hr (fun t ht hW9 => ⟨⟨(-1), I0, rfl, ⟨hF, hO, Or.inl ⟨dkN_sub (dkN_lit (x := (-1)) (-1) rfl) rfl, (show dkN [(0, 89)] (I0 340 6) from dkN_sub f4 rfl), trivial⟩⟩, dkW_eq ht hW⟩, hS.F ht⟩) hS.2.2 dX6_byteAt_18
  ·
    have d5 : dkN [(1, 90)] v1 := dkN_le2 1 dp0 dv1 (dkc_nle c2) rfl
    have f6 : dkN [(1, 90)] (I0 340 6) := by rw [← ev1]; exact d5
    refine lv_aload_n hx hb dX6_byteAt_8 rfl (lv_at hl 0 rfl) ?_
    refine dk_get (k := 340) hx hb hts iX6_byteAt_6 hown hK (dk_at340 hW) rfl 5 (by decide) (hts (.fieldLink RX6 22 "DogKingsModel" "tape" "[I") (List.mem_of_getElem? (i := 2) rfl)) rfl dX6_byteAt_9 ?_
    refine lv_iload_n hx hb dX6_byteAt_12 rfl (lv_at hl 1 rfl) ?_
    refine dk_ild (k := 345) hx hb hK (dk_at345 hW) (dkN_in (n := 90) dp0 rfl) dX6_byteAt_13 ?_
    refine lv_topi (fun v7 ev7 => ?_)
    have dv7 : dkN [(0, 255)] v7 := by rw [ev7]; exact (hO 345 _)
    refine lv_goto (tgt := 18) hx hb dX6_byteAt_14 (by decide) ?_
    exact W.iret (v := v7) hx hb hr (fun t ht hW9 => ⟨⟨v7, I0, rfl, ⟨hF, hO, Or.inr (⟨dkN_sub dv7 rfl, (show dkN [(1, 90)] (I0 340 6) from dkN_sub f6 rfl), trivial⟩)⟩, dkW_eq ht hW⟩, hS.F ht⟩) hS.2.2 dX6_byteAt_18
set_option maxHeartbeats 4000000 in
set_option maxRecDepth 100000 in
theorem c_X6_advances_0 (l : Launch) (g : dkG) (z : Nat) (I0 : dkI)  (hO : dkOk I0) : Met l yX6_advances wsX6_advances (dkR 1) (dkPc g z [.ref (z + 340)] I0) (dkQv g z (fun I1 => dkF [(340, 340, 9, 12)] I0 I1 ∧ dkOk I1 ∧ ((dkN [(0, 5)] (I1 340 11) ∧ True)))) 0 0 (dkA z) := by
  refine Met.ofW (cc := cX6_advances) (maxL := 2) (ret := none) (by decide) rfl ?_
  intro p e s m args below meth c s₁ B hml hv
  obtain ⟨ha, hW, hK, hT⟩ := hv
  have hx := B.exec
  have hb := B.bytes
  have hr := B.returns
  have hts := atoms_spec (ws := wsX6_advances) B.pre
  have hown : s.vm.findClass RX6 = some m.cls := findClass_of_methodNamed B.named
  have hlocks := B.notSynchronized
  have hS : va_S (dkA z) s.heap s.heap [] := va_S.rf
  have hF : dkF [(340, 340, 9, 12)] I0 I0 := dkF_rf _ _
  have hl := lv_entry ([.ref (z + 340)]) (n := 2) (Nat.le_of_ble_eq_true rfl)
  have hgo : entryFrame m args 2 = entryFrame m ([.ref (z + 340)] : List Value).toArray 2 := by rw [ha]
  rw [hgo, lg_entry_eq]
  generalize (lg_sl ([.ref (z + 340)]) ++ List.replicate (2 - (lg_sl ([.ref (z + 340)])).length) Slot.unset).toArray = ls at hl ⊢
  have hl : lv_has ls 2 [(0, .ref (z + 340))] := hl
  have C38 : ∀ (n : Nat), ∀ (I : dkI) (H : Heap) (locs : List Loc) (ls : Array Slot) (x38_1 : Int32), (90 - (I 340 9).toInt).toNat < n → dkW g z I H → va_S (dkA z) s.heap H locs → dkF [(340, 340, 9, 12)] I0 I → dkOk I → dkN [(48, 57)] x38_1 → lv_has ls 2 [(0, .ref (z + 340)), (1, .int x38_1)] → W p l e (headSpec wsX6_advances (dkR 1)).room s m args below meth c H locs 0 0 (MQ below (dkQv g z (fun I1 => dkF [(340, 340, 9, 12)] I0 I1 ∧ dkOk I1 ∧ ((dkN [(0, 5)] (I1 340 11) ∧ True)))) args s 0 0 (dkA z)) (F0 m 38 ls []) := by
    intro n
    induction n with
    | zero => intro I H locs ls x38_1 hn; exact absurd hn (Nat.not_lt_zero _)
    | succ n ih38 =>
      intro I38_ H locs ls x38_1 hn38 hW hS hF_38 hO k38_0 hl
      have hF := hF_38
      have C96 : ∀ (I : dkI) (H : Heap) (locs : List Loc) (ls : Array Slot) (x96_s0 : Int32), dkW g z I H → va_S (dkA z) s.heap H locs → dkF [(340, 340, 9, 12)] I0 I → dkOk I → dkN [(48, 57)] x38_1 → dkN [(0, 89)] (I 340 9) → I 340 9 = I38_ 340 9 → lv_has ls 2 [(0, .ref (z + 340)), (1, .int x38_1)] → W p l e (headSpec wsX6_advances (dkR 1)).room s m args below meth c H locs 0 0 (MQ below (dkQv g z (fun I1 => dkF [(340, 340, 9, 12)] I0 I1 ∧ dkOk I1 ∧ ((dkN [(0, 5)] (I1 340 11) ∧ True)))) args s 0 0 (dkA z)) (F0 m 96 ls [.int x96_s0, .ref (z + 340)]) := by
        intro I96_ H locs ls x96_s0 hW hS hF_96 hO r96_0 f96_0 w96_0 hl
        have hF := hF_96
        refine dk_put (k := 340) hx hb hts iX6_advances_6 tyX6 tyX6_ok nmX6 hown hK hW (dk_at340 hW) hS rfl 12 (by decide) (hts (.fieldLink RX6 95 "DogKingsModel" "value" "I") (List.mem_of_getElem? (i := 3) rfl)) rfl rfl (Nat.le_of_ble_eq_true rfl) rfl dX6_advances_96 (fun I1 H1 L1 eI1 hW hS => ?_)
        have eI1 : I1 = dkU I96_ 340 12 x96_s0 := eI1
        have hO := dkO_set hO eI1 (dkN_sub (dkN_top x96_s0) rfl)
        have hF := dkF_set hF eI1 rfl
        refine lv_aload_n hx hb dX6_advances_99 rfl (lv_at hl 0 rfl) ?_
        refine lv_dup hx hb dX6_advances_100 rfl ?_
        refine dk_get (k := 340) hx hb hts iX6_advances_6 hown hK (dk_at340 hW) rfl 9 (by decide) (hts (.fieldLink RX6 86 "DogKingsModel" "at" "I") (List.mem_of_getElem? (i := 1) rfl)) rfl dX6_advances_101 ?_
        refine lv_topi (fun v2 ev2 => ?_)
        have dv2 : dkN [(0, 89)] v2 := by rw [ev2]; exact (by rw [eI1, dkU_sn (by decide)]; exact f96_0)
        refine lv_iconst (v := 1) hx hb dX6_advances_104 (by decide) ?_
        refine lv_iadd hx hb dX6_advances_105 ?_
        refine lv_topi (fun v3 ev3 => ?_)
        have dv3 : dkN [(1, 90)] v3 := by rw [ev3]; exact dkN_add dv2 (dkN_lit (x := 1) (1) rfl) rfl
        refine dk_put (k := 340) hx hb hts iX6_advances_6 tyX6 tyX6_ok nmX6 hown hK hW (dk_at340 hW) hS rfl 9 (by decide) (hts (.fieldLink RX6 86 "DogKingsModel" "at" "I") (List.mem_of_getElem? (i := 1) rfl)) rfl rfl (Nat.le_of_ble_eq_true rfl) rfl dX6_advances_106 (fun I4 H4 L4 eI4 hW hS => ?_)
        have eI4 : I4 = dkU I1 340 9 v3 := eI4
        have hO := dkO_set hO eI4 (dkN_sub dv3 rfl)
        have hF := dkF_set hF eI4 rfl
        refine lv_goto (tgt := 38) hx hb dX6_advances_109 (by decide) ?_
        exact ih38 I4 _ _ ls x38_1 (dk_nearH hn38 (by rw [eI4, dkU_ss, ev3] : I4 340 9 = v2 + 1) (ev2.trans ((by rw [eI1, dkU_sn (by decide)] : I1 340 9 = _).trans w96_0)) dv2 rfl rfl) hW hS hF hO (dkN_sub r96_0 rfl) (lv_sub hl [0, 1] rfl)
      refine lv_aload_n hx hb dX6_advances_38 rfl (lv_at hl 0 rfl) ?_
      refine lv_aload_n hx hb dX6_advances_39 rfl (lv_at hl 0 rfl) ?_
      refine dk_get (k := 340) hx hb hts iX6_advances_6 hown hK (dk_at340 hW) rfl 9 (by decide) (hts (.fieldLink RX6 86 "DogKingsModel" "at" "I") (List.mem_of_getElem? (i := 1) rfl)) rfl dX6_advances_40 ?_
      refine lv_topi (fun v6 ev6 => ?_)
      have dv6 : dkN [(0, 90)] v6 := by rw [ev6]; exact (hO 340 9)
      refine dk_Vi (As := [.int v6]) (rest := []) ⟨hx, hb, hml, hown, hts⟩ (c_X6_byteAt_0 l g z I38_ v6 dv6 hO) (cwV 1 hts gX6_advances_X6_byteAt rfl rfl rfl (by decide +kernel) ⟨Nat.le_of_ble_eq_true rfl, Nat.le_of_ble_eq_true rfl⟩) (dk_at340 hW) rfl hK hT hW hS rfl hl.1 rfl (Nat.le_of_ble_eq_true rfl) dX6_advances_43 ⟨Nat.zero_le _, Nat.zero_le _⟩ (fun v7 I7 H7 L7 hp7 hW hS => ?_)
      obtain ⟨hF7, hO, hc7⟩ := hp7
      have hF := dkF_call hF hF7 rfl
      rcases hc7 with ⟨dv7, -⟩ | hc7
      ·
        refine lv_bipush (v := 48) hx hb dX6_advances_46 (by decide) ?_
        refine lv_bipush (v := 57) hx hb dX6_advances_48 (by decide) ?_
        refine dk_Si (As := [.int v7, .int 48, .int 57]) (rest := []) ⟨hx, hb, hml, hown, hts⟩ (c_X6_in_4 l g z I7 v7 48 57 dv7 (dkN_lit (x := 48) (48) rfl) (dkN_lit (x := 57) (57) rfl) hO) (va_cwS 3 hts gX6_advances_X6_in rfl rfl rfl (by decide +kernel) ⟨Nat.le_of_ble_eq_true rfl, Nat.le_of_ble_eq_true rfl⟩) hK hT hW hS rfl hl.1 rfl (Nat.le_of_ble_eq_true rfl) dX6_advances_50 ⟨Nat.zero_le _, Nat.zero_le _⟩ (fun v8 I8 H8 L8 hp8 hW hS => ?_)
        obtain ⟨hF8, hO, hc8⟩ := hp8
        have hF := dkF_call hF hF8 rfl
        obtain ⟨dv8, -⟩ := hc8
        refine lv_if_eq (tgt := 112) hx hb dX6_advances_53 (by decide) (fun c9 => ?_) (fun c9 => ?_)
        ·
          refine lv_aload_n hx hb dX6_advances_112 rfl (lv_at hl 0 rfl) ?_
          refine lv_aload_n hx hb dX6_advances_113 rfl (lv_at hl 0 rfl) ?_
          refine dk_get (k := 340) hx hb hts iX6_advances_6 hown hK (dk_at340 hW) rfl 9 (by decide) (hts (.fieldLink RX6 86 "DogKingsModel" "at" "I") (List.mem_of_getElem? (i := 1) rfl)) rfl dX6_advances_114 ?_
          refine lv_topi (fun v10 ev10 => ?_)
          have dv10 : dkN [(0, 90)] v10 := by rw [ev10]; exact (hO 340 9)
          refine lv_aload_n hx hb dX6_advances_117 rfl (lv_at hl 0 rfl) ?_
          refine dk_get (k := 340) hx hb hts iX6_advances_6 hown hK (dk_at340 hW) rfl 10 (by decide) (hts (.fieldLink RX6 89 "DogKingsModel" "start" "I") (List.mem_of_getElem? (i := 2) rfl)) rfl dX6_advances_118 ?_
          refine lv_topi (fun v11 ev11 => ?_)
          have dv11 : dkN [(0, 90)] v11 := by rw [ev11]; exact (hO 340 10)
          refine lv_isub hx hb dX6_advances_121 ?_
          refine lv_topi (fun v12 ev12 => ?_)
          have dv12 : dkN [(-90, 90)] v12 := by rw [ev12]; exact dkN_subt dv10 dv11 rfl
          refine lv_iconst (v := 3) hx hb dX6_advances_122 (by decide) ?_
          refine lv_icmp_ge (tgt := 130) hx hb dX6_advances_123 (by decide) (fun c13 => ?_) (fun c13 => ?_)
          ·
            have d14 : dkN [(3, 90)] v12 := dkN_le2 0 (dkN_lit (x := 3) (3) rfl) dv12 (dkc_le c13) rfl
            refine lv_iconst (v := 5) hx hb dX6_advances_130 (by decide) ?_
            refine dk_put (k := 340) hx hb hts iX6_advances_6 tyX6 tyX6_ok nmX6 hown hK hW (dk_at340 hW) hS rfl 11 (by decide) (hts (.fieldLink RX6 98 "DogKingsModel" "token" "I") (List.mem_of_getElem? (i := 4) rfl)) rfl rfl (Nat.le_of_ble_eq_true rfl) rfl dX6_advances_131 (fun I15 H15 L15 eI15 hW hS => ?_)
            have eI15 : I15 = dkU I8 340 11 5 := eI15
            have hO := dkO_set hO eI15 (dkN_sub (dkN_lit (x := 5) (5) rfl) rfl)
            have hF := dkF_set hF eI15 rfl
            exact W.vret hx hb hr (fun t ht hW9 => ⟨⟨I15, rfl, ⟨hF, hO, ⟨(show dkN [(0, 5)] (I15 340 11) from dkN_sub (by rw [eI15, dkU_ss]; exact (dkN_lit (x := 5) (5) rfl)) rfl), trivial⟩⟩, dkW_eq ht hW⟩, hS.F ht⟩) hS.2.2 dX6_advances_134
          ·
            have d16 : dkN [(-90, 2)] v12 := dkN_le1 1 dv12 (dkN_lit (x := 3) (3) rfl) (dkc_nle c13) rfl
            refine lv_iconst (v := 2) hx hb dX6_advances_126 (by decide) ?_
            refine lv_goto (tgt := 131) hx hb dX6_advances_127 (by decide) ?_
            refine dk_put (k := 340) hx hb hts iX6_advances_6 tyX6 tyX6_ok nmX6 hown hK hW (dk_at340 hW) hS rfl 11 (by decide) (hts (.fieldLink RX6 98 "DogKingsModel" "token" "I") (List.mem_of_getElem? (i := 4) rfl)) rfl rfl (Nat.le_of_ble_eq_true rfl) rfl dX6_advances_131 (fun I17 H17 L17 eI17 hW hS => ?_)
            have eI17 : I17 = dkU I8 340 11 2 := eI17
            have hO := dkO_set hO eI17 (dkN_sub (dkN_lit (x := 2) (2) rfl) rfl)
            have hF := dkF_set hF eI17 rfl
            exact W.vret hx hb hr (fun t ht hW9 => ⟨⟨I17, rfl, ⟨hF, hO, ⟨(show dkN [(0, 5)] (I17 340 11) from dkN_sub (by rw [eI17, dkU_ss]; exact (dkN_lit (x := 2) (2) rfl)) rfl), trivial⟩⟩, dkW_eq ht hW⟩, hS.F ht⟩) hS.2.2 dX6_advances_134
        ·
          exact (dkN_nil (show dkN [] v8 from dkN_ne1 (0) dv8 (dkN_lit (x := 0) (0) rfl) (dk_ne c9) rfl)).elim
      ·
        obtain ⟨dv7, a7_0, f7_340_6, -⟩ := hc7
        have e18 : v6 = I7 340 9 := by rw [hF7 340 9 rfl]; exact ev6
        have d19 : dkN [(0, 89)] v6 := dkN_eq1 dv6 a7_0 rfl rfl
        have f20 : dkN [(0, 89)] (I7 340 9) := by rw [← e18]; exact d19
        refine lv_bipush (v := 48) hx hb dX6_advances_46 (by decide) ?_
        refine lv_bipush (v := 57) hx hb dX6_advances_48 (by decide) ?_
        refine dk_Si (As := [.int v7, .int 48, .int 57]) (rest := []) ⟨hx, hb, hml, hown, hts⟩ (c_X6_in_5 l g z I7 v7 48 57 dv7 (dkN_lit (x := 48) (48) rfl) (dkN_lit (x := 57) (57) rfl) hO) (va_cwS 3 hts gX6_advances_X6_in rfl rfl rfl (by decide +kernel) ⟨Nat.le_of_ble_eq_true rfl, Nat.le_of_ble_eq_true rfl⟩) hK hT hW hS rfl hl.1 rfl (Nat.le_of_ble_eq_true rfl) dX6_advances_50 ⟨Nat.zero_le _, Nat.zero_le _⟩ (fun v21 I21 H21 L21 hp21 hW hS => ?_)
        obtain ⟨hF21, hO, hc21⟩ := hp21
        have hF := dkF_call hF hF21 rfl
        rcases hc21 with ⟨dv21, a21_0, -⟩ | hc21
        ·
          have d22 : dkN [(0, 47), (58, 255)] v7 := dkN_eq1 dv7 a21_0 rfl rfl
          refine lv_if_eq (tgt := 112) hx hb dX6_advances_53 (by decide) (fun c23 => ?_) (fun c23 => ?_)
          ·
            refine lv_aload_n hx hb dX6_advances_112 rfl (lv_at hl 0 rfl) ?_
            refine lv_aload_n hx hb dX6_advances_113 rfl (lv_at hl 0 rfl) ?_
            refine dk_get (k := 340) hx hb hts iX6_advances_6 hown hK (dk_at340 hW) rfl 9 (by decide) (hts (.fieldLink RX6 86 "DogKingsModel" "at" "I") (List.mem_of_getElem? (i := 1) rfl)) rfl dX6_advances_114 ?_
            refine lv_topi (fun v24 ev24 => ?_)
            have dv24 : dkN [(0, 89)] v24 := by rw [ev24]; exact (by rw [hF21 340 9 rfl]; exact f20)
            refine lv_aload_n hx hb dX6_advances_117 rfl (lv_at hl 0 rfl) ?_
            refine dk_get (k := 340) hx hb hts iX6_advances_6 hown hK (dk_at340 hW) rfl 10 (by decide) (hts (.fieldLink RX6 89 "DogKingsModel" "start" "I") (List.mem_of_getElem? (i := 2) rfl)) rfl dX6_advances_118 ?_
            refine lv_topi (fun v25 ev25 => ?_)
            have dv25 : dkN [(0, 90)] v25 := by rw [ev25]; exact (hO 340 10)
            refine lv_isub hx hb dX6_advances_121 ?_
            refine lv_topi (fun v26 ev26 => ?_)
            have dv26 : dkN [(-90, 89)] v26 := by rw [ev26]; exact dkN_subt dv24 dv25 rfl
            refine lv_iconst (v := 3) hx hb dX6_advances_122 (by decide) ?_
            refine lv_icmp_ge (tgt := 130) hx hb dX6_advances_123 (by decide) (fun c27 => ?_) (fun c27 => ?_)
            ·
              have d28 : dkN [(3, 89)] v26 := dkN_le2 0 (dkN_lit (x := 3) (3) rfl) dv26 (dkc_le c27) rfl
              refine lv_iconst (v := 5) hx hb dX6_advances_130 (by decide) ?_
              refine dk_put (k := 340) hx hb hts iX6_advances_6 tyX6 tyX6_ok nmX6 hown hK hW (dk_at340 hW) hS rfl 11 (by decide) (hts (.fieldLink RX6 98 "DogKingsModel" "token" "I") (List.mem_of_getElem? (i := 4) rfl)) rfl rfl (Nat.le_of_ble_eq_true rfl) rfl dX6_advances_131 (fun I29 H29 L29 eI29 hW hS => ?_)
              have eI29 : I29 = dkU I21 340 11 5 := eI29
              have hO := dkO_set hO eI29 (dkN_sub (dkN_lit (x := 5) (5) rfl) rfl)
              have hF := dkF_set hF eI29 rfl
              exact W.vret hx hb hr (fun t ht hW9 => ⟨⟨I29, rfl, ⟨hF, hO, ⟨(show dkN [(0, 5)] (I29 340 11) from dkN_sub (by rw [eI29, dkU_ss]; exact (dkN_lit (x := 5) (5) rfl)) rfl), trivial⟩⟩, dkW_eq ht hW⟩, hS.F ht⟩) hS.2.2 dX6_advances_134
            ·
              have d30 : dkN [(-90, 2)] v26 := dkN_le1 1 dv26 (dkN_lit (x := 3) (3) rfl) (dkc_nle c27) rfl
              refine lv_iconst (v := 2) hx hb dX6_advances_126 (by decide) ?_
              refine lv_goto (tgt := 131) hx hb dX6_advances_127 (by decide) ?_
              refine dk_put (k := 340) hx hb hts iX6_advances_6 tyX6 tyX6_ok nmX6 hown hK hW (dk_at340 hW) hS rfl 11 (by decide) (hts (.fieldLink RX6 98 "DogKingsModel" "token" "I") (List.mem_of_getElem? (i := 4) rfl)) rfl rfl (Nat.le_of_ble_eq_true rfl) rfl dX6_advances_131 (fun I31 H31 L31 eI31 hW hS => ?_)
              have eI31 : I31 = dkU I21 340 11 2 := eI31
              have hO := dkO_set hO eI31 (dkN_sub (dkN_lit (x := 2) (2) rfl) rfl)
              have hF := dkF_set hF eI31 rfl
              exact W.vret hx hb hr (fun t ht hW9 => ⟨⟨I31, rfl, ⟨hF, hO, ⟨(show dkN [(0, 5)] (I31 340 11) from dkN_sub (by rw [eI31, dkU_ss]; exact (dkN_lit (x := 2) (2) rfl)) rfl), trivial⟩⟩, dkW_eq ht hW⟩, hS.F ht⟩) hS.2.2 dX6_advances_134
          ·
            exact (dkN_nil (show dkN [] v21 from dkN_ne1 (0) dv21 (dkN_lit (x := 0) (0) rfl) (dk_ne c23) rfl)).elim
        ·
          obtain ⟨dv21, a21_0, -⟩ := hc21
          have d32 : dkN [(48, 57)] v7 := dkN_eq1 dv7 a21_0 rfl rfl
          refine lv_if_eq (tgt := 112) hx hb dX6_advances_53 (by decide) (fun c33 => ?_) (fun c33 => ?_)
          ·
            exact (dkN_nil (show dkN [] v21 from dkN_eq1 dv21 (dkN_lit (x := 0) (0) rfl) (congrArg Int32.toInt c33) rfl)).elim
          ·
            refine lv_aload_n hx hb dX6_advances_56 rfl (lv_at hl 0 rfl) ?_
            refine lv_aload_n hx hb dX6_advances_57 rfl (lv_at hl 0 rfl) ?_
            refine dk_get (k := 340) hx hb hts iX6_advances_6 hown hK (dk_at340 hW) rfl 9 (by decide) (hts (.fieldLink RX6 86 "DogKingsModel" "at" "I") (List.mem_of_getElem? (i := 1) rfl)) rfl dX6_advances_58 ?_
            refine lv_topi (fun v34 ev34 => ?_)
            have dv34 : dkN [(0, 89)] v34 := by rw [ev34]; exact (by rw [hF21 340 9 rfl]; exact f20)
            refine lv_aload_n hx hb dX6_advances_61 rfl (lv_at hl 0 rfl) ?_
            refine dk_get (k := 340) hx hb hts iX6_advances_6 hown hK (dk_at340 hW) rfl 10 (by decide) (hts (.fieldLink RX6 89 "DogKingsModel" "start" "I") (List.mem_of_getElem? (i := 2) rfl)) rfl dX6_advances_62 ?_
            refine lv_topi (fun v35 ev35 => ?_)
            have dv35 : dkN [(0, 90)] v35 := by rw [ev35]; exact (hO 340 10)
            refine lv_isub hx hb dX6_advances_65 ?_
            refine lv_topi (fun v36 ev36 => ?_)
            have dv36 : dkN [(-90, 89)] v36 := by rw [ev36]; exact dkN_subt dv34 dv35 rfl
            refine lv_iconst (v := 2) hx hb dX6_advances_66 (by decide) ?_
            refine lv_icmp_ge (tgt := 92) hx hb dX6_advances_67 (by decide) (fun c37 => ?_) (fun c37 => ?_)
            ·
              have d38 : dkN [(2, 89)] v36 := dkN_le2 0 (dkN_lit (x := 2) (2) rfl) dv36 (dkc_le c37) rfl
              refine lv_aload_n hx hb dX6_advances_92 rfl (lv_at hl 0 rfl) ?_
              refine dk_get (k := 340) hx hb hts iX6_advances_6 hown hK (dk_at340 hW) rfl 12 (by decide) (hts (.fieldLink RX6 95 "DogKingsModel" "value" "I") (List.mem_of_getElem? (i := 3) rfl)) rfl dX6_advances_93 ?_
              refine lv_topi (fun v39 ev39 => ?_)
              exact C96 I21 _ _ ls v39 hW hS hF hO (dkN_sub k38_0 rfl) (show dkN [(0, 89)] (I21 340 9) from dkN_sub (by rw [hF21 340 9 rfl]; exact f20) rfl) ((hF21 340 9 rfl).trans ((hF7 340 9 rfl).trans rfl)) (lv_sub hl [0, 1] rfl)
            ·
              have d40 : dkN [(-90, 1)] v36 := dkN_le1 1 dv36 (dkN_lit (x := 2) (2) rfl) (dkc_nle c37) rfl
              refine lv_bipush (v := 10) hx hb dX6_advances_70 (by decide) ?_
              refine lv_aload_n hx hb dX6_advances_72 rfl (lv_at hl 0 rfl) ?_
              refine dk_get (k := 340) hx hb hts iX6_advances_6 hown hK (dk_at340 hW) rfl 12 (by decide) (hts (.fieldLink RX6 95 "DogKingsModel" "value" "I") (List.mem_of_getElem? (i := 3) rfl)) rfl dX6_advances_73 ?_
              refine lv_topi (fun v41 ev41 => ?_)
              refine lv_imul hx hb dX6_advances_76 ?_
              refine lv_topi (fun v42 ev42 => ?_)
              refine lv_aload_n hx hb dX6_advances_77 rfl (lv_at hl 0 rfl) ?_
              refine lv_aload_n hx hb dX6_advances_78 rfl (lv_at hl 0 rfl) ?_
              refine dk_get (k := 340) hx hb hts iX6_advances_6 hown hK (dk_at340 hW) rfl 9 (by decide) (hts (.fieldLink RX6 86 "DogKingsModel" "at" "I") (List.mem_of_getElem? (i := 1) rfl)) rfl dX6_advances_79 ?_
              refine lv_topi (fun v43 ev43 => ?_)
              have dv43 : dkN [(0, 89)] v43 := by rw [ev43]; exact (by rw [hF21 340 9 rfl]; exact f20)
              refine dk_Vi (As := [.int v43]) (rest := [.int v42, .ref (z + 340)]) ⟨hx, hb, hml, hown, hts⟩ (c_X6_byteAt_1 l g z I21 v43 dv43 hO) (cwV 1 hts gX6_advances_X6_byteAt rfl rfl rfl (by decide +kernel) ⟨Nat.le_of_ble_eq_true rfl, Nat.le_of_ble_eq_true rfl⟩) (dk_at340 hW) rfl hK hT hW hS rfl hl.1 rfl (Nat.le_of_ble_eq_true rfl) dX6_advances_82 ⟨Nat.zero_le _, Nat.zero_le _⟩ (fun v44 I44 H44 L44 hp44 hW hS => ?_)
              obtain ⟨hF44, hO, hc44⟩ := hp44
              have hF := dkF_call hF hF44 rfl
              rcases hc44 with ⟨dv44, f44_340_6, -⟩ | hc44
              ·
                refine lv_iadd hx hb dX6_advances_85 ?_
                refine lv_topi (fun v45 ev45 => ?_)
                refine lv_bipush (v := 48) hx hb dX6_advances_86 (by decide) ?_
                refine lv_isub hx hb dX6_advances_88 ?_
                refine lv_topi (fun v46 ev46 => ?_)
                refine lv_goto (tgt := 96) hx hb dX6_advances_89 (by decide) ?_
                exact C96 I44 _ _ ls v46 hW hS hF hO (dkN_sub k38_0 rfl) (show dkN [(0, 89)] (I44 340 9) from dkN_sub (by rw [hF44 340 9 rfl]; exact (by rw [hF21 340 9 rfl]; exact f20)) rfl) ((hF44 340 9 rfl).trans ((hF21 340 9 rfl).trans ((hF7 340 9 rfl).trans rfl))) (lv_sub hl [0, 1] rfl)
              ·
                obtain ⟨dv44, f44_340_6, -⟩ := hc44
                refine lv_iadd hx hb dX6_advances_85 ?_
                refine lv_topi (fun v47 ev47 => ?_)
                refine lv_bipush (v := 48) hx hb dX6_advances_86 (by decide) ?_
                refine lv_isub hx hb dX6_advances_88 ?_
                refine lv_topi (fun v48 ev48 => ?_)
                refine lv_goto (tgt := 96) hx hb dX6_advances_89 (by decide) ?_
                exact C96 I44 _ _ ls v48 hW hS hF hO (dkN_sub k38_0 rfl) (show dkN [(0, 89)] (I44 340 9) from dkN_sub (by rw [hF44 340 9 rfl]; exact (by rw [hF21 340 9 rfl]; exact f20)) rfl) ((hF44 340 9 rfl).trans ((hF21 340 9 rfl).trans ((hF7 340 9 rfl).trans rfl))) (lv_sub hl [0, 1] rfl)
  refine lv_aload_n hx hb dX6_advances_0 rfl (lv_at hl 0 rfl) ?_
  refine lv_aload_n hx hb dX6_advances_1 rfl (lv_at hl 0 rfl) ?_
  refine dk_get (k := 340) hx hb hts iX6_advances_6 hown hK (dk_at340 hW) rfl 9 (by decide) (hts (.fieldLink RX6 86 "DogKingsModel" "at" "I") (List.mem_of_getElem? (i := 1) rfl)) rfl dX6_advances_2 ?_
  refine lv_topi (fun v49 ev49 => ?_)
  have dv49 : dkN [(0, 90)] v49 := by rw [ev49]; exact (hO 340 9)
  refine dk_put (k := 340) hx hb hts iX6_advances_6 tyX6 tyX6_ok nmX6 hown hK hW (dk_at340 hW) hS rfl 10 (by decide) (hts (.fieldLink RX6 89 "DogKingsModel" "start" "I") (List.mem_of_getElem? (i := 2) rfl)) rfl rfl (Nat.le_of_ble_eq_true rfl) rfl dX6_advances_5 (fun I50 H50 L50 eI50 hW hS => ?_)
  have eI50 : I50 = dkU I0 340 10 v49 := eI50
  have hO := dkO_set hO eI50 (dkN_sub dv49 rfl)
  have hF := dkF_set hF eI50 rfl
  refine lv_aload_n hx hb dX6_advances_8 rfl (lv_at hl 0 rfl) ?_
  refine lv_aload_n hx hb dX6_advances_9 rfl (lv_at hl 0 rfl) ?_
  refine dk_get (k := 340) hx hb hts iX6_advances_6 hown hK (dk_at340 hW) rfl 9 (by decide) (hts (.fieldLink RX6 86 "DogKingsModel" "at" "I") (List.mem_of_getElem? (i := 1) rfl)) rfl dX6_advances_10 ?_
  refine lv_topi (fun v51 ev51 => ?_)
  have dv51 : dkN [(0, 90)] v51 := by rw [ev51]; exact (hO 340 9)
  refine dk_Vi (As := [.int v51]) (rest := []) ⟨hx, hb, hml, hown, hts⟩ (c_X6_byteAt_0 l g z I50 v51 dv51 hO) (cwV 1 hts gX6_advances_X6_byteAt rfl rfl rfl (by decide +kernel) ⟨Nat.le_of_ble_eq_true rfl, Nat.le_of_ble_eq_true rfl⟩) (dk_at340 hW) rfl hK hT hW hS rfl hl.1 rfl (Nat.le_of_ble_eq_true rfl) dX6_advances_13 ⟨Nat.zero_le _, Nat.zero_le _⟩ (fun v52 I52 H52 L52 hp52 hW hS => ?_)
  obtain ⟨hF52, hO, hc52⟩ := hp52
  have hF := dkF_call hF hF52 rfl
  rcases hc52 with ⟨dv52, -⟩ | hc52
  ·
    refine lv_istore_n (lv' := [(1, .int v52), (0, .ref (z + 340))]) hx hb dX6_advances_16 rfl hl (by decide) rfl (fun ls hl => ?_)
    refine lv_aload_n hx hb dX6_advances_17 rfl (lv_at hl 1 rfl) ?_
    refine lv_iload_n hx hb dX6_advances_18 rfl (lv_at hl 0 rfl) ?_
    refine dk_put (k := 340) hx hb hts iX6_advances_6 tyX6 tyX6_ok nmX6 hown hK hW (dk_at340 hW) hS rfl 12 (by decide) (hts (.fieldLink RX6 95 "DogKingsModel" "value" "I") (List.mem_of_getElem? (i := 3) rfl)) rfl rfl (Nat.le_of_ble_eq_true rfl) rfl dX6_advances_19 (fun I53 H53 L53 eI53 hW hS => ?_)
    have eI53 : I53 = dkU I52 340 12 v52 := eI53
    have hO := dkO_set hO eI53 (dkN_sub dv52 rfl)
    have hF := dkF_set hF eI53 rfl
    refine lv_iload_n hx hb dX6_advances_22 rfl (lv_at hl 0 rfl) ?_
    refine lv_bipush (v := 48) hx hb dX6_advances_23 (by decide) ?_
    refine lv_bipush (v := 57) hx hb dX6_advances_25 (by decide) ?_
    refine dk_Si (As := [.int v52, .int 48, .int 57]) (rest := []) ⟨hx, hb, hml, hown, hts⟩ (c_X6_in_4 l g z I53 v52 48 57 dv52 (dkN_lit (x := 48) (48) rfl) (dkN_lit (x := 57) (57) rfl) hO) (va_cwS 3 hts gX6_advances_X6_in rfl rfl rfl (by decide +kernel) ⟨Nat.le_of_ble_eq_true rfl, Nat.le_of_ble_eq_true rfl⟩) hK hT hW hS rfl hl.1 rfl (Nat.le_of_ble_eq_true rfl) dX6_advances_27 ⟨Nat.zero_le _, Nat.zero_le _⟩ (fun v54 I54 H54 L54 hp54 hW hS => ?_)
    obtain ⟨hF54, hO, hc54⟩ := hp54
    have hF := dkF_call hF hF54 rfl
    obtain ⟨dv54, -⟩ := hc54
    refine lv_if_eq (tgt := 135) hx hb dX6_advances_30 (by decide) (fun c55 => ?_) (fun c55 => ?_)
    ·
      refine lv_aload_n hx hb dX6_advances_135 rfl (lv_at hl 1 rfl) ?_
      refine lv_iload_n hx hb dX6_advances_136 rfl (lv_at hl 0 rfl) ?_
      refine lv_if_ge (tgt := 144) hx hb dX6_advances_137 (by decide) (fun c56 => ?_) (fun c56 => ?_)
      ·
        exact (dkN_nil (show dkN [] 0 from dkN_le1 0 (dkN_lit (x := 0) (0) rfl) dv52 (dkc_le c56) rfl)).elim
      ·
        refine lv_iconst (v := 0) hx hb dX6_advances_140 (by decide) ?_
        refine lv_goto (tgt := 180) hx hb dX6_advances_141 (by decide) ?_
        refine dk_put (k := 340) hx hb hts iX6_advances_6 tyX6 tyX6_ok nmX6 hown hK hW (dk_at340 hW) hS rfl 11 (by decide) (hts (.fieldLink RX6 98 "DogKingsModel" "token" "I") (List.mem_of_getElem? (i := 4) rfl)) rfl rfl (Nat.le_of_ble_eq_true rfl) rfl dX6_advances_180 (fun I57 H57 L57 eI57 hW hS => ?_)
        have eI57 : I57 = dkU I54 340 11 0 := eI57
        have hO := dkO_set hO eI57 (dkN_sub (dkN_lit (x := 0) (0) rfl) rfl)
        have hF := dkF_set hF eI57 rfl
        refine lv_aload_n hx hb dX6_advances_183 rfl (lv_at hl 1 rfl) ?_
        refine lv_dup hx hb dX6_advances_184 rfl ?_
        refine dk_get (k := 340) hx hb hts iX6_advances_6 hown hK (dk_at340 hW) rfl 9 (by decide) (hts (.fieldLink RX6 86 "DogKingsModel" "at" "I") (List.mem_of_getElem? (i := 1) rfl)) rfl dX6_advances_185 ?_
        refine lv_topi (fun v58 ev58 => ?_)
        have dv58 : dkN [(0, 90)] v58 := by rw [ev58]; exact (hO 340 9)
        refine lv_aload_n hx hb dX6_advances_188 rfl (lv_at hl 1 rfl) ?_
        refine dk_get (k := 340) hx hb hts iX6_advances_6 hown hK (dk_at340 hW) rfl 11 (by decide) (hts (.fieldLink RX6 98 "DogKingsModel" "token" "I") (List.mem_of_getElem? (i := 4) rfl)) rfl dX6_advances_189 ?_
        refine lv_topi (fun v59 ev59 => ?_)
        have dv59 : dkN [(0, 0)] v59 := by rw [ev59]; exact (by rw [eI57, dkU_ss]; exact (dkN_lit (x := 0) (0) rfl))
        refine lv_if_ne (tgt := 199) hx hb dX6_advances_192 (by decide) (fun c60 => ?_) (fun c60 => ?_)
        ·
          exact (dkN_nil (show dkN [] v59 from dkN_ne1 (0) dv59 (dkN_lit (x := 0) (0) rfl) (dk_ne c60) rfl)).elim
        ·
          refine lv_iconst (v := 0) hx hb dX6_advances_195 (by decide) ?_
          refine lv_goto (tgt := 200) hx hb dX6_advances_196 (by decide) ?_
          refine lv_iadd hx hb dX6_advances_200 ?_
          refine lv_topi (fun v61 ev61 => ?_)
          have dv61 : dkN [(0, 90)] v61 := by rw [ev61]; exact dkN_add dv58 (dkN_lit (x := 0) (0) rfl) rfl
          refine dk_put (k := 340) hx hb hts iX6_advances_6 tyX6 tyX6_ok nmX6 hown hK hW (dk_at340 hW) hS rfl 9 (by decide) (hts (.fieldLink RX6 86 "DogKingsModel" "at" "I") (List.mem_of_getElem? (i := 1) rfl)) rfl rfl (Nat.le_of_ble_eq_true rfl) rfl dX6_advances_201 (fun I62 H62 L62 eI62 hW hS => ?_)
          have eI62 : I62 = dkU I57 340 9 v61 := eI62
          have hO := dkO_set hO eI62 (dkN_sub dv61 rfl)
          have hF := dkF_set hF eI62 rfl
          exact W.vret hx hb hr (fun t ht hW9 => ⟨⟨I62, rfl, ⟨hF, hO, ⟨(show dkN [(0, 5)] (I62 340 11) from dkN_sub (by rw [eI62, dkU_sn (by decide)]; exact (by rw [eI57, dkU_ss]; exact (dkN_lit (x := 0) (0) rfl))) rfl), trivial⟩⟩, dkW_eq ht hW⟩, hS.F ht⟩) hS.2.2 dX6_advances_204
    ·
      exact (dkN_nil (show dkN [] v54 from dkN_ne1 (0) dv54 (dkN_lit (x := 0) (0) rfl) (dk_ne c55) rfl)).elim
  ·
    obtain ⟨dv52, a52_0, f52_340_6, -⟩ := hc52
    have e63 : v51 = I52 340 9 := by rw [hF52 340 9 rfl]; exact ev51
    have d64 : dkN [(0, 89)] v51 := dkN_eq1 dv51 a52_0 rfl rfl
    have f65 : dkN [(0, 89)] (I52 340 9) := by rw [← e63]; exact d64
    refine lv_istore_n (lv' := [(1, .int v52), (0, .ref (z + 340))]) hx hb dX6_advances_16 rfl hl (by decide) rfl (fun ls hl => ?_)
    refine lv_aload_n hx hb dX6_advances_17 rfl (lv_at hl 1 rfl) ?_
    refine lv_iload_n hx hb dX6_advances_18 rfl (lv_at hl 0 rfl) ?_
    refine dk_put (k := 340) hx hb hts iX6_advances_6 tyX6 tyX6_ok nmX6 hown hK hW (dk_at340 hW) hS rfl 12 (by decide) (hts (.fieldLink RX6 95 "DogKingsModel" "value" "I") (List.mem_of_getElem? (i := 3) rfl)) rfl rfl (Nat.le_of_ble_eq_true rfl) rfl dX6_advances_19 (fun I66 H66 L66 eI66 hW hS => ?_)
    have eI66 : I66 = dkU I52 340 12 v52 := eI66
    have hO := dkO_set hO eI66 (dkN_sub dv52 rfl)
    have hF := dkF_set hF eI66 rfl
    refine lv_iload_n hx hb dX6_advances_22 rfl (lv_at hl 0 rfl) ?_
    refine lv_bipush (v := 48) hx hb dX6_advances_23 (by decide) ?_
    refine lv_bipush (v := 57) hx hb dX6_advances_25 (by decide) ?_
    refine dk_Si (As := [.int v52, .int 48, .int 57]) (rest := []) ⟨hx, hb, hml, hown, hts⟩ (c_X6_in_5 l g z I66 v52 48 57 dv52 (dkN_lit (x := 48) (48) rfl) (dkN_lit (x := 57) (57) rfl) hO) (va_cwS 3 hts gX6_advances_X6_in rfl rfl rfl (by decide +kernel) ⟨Nat.le_of_ble_eq_true rfl, Nat.le_of_ble_eq_true rfl⟩) hK hT hW hS rfl hl.1 rfl (Nat.le_of_ble_eq_true rfl) dX6_advances_27 ⟨Nat.zero_le _, Nat.zero_le _⟩ (fun v67 I67 H67 L67 hp67 hW hS => ?_)
    obtain ⟨hF67, hO, hc67⟩ := hp67
    have hF := dkF_call hF hF67 rfl
    rcases hc67 with ⟨dv67, a67_0, -⟩ | hc67
    ·
      have d68 : dkN [(0, 47), (58, 255)] v52 := dkN_eq1 dv52 a67_0 rfl rfl
      refine lv_if_eq (tgt := 135) hx hb dX6_advances_30 (by decide) (fun c69 => ?_) (fun c69 => ?_)
      ·
        refine lv_aload_n hx hb dX6_advances_135 rfl (lv_at hl 1 rfl) ?_
        refine lv_iload_n hx hb dX6_advances_136 rfl (lv_at hl 0 rfl) ?_
        refine lv_if_ge (tgt := 144) hx hb dX6_advances_137 (by decide) (fun c70 => ?_) (fun c70 => ?_)
        ·
          refine lv_iload_n hx hb dX6_advances_144 rfl (lv_at hl 0 rfl) ?_
          refine lv_bipush (v := 97) hx hb dX6_advances_145 (by decide) ?_
          refine lv_bipush (v := 122) hx hb dX6_advances_147 (by decide) ?_
          refine dk_Si (As := [.int v52, .int 97, .int 122]) (rest := [.ref (z + 340)]) ⟨hx, hb, hml, hown, hts⟩ (c_X6_in_6 l g z I67 v52 97 122 d68 (dkN_lit (x := 97) (97) rfl) (dkN_lit (x := 122) (122) rfl) hO) (va_cwS 3 hts gX6_advances_X6_in rfl rfl rfl (by decide +kernel) ⟨Nat.le_of_ble_eq_true rfl, Nat.le_of_ble_eq_true rfl⟩) hK hT hW hS rfl hl.1 rfl (Nat.le_of_ble_eq_true rfl) dX6_advances_149 ⟨Nat.zero_le _, Nat.zero_le _⟩ (fun v71 I71 H71 L71 hp71 hW hS => ?_)
          obtain ⟨hF71, hO, hc71⟩ := hp71
          have hF := dkF_call hF hF71 rfl
          rcases hc71 with ⟨dv71, a71_0, -⟩ | hc71
          ·
            have d72 : dkN [(0, 47), (58, 96), (123, 255)] v52 := dkN_eq1 d68 a71_0 rfl rfl
            refine lv_if_eq (tgt := 159) hx hb dX6_advances_152 (by decide) (fun c73 => ?_) (fun c73 => ?_)
            ·
              refine lv_iload_n hx hb dX6_advances_159 rfl (lv_at hl 0 rfl) ?_
              refine lv_bipush (v := 44) hx hb dX6_advances_160 (by decide) ?_
              refine lv_icmp_ne (tgt := 169) hx hb dX6_advances_162 (by decide) (fun c74 => ?_) (fun c74 => ?_)
              ·
                have d75 : dkN [(0, 43), (45, 47), (58, 96), (123, 255)] v52 := dkN_ne1 (44) d72 (dkN_lit (x := 44) (44) rfl) (dk_ne c74) rfl
                refine lv_iload_n hx hb dX6_advances_169 rfl (lv_at hl 0 rfl) ?_
                refine lv_bipush (v := 59) hx hb dX6_advances_170 (by decide) ?_
                refine lv_icmp_ne (tgt := 179) hx hb dX6_advances_172 (by decide) (fun c76 => ?_) (fun c76 => ?_)
                ·
                  have d77 : dkN [(0, 43), (45, 47), (58, 58), (60, 96), (123, 255)] v52 := dkN_ne1 (59) d75 (dkN_lit (x := 59) (59) rfl) (dk_ne c76) rfl
                  refine lv_iconst (v := 5) hx hb dX6_advances_179 (by decide) ?_
                  refine dk_put (k := 340) hx hb hts iX6_advances_6 tyX6 tyX6_ok nmX6 hown hK hW (dk_at340 hW) hS rfl 11 (by decide) (hts (.fieldLink RX6 98 "DogKingsModel" "token" "I") (List.mem_of_getElem? (i := 4) rfl)) rfl rfl (Nat.le_of_ble_eq_true rfl) rfl dX6_advances_180 (fun I78 H78 L78 eI78 hW hS => ?_)
                  have eI78 : I78 = dkU I71 340 11 5 := eI78
                  have hO := dkO_set hO eI78 (dkN_sub (dkN_lit (x := 5) (5) rfl) rfl)
                  have hF := dkF_set hF eI78 rfl
                  refine lv_aload_n hx hb dX6_advances_183 rfl (lv_at hl 1 rfl) ?_
                  refine lv_dup hx hb dX6_advances_184 rfl ?_
                  refine dk_get (k := 340) hx hb hts iX6_advances_6 hown hK (dk_at340 hW) rfl 9 (by decide) (hts (.fieldLink RX6 86 "DogKingsModel" "at" "I") (List.mem_of_getElem? (i := 1) rfl)) rfl dX6_advances_185 ?_
                  refine lv_topi (fun v79 ev79 => ?_)
                  have dv79 : dkN [(0, 89)] v79 := by rw [ev79]; exact (by rw [eI78, dkU_sn (by decide)]; exact (by rw [hF71 340 9 rfl]; exact (by rw [hF67 340 9 rfl]; exact (by rw [eI66, dkU_sn (by decide)]; exact f65))))
                  refine lv_aload_n hx hb dX6_advances_188 rfl (lv_at hl 1 rfl) ?_
                  refine dk_get (k := 340) hx hb hts iX6_advances_6 hown hK (dk_at340 hW) rfl 11 (by decide) (hts (.fieldLink RX6 98 "DogKingsModel" "token" "I") (List.mem_of_getElem? (i := 4) rfl)) rfl dX6_advances_189 ?_
                  refine lv_topi (fun v80 ev80 => ?_)
                  have dv80 : dkN [(5, 5)] v80 := by rw [ev80]; exact (by rw [eI78, dkU_ss]; exact (dkN_lit (x := 5) (5) rfl))
                  refine lv_if_ne (tgt := 199) hx hb dX6_advances_192 (by decide) (fun c81 => ?_) (fun c81 => ?_)
                  ·
                    refine lv_iconst (v := 1) hx hb dX6_advances_199 (by decide) ?_
                    refine lv_iadd hx hb dX6_advances_200 ?_
                    refine lv_topi (fun v82 ev82 => ?_)
                    have dv82 : dkN [(1, 90)] v82 := by rw [ev82]; exact dkN_add dv79 (dkN_lit (x := 1) (1) rfl) rfl
                    refine dk_put (k := 340) hx hb hts iX6_advances_6 tyX6 tyX6_ok nmX6 hown hK hW (dk_at340 hW) hS rfl 9 (by decide) (hts (.fieldLink RX6 86 "DogKingsModel" "at" "I") (List.mem_of_getElem? (i := 1) rfl)) rfl rfl (Nat.le_of_ble_eq_true rfl) rfl dX6_advances_201 (fun I83 H83 L83 eI83 hW hS => ?_)
                    have eI83 : I83 = dkU I78 340 9 v82 := eI83
                    have hO := dkO_set hO eI83 (dkN_sub dv82 rfl)
                    have hF := dkF_set hF eI83 rfl
                    exact W.vret hx hb hr (fun t ht hW9 => ⟨⟨I83, rfl, ⟨hF, hO, ⟨(show dkN [(0, 5)] (I83 340 11) from dkN_sub (by rw [eI83, dkU_sn (by decide)]; exact (by rw [eI78, dkU_ss]; exact (dkN_lit (x := 5) (5) rfl))) rfl), trivial⟩⟩, dkW_eq ht hW⟩, hS.F ht⟩) hS.2.2 dX6_advances_204
                  ·
                    exact (dkN_nil (show dkN [] v80 from dkN_eq1 dv80 (dkN_lit (x := 0) (0) rfl) (congrArg Int32.toInt c81) rfl)).elim
                ·
                  have d84 : dkN [(59, 59)] v52 := dkN_eq1 d75 (dkN_lit (x := 59) (59) rfl) (congrArg Int32.toInt c76) rfl
                  refine lv_iconst (v := 4) hx hb dX6_advances_175 (by decide) ?_
                  refine lv_goto (tgt := 180) hx hb dX6_advances_176 (by decide) ?_
                  refine dk_put (k := 340) hx hb hts iX6_advances_6 tyX6 tyX6_ok nmX6 hown hK hW (dk_at340 hW) hS rfl 11 (by decide) (hts (.fieldLink RX6 98 "DogKingsModel" "token" "I") (List.mem_of_getElem? (i := 4) rfl)) rfl rfl (Nat.le_of_ble_eq_true rfl) rfl dX6_advances_180 (fun I85 H85 L85 eI85 hW hS => ?_)
                  have eI85 : I85 = dkU I71 340 11 4 := eI85
                  have hO := dkO_set hO eI85 (dkN_sub (dkN_lit (x := 4) (4) rfl) rfl)
                  have hF := dkF_set hF eI85 rfl
                  refine lv_aload_n hx hb dX6_advances_183 rfl (lv_at hl 1 rfl) ?_
                  refine lv_dup hx hb dX6_advances_184 rfl ?_
                  refine dk_get (k := 340) hx hb hts iX6_advances_6 hown hK (dk_at340 hW) rfl 9 (by decide) (hts (.fieldLink RX6 86 "DogKingsModel" "at" "I") (List.mem_of_getElem? (i := 1) rfl)) rfl dX6_advances_185 ?_
                  refine lv_topi (fun v86 ev86 => ?_)
                  have dv86 : dkN [(0, 89)] v86 := by rw [ev86]; exact (by rw [eI85, dkU_sn (by decide)]; exact (by rw [hF71 340 9 rfl]; exact (by rw [hF67 340 9 rfl]; exact (by rw [eI66, dkU_sn (by decide)]; exact f65))))
                  refine lv_aload_n hx hb dX6_advances_188 rfl (lv_at hl 1 rfl) ?_
                  refine dk_get (k := 340) hx hb hts iX6_advances_6 hown hK (dk_at340 hW) rfl 11 (by decide) (hts (.fieldLink RX6 98 "DogKingsModel" "token" "I") (List.mem_of_getElem? (i := 4) rfl)) rfl dX6_advances_189 ?_
                  refine lv_topi (fun v87 ev87 => ?_)
                  have dv87 : dkN [(4, 4)] v87 := by rw [ev87]; exact (by rw [eI85, dkU_ss]; exact (dkN_lit (x := 4) (4) rfl))
                  refine lv_if_ne (tgt := 199) hx hb dX6_advances_192 (by decide) (fun c88 => ?_) (fun c88 => ?_)
                  ·
                    refine lv_iconst (v := 1) hx hb dX6_advances_199 (by decide) ?_
                    refine lv_iadd hx hb dX6_advances_200 ?_
                    refine lv_topi (fun v89 ev89 => ?_)
                    have dv89 : dkN [(1, 90)] v89 := by rw [ev89]; exact dkN_add dv86 (dkN_lit (x := 1) (1) rfl) rfl
                    refine dk_put (k := 340) hx hb hts iX6_advances_6 tyX6 tyX6_ok nmX6 hown hK hW (dk_at340 hW) hS rfl 9 (by decide) (hts (.fieldLink RX6 86 "DogKingsModel" "at" "I") (List.mem_of_getElem? (i := 1) rfl)) rfl rfl (Nat.le_of_ble_eq_true rfl) rfl dX6_advances_201 (fun I90 H90 L90 eI90 hW hS => ?_)
                    have eI90 : I90 = dkU I85 340 9 v89 := eI90
                    have hO := dkO_set hO eI90 (dkN_sub dv89 rfl)
                    have hF := dkF_set hF eI90 rfl
                    exact W.vret hx hb hr (fun t ht hW9 => ⟨⟨I90, rfl, ⟨hF, hO, ⟨(show dkN [(0, 5)] (I90 340 11) from dkN_sub (by rw [eI90, dkU_sn (by decide)]; exact (by rw [eI85, dkU_ss]; exact (dkN_lit (x := 4) (4) rfl))) rfl), trivial⟩⟩, dkW_eq ht hW⟩, hS.F ht⟩) hS.2.2 dX6_advances_204
                  ·
                    exact (dkN_nil (show dkN [] v87 from dkN_eq1 dv87 (dkN_lit (x := 0) (0) rfl) (congrArg Int32.toInt c88) rfl)).elim
              ·
                have d91 : dkN [(44, 44)] v52 := dkN_eq1 d72 (dkN_lit (x := 44) (44) rfl) (congrArg Int32.toInt c74) rfl
                refine lv_iconst (v := 3) hx hb dX6_advances_165 (by decide) ?_
                refine lv_goto (tgt := 180) hx hb dX6_advances_166 (by decide) ?_
                refine dk_put (k := 340) hx hb hts iX6_advances_6 tyX6 tyX6_ok nmX6 hown hK hW (dk_at340 hW) hS rfl 11 (by decide) (hts (.fieldLink RX6 98 "DogKingsModel" "token" "I") (List.mem_of_getElem? (i := 4) rfl)) rfl rfl (Nat.le_of_ble_eq_true rfl) rfl dX6_advances_180 (fun I92 H92 L92 eI92 hW hS => ?_)
                have eI92 : I92 = dkU I71 340 11 3 := eI92
                have hO := dkO_set hO eI92 (dkN_sub (dkN_lit (x := 3) (3) rfl) rfl)
                have hF := dkF_set hF eI92 rfl
                refine lv_aload_n hx hb dX6_advances_183 rfl (lv_at hl 1 rfl) ?_
                refine lv_dup hx hb dX6_advances_184 rfl ?_
                refine dk_get (k := 340) hx hb hts iX6_advances_6 hown hK (dk_at340 hW) rfl 9 (by decide) (hts (.fieldLink RX6 86 "DogKingsModel" "at" "I") (List.mem_of_getElem? (i := 1) rfl)) rfl dX6_advances_185 ?_
                refine lv_topi (fun v93 ev93 => ?_)
                have dv93 : dkN [(0, 89)] v93 := by rw [ev93]; exact (by rw [eI92, dkU_sn (by decide)]; exact (by rw [hF71 340 9 rfl]; exact (by rw [hF67 340 9 rfl]; exact (by rw [eI66, dkU_sn (by decide)]; exact f65))))
                refine lv_aload_n hx hb dX6_advances_188 rfl (lv_at hl 1 rfl) ?_
                refine dk_get (k := 340) hx hb hts iX6_advances_6 hown hK (dk_at340 hW) rfl 11 (by decide) (hts (.fieldLink RX6 98 "DogKingsModel" "token" "I") (List.mem_of_getElem? (i := 4) rfl)) rfl dX6_advances_189 ?_
                refine lv_topi (fun v94 ev94 => ?_)
                have dv94 : dkN [(3, 3)] v94 := by rw [ev94]; exact (by rw [eI92, dkU_ss]; exact (dkN_lit (x := 3) (3) rfl))
                refine lv_if_ne (tgt := 199) hx hb dX6_advances_192 (by decide) (fun c95 => ?_) (fun c95 => ?_)
                ·
                  refine lv_iconst (v := 1) hx hb dX6_advances_199 (by decide) ?_
                  refine lv_iadd hx hb dX6_advances_200 ?_
                  refine lv_topi (fun v96 ev96 => ?_)
                  have dv96 : dkN [(1, 90)] v96 := by rw [ev96]; exact dkN_add dv93 (dkN_lit (x := 1) (1) rfl) rfl
                  refine dk_put (k := 340) hx hb hts iX6_advances_6 tyX6 tyX6_ok nmX6 hown hK hW (dk_at340 hW) hS rfl 9 (by decide) (hts (.fieldLink RX6 86 "DogKingsModel" "at" "I") (List.mem_of_getElem? (i := 1) rfl)) rfl rfl (Nat.le_of_ble_eq_true rfl) rfl dX6_advances_201 (fun I97 H97 L97 eI97 hW hS => ?_)
                  have eI97 : I97 = dkU I92 340 9 v96 := eI97
                  have hO := dkO_set hO eI97 (dkN_sub dv96 rfl)
                  have hF := dkF_set hF eI97 rfl
                  exact W.vret hx hb hr (fun t ht hW9 => ⟨⟨I97, rfl, ⟨hF, hO, ⟨(show dkN [(0, 5)] (I97 340 11) from dkN_sub (by rw [eI97, dkU_sn (by decide)]; exact (by rw [eI92, dkU_ss]; exact (dkN_lit (x := 3) (3) rfl))) rfl), trivial⟩⟩, dkW_eq ht hW⟩, hS.F ht⟩) hS.2.2 dX6_advances_204
                ·
                  exact (dkN_nil (show dkN [] v94 from dkN_eq1 dv94 (dkN_lit (x := 0) (0) rfl) (congrArg Int32.toInt c95) rfl)).elim
            ·
              exact (dkN_nil (show dkN [] v71 from dkN_ne1 (0) dv71 (dkN_lit (x := 0) (0) rfl) (dk_ne c73) rfl)).elim
          ·
            obtain ⟨dv71, a71_0, -⟩ := hc71
            have d98 : dkN [(97, 122)] v52 := dkN_eq1 d68 a71_0 rfl rfl
            refine lv_if_eq (tgt := 159) hx hb dX6_advances_152 (by decide) (fun c99 => ?_) (fun c99 => ?_)
            ·
              exact (dkN_nil (show dkN [] v71 from dkN_eq1 dv71 (dkN_lit (x := 0) (0) rfl) (congrArg Int32.toInt c99) rfl)).elim
            ·
              refine lv_iconst (v := 1) hx hb dX6_advances_155 (by decide) ?_
              refine lv_goto (tgt := 180) hx hb dX6_advances_156 (by decide) ?_
              refine dk_put (k := 340) hx hb hts iX6_advances_6 tyX6 tyX6_ok nmX6 hown hK hW (dk_at340 hW) hS rfl 11 (by decide) (hts (.fieldLink RX6 98 "DogKingsModel" "token" "I") (List.mem_of_getElem? (i := 4) rfl)) rfl rfl (Nat.le_of_ble_eq_true rfl) rfl dX6_advances_180 (fun I100 H100 L100 eI100 hW hS => ?_)
              have eI100 : I100 = dkU I71 340 11 1 := eI100
              have hO := dkO_set hO eI100 (dkN_sub (dkN_lit (x := 1) (1) rfl) rfl)
              have hF := dkF_set hF eI100 rfl
              refine lv_aload_n hx hb dX6_advances_183 rfl (lv_at hl 1 rfl) ?_
              refine lv_dup hx hb dX6_advances_184 rfl ?_
              refine dk_get (k := 340) hx hb hts iX6_advances_6 hown hK (dk_at340 hW) rfl 9 (by decide) (hts (.fieldLink RX6 86 "DogKingsModel" "at" "I") (List.mem_of_getElem? (i := 1) rfl)) rfl dX6_advances_185 ?_
              refine lv_topi (fun v101 ev101 => ?_)
              have dv101 : dkN [(0, 89)] v101 := by rw [ev101]; exact (by rw [eI100, dkU_sn (by decide)]; exact (by rw [hF71 340 9 rfl]; exact (by rw [hF67 340 9 rfl]; exact (by rw [eI66, dkU_sn (by decide)]; exact f65))))
              refine lv_aload_n hx hb dX6_advances_188 rfl (lv_at hl 1 rfl) ?_
              refine dk_get (k := 340) hx hb hts iX6_advances_6 hown hK (dk_at340 hW) rfl 11 (by decide) (hts (.fieldLink RX6 98 "DogKingsModel" "token" "I") (List.mem_of_getElem? (i := 4) rfl)) rfl dX6_advances_189 ?_
              refine lv_topi (fun v102 ev102 => ?_)
              have dv102 : dkN [(1, 1)] v102 := by rw [ev102]; exact (by rw [eI100, dkU_ss]; exact (dkN_lit (x := 1) (1) rfl))
              refine lv_if_ne (tgt := 199) hx hb dX6_advances_192 (by decide) (fun c103 => ?_) (fun c103 => ?_)
              ·
                refine lv_iconst (v := 1) hx hb dX6_advances_199 (by decide) ?_
                refine lv_iadd hx hb dX6_advances_200 ?_
                refine lv_topi (fun v104 ev104 => ?_)
                have dv104 : dkN [(1, 90)] v104 := by rw [ev104]; exact dkN_add dv101 (dkN_lit (x := 1) (1) rfl) rfl
                refine dk_put (k := 340) hx hb hts iX6_advances_6 tyX6 tyX6_ok nmX6 hown hK hW (dk_at340 hW) hS rfl 9 (by decide) (hts (.fieldLink RX6 86 "DogKingsModel" "at" "I") (List.mem_of_getElem? (i := 1) rfl)) rfl rfl (Nat.le_of_ble_eq_true rfl) rfl dX6_advances_201 (fun I105 H105 L105 eI105 hW hS => ?_)
                have eI105 : I105 = dkU I100 340 9 v104 := eI105
                have hO := dkO_set hO eI105 (dkN_sub dv104 rfl)
                have hF := dkF_set hF eI105 rfl
                exact W.vret hx hb hr (fun t ht hW9 => ⟨⟨I105, rfl, ⟨hF, hO, ⟨(show dkN [(0, 5)] (I105 340 11) from dkN_sub (by rw [eI105, dkU_sn (by decide)]; exact (by rw [eI100, dkU_ss]; exact (dkN_lit (x := 1) (1) rfl))) rfl), trivial⟩⟩, dkW_eq ht hW⟩, hS.F ht⟩) hS.2.2 dX6_advances_204
              ·
                exact (dkN_nil (show dkN [] v102 from dkN_eq1 dv102 (dkN_lit (x := 0) (0) rfl) (congrArg Int32.toInt c103) rfl)).elim
        ·
          exact (dkN_nil (show dkN [] 0 from dkN_le2 1 d68 (dkN_lit (x := 0) (0) rfl) (dkc_nle c70) rfl)).elim
      ·
        exact (dkN_nil (show dkN [] v67 from dkN_ne1 (0) dv67 (dkN_lit (x := 0) (0) rfl) (dk_ne c69) rfl)).elim
    ·
      obtain ⟨dv67, a67_0, -⟩ := hc67
      have d106 : dkN [(48, 57)] v52 := dkN_eq1 dv52 a67_0 rfl rfl
      refine lv_if_eq (tgt := 135) hx hb dX6_advances_30 (by decide) (fun c107 => ?_) (fun c107 => ?_)
      ·
        exact (dkN_nil (show dkN [] v67 from dkN_eq1 dv67 (dkN_lit (x := 0) (0) rfl) (congrArg Int32.toInt c107) rfl)).elim
      ·
        refine lv_aload_n hx hb dX6_advances_33 rfl (lv_at hl 1 rfl) ?_
        refine lv_iconst (v := 0) hx hb dX6_advances_34 (by decide) ?_
        refine dk_put (k := 340) hx hb hts iX6_advances_6 tyX6 tyX6_ok nmX6 hown hK hW (dk_at340 hW) hS rfl 12 (by decide) (hts (.fieldLink RX6 95 "DogKingsModel" "value" "I") (List.mem_of_getElem? (i := 3) rfl)) rfl rfl (Nat.le_of_ble_eq_true rfl) rfl dX6_advances_35 (fun I108 H108 L108 eI108 hW hS => ?_)
        have eI108 : I108 = dkU I67 340 12 0 := eI108
        have hO := dkO_set hO eI108 (dkN_sub (dkN_lit (x := 0) (0) rfl) rfl)
        have hF := dkF_set hF eI108 rfl
        exact C38 _ I108 _ _ ls v52 (Nat.lt_succ_self _) hW hS hF hO (dkN_sub d106 rfl) (lv_sub hl [1, 0] rfl)
set_option maxHeartbeats 4000000 in
set_option maxRecDepth 100000 in
theorem c_X6_isWell_0 (l : Launch) (g : dkG) (z : Nat) (I0 : dkI) (np0 : dkN [(-1, -1)] (I0 340 8))  (hO : dkOk I0) : Met l yX6_isWell wsX6_isWell (dkR 0) (dkPc g z [.ref (z + 340)] I0) (dkQi g z (fun r I1 => dkF [] I0 I1 ∧ dkOk I1 ∧ ((dkN [(1, 1)] r ∧ dkN [(-1, -1)] (I1 340 8) ∧ True)))) 0 0 (dkA z) := by
  refine Met.ofW (cc := cX6_isWell) (maxL := 1) (ret := (some .boolean)) (by decide) rfl ?_
  intro p e s m args below meth c s₁ B hml hv
  obtain ⟨ha, hW, hK, hT⟩ := hv
  have hx := B.exec
  have hb := B.bytes
  have hr := B.returns
  have hts := atoms_spec (ws := wsX6_isWell) B.pre
  have hown : s.vm.findClass RX6 = some m.cls := findClass_of_methodNamed B.named
  have hlocks := B.notSynchronized
  have hS : va_S (dkA z) s.heap s.heap [] := va_S.rf
  have hF : dkF [] I0 I0 := dkF_rf _ _
  have hl := lv_entry ([.ref (z + 340)]) (n := 1) (Nat.le_of_ble_eq_true rfl)
  have hgo : entryFrame m args 1 = entryFrame m ([.ref (z + 340)] : List Value).toArray 1 := by rw [ha]
  rw [hgo, lg_entry_eq]
  generalize (lg_sl ([.ref (z + 340)]) ++ List.replicate (1 - (lg_sl ([.ref (z + 340)])).length) Slot.unset).toArray = ls at hl ⊢
  have hl : lv_has ls 1 [(0, .ref (z + 340))] := hl
  refine lv_aload_n hx hb dX6_isWell_0 rfl (lv_at hl 0 rfl) ?_
  refine dk_get (k := 340) hx hb hts iX6_isWell_6 hown hK (dk_at340 hW) rfl 8 (by decide) (hts (.fieldLink RX6 101 "DogKingsModel" "faultPlace" "I") (List.mem_of_getElem? (i := 1) rfl)) rfl dX6_isWell_1 ?_
  refine lv_topi (fun v1 ev1 => ?_)
  have dv1 : dkN [(-1, -1)] v1 := by rw [ev1]; exact np0
  refine lv_if_ge (tgt := 11) hx hb dX6_isWell_4 (by decide) (fun c2 => ?_) (fun c2 => ?_)
  ·
    exact (dkN_nil (show dkN [] 0 from dkN_le1 0 (dkN_lit (x := 0) (0) rfl) dv1 (dkc_le c2) rfl)).elim
  ·
    refine lv_iconst (v := 1) hx hb dX6_isWell_7 (by decide) ?_
    refine lv_goto (tgt := 12) hx hb dX6_isWell_8 (by decide) ?_
    exact W.zret (v := 1) (ty := .boolean) hx hb hr rfl (fun t ht hW9 => ⟨⟨1, I0, rfl, ⟨hF, hO, ⟨dkN_sub (dkN_lit (x := 1) (1) rfl) rfl, (show dkN [(-1, -1)] (I0 340 8) from dkN_sub np0 rfl), trivial⟩⟩, dkW_eq ht hW⟩, hS.F ht⟩) hS.2.2 dX6_isWell_12
set_option maxHeartbeats 4000000 in
set_option maxRecDepth 100000 in
theorem c_X6_takes_0 (l : Launch) (g : dkG) (z : Nat) (I0 : dkI) (p0 : Int32) (p1 : Int32) (dp0 : dkN [(0, 1)] p0) (dp1 : dkN [(1, 1)] p1) (np0 : dkN [(-1, -1)] (I0 340 8))  (hO : dkOk I0) : Met l yX6_takes wsX6_takes (dkR 2) (dkPc g z [.ref (z + 340), .int p0, .int p1] I0) (dkQi g z (fun r I1 => dkF [(340, 340, 7, 12)] I0 I1 ∧ dkOk I1 ∧ ((True ∧ dkN [(-1, 90)] (I1 340 8) ∧ True)))) 0 0 (dkA z) := by
  refine Met.ofW (cc := cX6_takes) (maxL := 4) (ret := (some .int)) (by decide) rfl ?_
  intro p e s m args below meth c s₁ B hml hv
  obtain ⟨ha, hW, hK, hT⟩ := hv
  have hx := B.exec
  have hb := B.bytes
  have hr := B.returns
  have hts := atoms_spec (ws := wsX6_takes) B.pre
  have hown : s.vm.findClass RX6 = some m.cls := findClass_of_methodNamed B.named
  have hlocks := B.notSynchronized
  have hS : va_S (dkA z) s.heap s.heap [] := va_S.rf
  have hF : dkF [(340, 340, 7, 12)] I0 I0 := dkF_rf _ _
  have hl := lv_entry ([.ref (z + 340), .int p0, .int p1]) (n := 4) (Nat.le_of_ble_eq_true rfl)
  have hgo : entryFrame m args 4 = entryFrame m ([.ref (z + 340), .int p0, .int p1] : List Value).toArray 4 := by rw [ha]
  rw [hgo, lg_entry_eq]
  generalize (lg_sl ([.ref (z + 340), .int p0, .int p1]) ++ List.replicate (4 - (lg_sl ([.ref (z + 340), .int p0, .int p1])).length) Slot.unset).toArray = ls at hl ⊢
  have hl : lv_has ls 4 [(0, .ref (z + 340)), (1, .int p0), (2, .int p1)] := hl
  refine lv_aload_n hx hb dX6_takes_0 rfl (lv_at hl 0 rfl) ?_
  refine dk_Vi (As := []) (rest := []) ⟨hx, hb, hml, hown, hts⟩ (c_X6_isWell_0 l g z I0 (show dkN [(-1, -1)] (I0 340 8) from dkN_sub np0 rfl) hO) (cwV 0 hts gX6_takes_X6_isWell rfl rfl rfl (by decide +kernel) ⟨Nat.le_of_ble_eq_true rfl, Nat.le_of_ble_eq_true rfl⟩) (dk_at340 hW) rfl hK hT hW hS rfl hl.1 rfl (Nat.le_of_ble_eq_true rfl) dX6_takes_1 ⟨Nat.zero_le _, Nat.zero_le _⟩ (fun v1 I1 H1 L1 hp1 hW hS => ?_)
  obtain ⟨hF1, hO, hc1⟩ := hp1
  have hF := dkF_call hF hF1 rfl
  obtain ⟨dv1, f1_340_8, -⟩ := hc1
  refine lv_if_ne (tgt := 9) hx hb dX6_takes_4 (by decide) (fun c2 => ?_) (fun c2 => ?_)
  ·
    refine lv_iload_n hx hb dX6_takes_9 rfl (lv_at hl 1 rfl) ?_
    refine lv_if_ne (tgt := 28) hx hb dX6_takes_10 (by decide) (fun c3 => ?_) (fun c3 => ?_)
    ·
      have d4 : dkN [(1, 1)] p0 := dkN_ne1 (0) dp0 (dkN_lit (x := 0) (0) rfl) (dk_ne c3) rfl
      refine lv_aload_n hx hb dX6_takes_28 rfl (lv_at hl 0 rfl) ?_
      refine dk_get (k := 340) hx hb hts iX6_takes_6 hown hK (dk_at340 hW) rfl 12 (by decide) (hts (.fieldLink RX6 95 "DogKingsModel" "value" "I") (List.mem_of_getElem? (i := 4) rfl)) rfl dX6_takes_29 ?_
      refine lv_topi (fun v5 ev5 => ?_)
      refine lv_istore_n (lv' := [(3, .int v5), (0, .ref (z + 340)), (1, .int p0), (2, .int p1)]) hx hb dX6_takes_32 rfl hl (by decide) rfl (fun ls hl => ?_)
      refine lv_aload_n hx hb dX6_takes_33 rfl (lv_at hl 1 rfl) ?_
      refine dk_Vv (As := []) (rest := []) ⟨hx, hb, hml, hown, hts⟩ (c_X6_advances_0 l g z I1 hO) (cwV 0 hts gX6_takes_X6_advances rfl rfl rfl (by decide +kernel) ⟨Nat.le_of_ble_eq_true rfl, Nat.le_of_ble_eq_true rfl⟩) (dk_at340 hW) rfl hK hT hW hS rfl hl.1 rfl (Nat.le_of_ble_eq_true rfl) dX6_takes_34 ⟨Nat.zero_le _, Nat.zero_le _⟩ (fun I6 H6 L6 hp6 hW hS => ?_)
      obtain ⟨hF6, hO, hc6⟩ := hp6
      have hF := dkF_call hF hF6 rfl
      obtain ⟨f6_340_11, -⟩ := hc6
      refine lv_iload_n hx hb dX6_takes_37 rfl (lv_at hl 0 rfl) ?_
      exact W.iret (v := v5) hx hb hr (fun t ht hW9 => ⟨⟨v5, I6, rfl, ⟨hF, hO, ⟨trivial, (show dkN [(-1, 90)] (I6 340 8) from dkN_sub (by rw [hF6 340 8 rfl]; exact f1_340_8) rfl), trivial⟩⟩, dkW_eq ht hW⟩, hS.F ht⟩) hS.2.2 dX6_takes_38
    ·
      have d7 : dkN [(0, 0)] p0 := dkN_eq1 dp0 (dkN_lit (x := 0) (0) rfl) (congrArg Int32.toInt c3) rfl
      refine lv_aload_n hx hb dX6_takes_13 rfl (lv_at hl 0 rfl) ?_
      refine lv_aload_n hx hb dX6_takes_14 rfl (lv_at hl 0 rfl) ?_
      refine dk_get (k := 340) hx hb hts iX6_takes_6 hown hK (dk_at340 hW) rfl 10 (by decide) (hts (.fieldLink RX6 89 "DogKingsModel" "start" "I") (List.mem_of_getElem? (i := 1) rfl)) rfl dX6_takes_15 ?_
      refine lv_topi (fun v8 ev8 => ?_)
      have dv8 : dkN [(0, 90)] v8 := by rw [ev8]; exact (hO 340 10)
      refine dk_put (k := 340) hx hb hts iX6_takes_6 tyX6 tyX6_ok nmX6 hown hK hW (dk_at340 hW) hS rfl 8 (by decide) (hts (.fieldLink RX6 101 "DogKingsModel" "faultPlace" "I") (List.mem_of_getElem? (i := 2) rfl)) rfl rfl (Nat.le_of_ble_eq_true rfl) rfl dX6_takes_18 (fun I9 H9 L9 eI9 hW hS => ?_)
      have eI9 : I9 = dkU I1 340 8 v8 := eI9
      have hO := dkO_set hO eI9 (dkN_sub dv8 rfl)
      have hF := dkF_set hF eI9 rfl
      refine lv_aload_n hx hb dX6_takes_21 rfl (lv_at hl 0 rfl) ?_
      refine lv_iload_n hx hb dX6_takes_22 rfl (lv_at hl 2 rfl) ?_
      refine dk_put (k := 340) hx hb hts iX6_takes_6 tyX6 tyX6_ok nmX6 hown hK hW (dk_at340 hW) hS rfl 7 (by decide) (hts (.fieldLink RX6 108 "DogKingsModel" "faultKind" "I") (List.mem_of_getElem? (i := 3) rfl)) rfl rfl (Nat.le_of_ble_eq_true rfl) rfl dX6_takes_23 (fun I10 H10 L10 eI10 hW hS => ?_)
      have eI10 : I10 = dkU I9 340 7 p1 := eI10
      have hO := dkO_set hO eI10 (dkN_sub dp1 rfl)
      have hF := dkF_set hF eI10 rfl
      refine lv_iconst (v := 0) hx hb dX6_takes_26 (by decide) ?_
      exact W.iret (v := 0) hx hb hr (fun t ht hW9 => ⟨⟨0, I10, rfl, ⟨hF, hO, ⟨trivial, (show dkN [(-1, 90)] (I10 340 8) from dkN_sub (by rw [eI10, dkU_sn (by decide)]; exact (by rw [eI9, dkU_ss]; exact dv8)) rfl), trivial⟩⟩, dkW_eq ht hW⟩, hS.F ht⟩) hS.2.2 dX6_takes_27
  ·
    exact (dkN_nil (show dkN [] v1 from dkN_eq1 dv1 (dkN_lit (x := 0) (0) rfl) (congrArg Int32.toInt c2) rfl)).elim
