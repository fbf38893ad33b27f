set_option maxHeartbeats 4000000 in
set_option maxRecDepth 100000 in
theorem c_J6_bitCount_0f7a4_0 (l : Launch) (g : dkG) (z : Nat) (I0 : dkI) (p0 : Int32)  (hO : dkOk I0) : Met l yJ6_bitCount_0f7a4 wsJ6_bitCount_0f7a4 (dkR 0) (dkPc g z [.int p0] I0) (dkQi g z (fun r I1 => dkF [] I0 I1 ∧ dkOk I1 ∧ ((dkN [(0, 63)] r ∧ True)))) 0 0 (dkA z) := by
  refine Met.ofW (cc := cJ6_bitCount_0f7a4) (maxL := 1) (ret := (some .int)) (by decide) rfl ?_
  intro p e s m args below meth c s₁ B hml hv
  obtain ⟨ha, hW, hK, hT⟩ := hv
  have hx := B.exec
  have hb := B.bytes
  have hr := B.returns
  have hts := atoms_spec (ws := wsJ6_bitCount_0f7a4) B.pre
  have hown : s.vm.findClass RJ6 = some m.cls := findClass_of_methodNamed B.named
  have hlocks := B.notSynchronized
  have hS : va_S (dkA z) s.heap s.heap [] := va_S.rf
  have hF : dkF [] I0 I0 := dkF_rf _ _
  have hl := lv_entry ([.int p0]) (n := 1) (Nat.le_of_ble_eq_true rfl)
  have hgo : entryFrame m args 1 = entryFrame m ([.int p0] : List Value).toArray 1 := by rw [ha]
  rw [hgo, lg_entry_eq]
  generalize (lg_sl ([.int p0]) ++ List.replicate (1 - (lg_sl ([.int p0])).length) Slot.unset).toArray = ls at hl ⊢
  have hl : lv_has ls 1 [(0, .int p0)] := hl
  refine lv_iload_n hx hb dJ6_bitCount_0f7a4_0 rfl (lv_at hl 0 rfl) ?_
  refine lv_iload_n hx hb dJ6_bitCount_0f7a4_1 rfl (lv_at hl 0 rfl) ?_
  refine lv_iconst (v := 1) hx hb dJ6_bitCount_0f7a4_2 (by decide) ?_
  refine lv_iushr hx hb dJ6_bitCount_0f7a4_3 rfl ?_
  refine lv_topi (fun v1 ev1 => ?_)
  refine lv_ldcw (v := 1431655765) hx hb hown (hts (.constant RJ6 265 (1431655765)) (List.mem_of_getElem? (i := 1) rfl)) dJ6_bitCount_0f7a4_4 ?_
  refine lv_iand hx hb dJ6_bitCount_0f7a4_7 ?_
  refine lv_topi (fun v2 ev2 => ?_)
  have dv2 : dkN [(0, 1431655765)] v2 := by rw [ev2]; exact dkN_and (dkN_lit (x := 1431655765) (1431655765) rfl) rfl
  refine lv_isub hx hb dJ6_bitCount_0f7a4_8 ?_
  refine lv_topi (fun v3 ev3 => ?_)
  refine lv_istore_n (lv' := [(0, .int v3)]) hx hb dJ6_bitCount_0f7a4_9 rfl hl (by decide) rfl (fun ls hl => ?_)
  refine lv_iload_n hx hb dJ6_bitCount_0f7a4_10 rfl (lv_at hl 0 rfl) ?_
  refine lv_ldcw (v := 858993459) hx hb hown (hts (.constant RJ6 266 (858993459)) (List.mem_of_getElem? (i := 2) rfl)) dJ6_bitCount_0f7a4_11 ?_
  refine lv_iand hx hb dJ6_bitCount_0f7a4_14 ?_
  refine lv_topi (fun v4 ev4 => ?_)
  have dv4 : dkN [(0, 858993459)] v4 := by rw [ev4]; exact dkN_and (dkN_lit (x := 858993459) (858993459) rfl) rfl
  refine lv_iload_n hx hb dJ6_bitCount_0f7a4_15 rfl (lv_at hl 0 rfl) ?_
  refine lv_iconst (v := 2) hx hb dJ6_bitCount_0f7a4_16 (by decide) ?_
  refine lv_iushr hx hb dJ6_bitCount_0f7a4_17 rfl ?_
  refine lv_topi (fun v5 ev5 => ?_)
  refine lv_ldcw (v := 858993459) hx hb hown (hts (.constant RJ6 266 (858993459)) (List.mem_of_getElem? (i := 2) rfl)) dJ6_bitCount_0f7a4_18 ?_
  refine lv_iand hx hb dJ6_bitCount_0f7a4_21 ?_
  refine lv_topi (fun v6 ev6 => ?_)
  have dv6 : dkN [(0, 858993459)] v6 := by rw [ev6]; exact dkN_and (dkN_lit (x := 858993459) (858993459) rfl) rfl
  refine lv_iadd hx hb dJ6_bitCount_0f7a4_22 ?_
  refine lv_topi (fun v7 ev7 => ?_)
  have dv7 : dkN [(0, 1717986918)] v7 := by rw [ev7]; exact dkN_add dv4 dv6 rfl
  refine lv_istore_n (lv' := [(0, .int v7)]) hx hb dJ6_bitCount_0f7a4_23 rfl hl (by decide) rfl (fun ls hl => ?_)
  refine lv_iload_n hx hb dJ6_bitCount_0f7a4_24 rfl (lv_at hl 0 rfl) ?_
  refine lv_iload_n hx hb dJ6_bitCount_0f7a4_25 rfl (lv_at hl 0 rfl) ?_
  refine lv_iconst (v := 4) hx hb dJ6_bitCount_0f7a4_26 (by decide) ?_
  refine lv_iushr hx hb dJ6_bitCount_0f7a4_27 rfl ?_
  refine lv_topi (fun v8 ev8 => ?_)
  refine lv_iadd hx hb dJ6_bitCount_0f7a4_28 ?_
  refine lv_topi (fun v9 ev9 => ?_)
  refine lv_ldcw (v := 252645135) hx hb hown (hts (.constant RJ6 267 (252645135)) (List.mem_of_getElem? (i := 3) rfl)) dJ6_bitCount_0f7a4_29 ?_
  refine lv_iand hx hb dJ6_bitCount_0f7a4_32 ?_
  refine lv_topi (fun v10 ev10 => ?_)
  have dv10 : dkN [(0, 252645135)] v10 := by rw [ev10]; exact dkN_and (dkN_lit (x := 252645135) (252645135) rfl) rfl
  refine lv_istore_n (lv' := [(0, .int v10)]) hx hb dJ6_bitCount_0f7a4_33 rfl hl (by decide) rfl (fun ls hl => ?_)
  refine lv_iload_n hx hb dJ6_bitCount_0f7a4_34 rfl (lv_at hl 0 rfl) ?_
  refine lv_iload_n hx hb dJ6_bitCount_0f7a4_35 rfl (lv_at hl 0 rfl) ?_
  refine lv_bipush (v := 8) hx hb dJ6_bitCount_0f7a4_36 (by decide) ?_
  refine lv_iushr hx hb dJ6_bitCount_0f7a4_38 rfl ?_
  refine lv_topi (fun v11 ev11 => ?_)
  refine lv_iadd hx hb dJ6_bitCount_0f7a4_39 ?_
  refine lv_topi (fun v12 ev12 => ?_)
  refine lv_istore_n (lv' := [(0, .int v12)]) hx hb dJ6_bitCount_0f7a4_40 rfl hl (by decide) rfl (fun ls hl => ?_)
  refine lv_iload_n hx hb dJ6_bitCount_0f7a4_41 rfl (lv_at hl 0 rfl) ?_
  refine lv_iload_n hx hb dJ6_bitCount_0f7a4_42 rfl (lv_at hl 0 rfl) ?_
  refine lv_bipush (v := 16) hx hb dJ6_bitCount_0f7a4_43 (by decide) ?_
  refine lv_iushr hx hb dJ6_bitCount_0f7a4_45 rfl ?_
  refine lv_topi (fun v13 ev13 => ?_)
  refine lv_iadd hx hb dJ6_bitCount_0f7a4_46 ?_
  refine lv_topi (fun v14 ev14 => ?_)
  refine lv_istore_n (lv' := [(0, .int v14)]) hx hb dJ6_bitCount_0f7a4_47 rfl hl (by decide) rfl (fun ls hl => ?_)
  refine lv_iload_n hx hb dJ6_bitCount_0f7a4_48 rfl (lv_at hl 0 rfl) ?_
  refine lv_bipush (v := 63) hx hb dJ6_bitCount_0f7a4_49 (by decide) ?_
  refine lv_iand hx hb dJ6_bitCount_0f7a4_51 ?_
  refine lv_topi (fun v15 ev15 => ?_)
  have dv15 : dkN [(0, 63)] v15 := by rw [ev15]; exact dkN_and (dkN_lit (x := 63) (63) rfl) rfl
  exact W.iret (v := v15) hx hb hr (fun t ht hW9 => ⟨⟨v15, I0, rfl, ⟨hF, hO, ⟨dkN_sub dv15 rfl, trivial⟩⟩, dkW_eq ht hW⟩, hS.F ht⟩) hS.2.2 dJ6_bitCount_0f7a4_52
set_option maxHeartbeats 4000000 in
set_option maxRecDepth 100000 in
theorem c_X4_kingAtBell_0 (l : Launch) (g : dkG) (z : Nat) (I0 : dkI) (t0 : Nat) (ht0 : dkT t0)  (hO : dkOk I0) : Met l yX4_kingAtBell wsX4_kingAtBell (dkR 2) (dkPc g z [.ref (z + t0)] I0) (dkQi g z (fun r I1 => dkF [] I0 I1 ∧ dkOk I1 ∧ ((dkN [(-1000000, -1000000), (0, 4)] r ∧ True)))) 0 0 (dkA z) := by
  refine Met.ofW (cc := cX4_kingAtBell) (maxL := 5) (ret := (some .int)) (by decide) rfl ?_
  intro p e s m args below meth c s₁ B hml hv
  obtain ⟨ha, hW, hK, hT⟩ := hv
  have hx := B.exec
  have hb := B.bytes
  have hr := B.returns
  have hts := atoms_spec (ws := wsX4_kingAtBell) B.pre
  have hown : s.vm.findClass RX4 = some m.cls := findClass_of_methodNamed B.named
  have hlocks := B.notSynchronized
  have hS : va_S (dkA z) s.heap s.heap [] := va_S.rf
  have hF : dkF [] I0 I0 := dkF_rf _ _
  have hl := lv_entry ([.ref (z + t0)]) (n := 5) (Nat.le_of_ble_eq_true rfl)
  have hgo : entryFrame m args 5 = entryFrame m ([.ref (z + t0)] : List Value).toArray 5 := by rw [ha]
  rw [hgo, lg_entry_eq]
  generalize (lg_sl ([.ref (z + t0)]) ++ List.replicate (5 - (lg_sl ([.ref (z + t0)])).length) Slot.unset).toArray = ls at hl ⊢
  have hl : lv_has ls 5 [(0, .ref (z + t0))] := hl
  have C7 : ∀ (n : Nat), ∀ (I : dkI) (H : Heap) (locs : List Loc) (ls : Array Slot) (x7_1 : Int32) (x7_2 : Int32) (x7_3 : Int32), (5 - x7_3.toInt).toNat < n → dkW g z I H → va_S (dkA z) s.heap H locs → dkF [] I0 I → dkOk I → dkN [(-1000000, -1000000), (0, 4)] x7_1 → dkN [(0, 63)] x7_2 → dkN [(0, 5)] x7_3 → lv_has ls 5 [(0, .ref (z + t0)), (1, .int x7_1), (2, .int x7_2), (3, .int x7_3)] → W p l e (headSpec wsX4_kingAtBell (dkR 2)).room s m args below meth c H locs 0 0 (MQ below (dkQi g z (fun r I1 => dkF [] I0 I1 ∧ dkOk I1 ∧ ((dkN [(-1000000, -1000000), (0, 4)] r ∧ True)))) args s 0 0 (dkA z)) (F0 m 7 ls []) := by
    intro n
    induction n with
    | zero => intro I H locs ls x7_1 x7_2 x7_3 hn; exact absurd hn (Nat.not_lt_zero _)
    | succ n ih7 =>
      intro I7_ H locs ls x7_1 x7_2 x7_3 hn7 hW hS hF_7 hO k7_0 k7_1 k7_2 hl
      have hF := hF_7
      have C41 : ∀ (I : dkI) (H : Heap) (locs : List Loc) (ls : Array Slot) (x41_1 : Int32) (x41_2 : Int32) (x41_4 : Int32), dkW g z I H → va_S (dkA z) s.heap H locs → dkF [] I0 I → dkOk I → dkN [(-1000000, -1000000), (0, 4)] x41_1 → dkN [(0, 63)] x41_2 → dkN [(0, 63)] x41_4 → dkN [(0, 4)] x7_3 → dkN [(1, 5)] (I t0 4) → lv_has ls 5 [(0, .ref (z + t0)), (1, .int x41_1), (2, .int x41_2), (3, .int x7_3), (4, .int x41_4)] → W p l e (headSpec wsX4_kingAtBell (dkR 2)).room s m args below meth c H locs 0 0 (MQ below (dkQi g z (fun r I1 => dkF [] I0 I1 ∧ dkOk I1 ∧ ((dkN [(-1000000, -1000000), (0, 4)] r ∧ True)))) args s 0 0 (dkA z)) (F0 m 41 ls []) := by
        intro I41_ H locs ls x41_1 x41_2 x41_4 hW hS hF_41 hO k41_0 k41_1 k41_2 r41_0 f41_0 hl
        have hF := hF_41
        obtain ⟨v1, ev1⟩ : ∃ y : Int32, y = x7_3 + 1 := ⟨_, rfl⟩
        have dv1 : dkN [(1, 5)] v1 := by rw [ev1]; exact dkN_add r41_0 (dkN_lit (x := 1) (1) rfl) rfl
        refine lv_iinc (v := v1) (lv' := [(3, .int v1), (0, .ref (z + t0)), (1, .int x41_1), (2, .int x41_2), (4, .int x41_4)]) hx hb dX4_kingAtBell_41 hl (k := 3) rfl (by rw [ev1]; rfl) (by decide) rfl (fun ls hl => ?_)
        refine lv_goto (tgt := 7) hx hb dX4_kingAtBell_44 (by decide) ?_
        exact ih7 I41_ _ _ ls x41_1 x41_2 v1 (dk_near hn7 (by rw [ev1]; exact dk_inc r41_0 rfl) (dkN_lt r41_0 rfl)) hW hS hF hO (dkN_sub k41_0 rfl) (dkN_sub k41_1 rfl) (dkN_sub dv1 rfl) (lv_sub hl [1, 2, 3, 0] rfl)
      refine lv_iload_n hx hb dX4_kingAtBell_7 rfl (lv_at hl 3 rfl) ?_
      refine lv_aload_n hx hb dX4_kingAtBell_8 rfl (lv_at hl 0 rfl) ?_
      refine dk_get (k := t0) hx hb hts iX4_kingAtBell_4 hown hK (dk_aT0 ht0 hW) rfl 4 (by decide) (hts (.fieldLink RX4 55 "DogKings$Town" "people" "I") (List.mem_of_getElem? (i := 2) rfl)) rfl dX4_kingAtBell_9 ?_
      refine lv_topi (fun v2 ev2 => ?_)
      have dv2 : dkN [(0, 5)] v2 := by rw [ev2]; exact (dkO_at hO ht0 (c := 0) (by decide) 4)
      refine lv_icmp_ge (tgt := 47) hx hb dX4_kingAtBell_12 (by decide) (fun c3 => ?_) (fun c3 => ?_)
      ·
        refine lv_iload_n hx hb dX4_kingAtBell_47 rfl (lv_at hl 1 rfl) ?_
        exact W.iret (v := x7_1) hx hb hr (fun t ht hW9 => ⟨⟨x7_1, I7_, rfl, ⟨hF, hO, ⟨dkN_sub k7_0 rfl, trivial⟩⟩, dkW_eq ht hW⟩, hS.F ht⟩) hS.2.2 dX4_kingAtBell_48
      ·
        have d4 : dkN [(1, 5)] v2 := dkN_le2 1 k7_2 dv2 (dkc_nle c3) rfl
        have f5 : dkN [(1, 5)] (I7_ t0 4) := by rw [← ev2]; exact d4
        have d6 : dkN [(0, 4)] x7_3 := dkN_le1 1 k7_2 dv2 (dkc_nle c3) rfl
        refine lv_aload_n hx hb dX4_kingAtBell_15 rfl (lv_at hl 0 rfl) ?_
        refine lv_aload_n hx hb dX4_kingAtBell_16 rfl (lv_at hl 0 rfl) ?_
        refine dk_get (k := t0) hx hb hts iX4_kingAtBell_4 hown hK (dk_aT0 ht0 hW) rfl 7 (by decide) (hts (.fieldLink RX4 18 "DogKings$Town" "personAt" "[I") (List.mem_of_getElem? (i := 3) rfl)) rfl dX4_kingAtBell_17 ?_
        refine lv_iload_n hx hb dX4_kingAtBell_20 rfl (lv_at hl 3 rfl) ?_
        refine dk_ild (k := (t0 + 3)) hx hb hK (dk_aT3 ht0 hW) (dkN_in (n := 5) d6 rfl) dX4_kingAtBell_21 ?_
        refine lv_topi (fun v7 ev7 => ?_)
        refine dk_Vi (As := [.int v7]) (rest := []) ⟨hx, hb, hml, hown, hts⟩ (c_X4_dogsIn_0 l g z I7_ t0 ht0 v7 hO) (cwV 1 hts gX4_kingAtBell_X4_dogsIn rfl rfl rfl (by decide +kernel) ⟨Nat.le_of_ble_eq_true rfl, Nat.le_of_ble_eq_true rfl⟩) (dk_aT0 ht0 hW) rfl hK hT hW hS rfl hl.1 rfl (Nat.le_of_ble_eq_true rfl) dX4_kingAtBell_22 ⟨Nat.zero_le _, Nat.zero_le _⟩ (fun v8 I8 H8 L8 hp8 hW hS => ?_)
        obtain ⟨hF8, hO, hc8⟩ := hp8
        have hF := dkF_call hF hF8 rfl
        obtain ⟨_, -⟩ := hc8
        refine dk_Si (As := [.int v8]) (rest := []) ⟨hx, hb, hml, hown, hts⟩ (c_J6_bitCount_0f7a4_0 l g z I8 v8 hO) (va_cwS 1 hts gX4_kingAtBell_J6_bitCount_0f7a4 rfl rfl rfl (by decide +kernel) ⟨Nat.le_of_ble_eq_true rfl, Nat.le_of_ble_eq_true rfl⟩) hK hT hW hS rfl hl.1 rfl (Nat.le_of_ble_eq_true rfl) dX4_kingAtBell_25 ⟨Nat.zero_le _, Nat.zero_le _⟩ (fun v9 I9 H9 L9 hp9 hW hS => ?_)
        obtain ⟨hF9, hO, hc9⟩ := hp9
        have hF := dkF_call hF hF9 rfl
        obtain ⟨dv9, -⟩ := hc9
        refine lv_istore (lv' := [(4, .int v9), (0, .ref (z + t0)), (1, .int x7_1), (2, .int x7_2), (3, .int x7_3)]) hx hb dX4_kingAtBell_28 hl (by decide) rfl (fun ls hl => ?_)
        refine lv_iload hx hb dX4_kingAtBell_30 (lv_at hl 0 rfl) ?_
        refine lv_iload_n hx hb dX4_kingAtBell_32 rfl (lv_at hl 3 rfl) ?_
        refine lv_icmp_le (tgt := 41) hx hb dX4_kingAtBell_33 (by decide) (fun c10 => ?_) (fun c10 => ?_)
        ·
          exact C41 I9 _ _ ls x7_1 x7_2 v9 hW hS hF hO (dkN_sub k7_0 rfl) (dkN_sub k7_1 rfl) (dkN_sub dv9 rfl) (dkN_sub d6 rfl) (show dkN [(1, 5)] (I9 t0 4) from dkN_sub (by rw [hF9 t0 4 dkNin_nil]; exact (by rw [hF8 t0 4 dkNin_nil]; exact f5)) rfl) (lv_sub hl [1, 2, 3, 4, 0] rfl)
        ·
          have d11 : dkN [(1, 63)] v9 := dkN_le2 1 k7_1 dv9 (dkc_nle c10) rfl
          have d12 : dkN [(0, 62)] x7_2 := dkN_le1 1 k7_1 dv9 (dkc_nle c10) rfl
          refine lv_iload hx hb dX4_kingAtBell_36 (lv_at hl 0 rfl) ?_
          refine lv_istore_n (lv' := [(2, .int v9), (4, .int v9), (0, .ref (z + t0)), (1, .int x7_1), (3, .int x7_3)]) hx hb dX4_kingAtBell_38 rfl hl (by decide) rfl (fun ls hl => ?_)
          refine lv_iload_n hx hb dX4_kingAtBell_39 rfl (lv_at hl 4 rfl) ?_
          refine lv_istore_n (lv' := [(1, .int x7_3), (2, .int v9), (4, .int v9), (0, .ref (z + t0)), (3, .int x7_3)]) hx hb dX4_kingAtBell_40 rfl hl (by decide) rfl (fun ls hl => ?_)
          exact C41 I9 _ _ ls x7_3 v9 v9 hW hS hF hO (dkN_sub d6 rfl) (dkN_sub d11 rfl) (dkN_sub d11 rfl) (dkN_sub d6 rfl) (show dkN [(1, 5)] (I9 t0 4) from dkN_sub (by rw [hF9 t0 4 dkNin_nil]; exact (by rw [hF8 t0 4 dkNin_nil]; exact f5)) rfl) (lv_sub hl [3, 0, 1, 4, 2] rfl)
  refine lv_ldc (v := (-1000000)) hx hb hown (hts (.constant RX4 89 (-1000000)) (List.mem_of_getElem? (i := 1) rfl)) dX4_kingAtBell_0 ?_
  refine lv_istore_n (lv' := [(1, .int ((-1000000))), (0, .ref (z + t0))]) hx hb dX4_kingAtBell_2 rfl hl (by decide) rfl (fun ls hl => ?_)
  refine lv_iconst (v := 0) hx hb dX4_kingAtBell_3 (by decide) ?_
  refine lv_istore_n (lv' := [(2, .int 0), (1, .int ((-1000000))), (0, .ref (z + t0))]) hx hb dX4_kingAtBell_4 rfl hl (by decide) rfl (fun ls hl => ?_)
  refine lv_iconst (v := 0) hx hb dX4_kingAtBell_5 (by decide) ?_
  refine lv_istore_n (lv' := [(3, .int 0), (2, .int 0), (1, .int ((-1000000))), (0, .ref (z + t0))]) hx hb dX4_kingAtBell_6 rfl hl (by decide) rfl (fun ls hl => ?_)
  exact C7 _ I0 _ _ ls ((-1000000)) 0 0 (Nat.lt_succ_self _) hW hS hF hO (dkN_sub (dkN_lit (x := (-1000000)) (-1000000) rfl) rfl) (dkN_sub (dkN_lit (x := 0) (0) rfl) rfl) (dkN_sub (dkN_lit (x := 0) (0) rfl) rfl) (lv_sub hl [3, 2, 1, 0] rfl)
set_option maxHeartbeats 4000000 in
set_option maxRecDepth 100000 in
theorem c_X4_ring_0 (l : Launch) (g : dkG) (z : Nat) (I0 : dkI) (t0 : Nat) (ht0 : dkT t0)  (hO : dkOk I0) : Met l yX4_ring wsX4_ring (dkR 3) (dkPc g z [.ref (z + t0)] I0) (dkQi g z (fun r I1 => dkF [(t0, t0, 2, 3), (t0 + 3, t0 + 3, 0, 4), (t0 + 6, t0 + 6, 0, 4), (t0 + 9, t0 + 9, 0, 5)] I0 I1 ∧ dkOk I1 ∧ ((dkN [(-1000000, -1000000), (0, 4)] r ∧ dkN [(0, 0)] (I1 t0 3) ∧ True)))) 0 0 (dkA z) := by
  refine Met.ofW (cc := cX4_ring) (maxL := 3) (ret := (some .int)) (by decide) rfl ?_
  intro p e s m args below meth c s₁ B hml hv
  obtain ⟨ha, hW, hK, hT⟩ := hv
  have hx := B.exec
  have hb := B.bytes
  have hr := B.returns
  have hts := atoms_spec (ws := wsX4_ring) B.pre
  have hown : s.vm.findClass RX4 = some m.cls := findClass_of_methodNamed B.named
  have hlocks := B.notSynchronized
  have hS : va_S (dkA z) s.heap s.heap [] := va_S.rf
  have hF : dkF [(t0, t0, 2, 3), (t0 + 3, t0 + 3, 0, 4), (t0 + 6, t0 + 6, 0, 4), (t0 + 9, t0 + 9, 0, 5)] I0 I0 := dkF_rf _ _
  have hl := lv_entry ([.ref (z + t0)]) (n := 3) (Nat.le_of_ble_eq_true rfl)
  have hgo : entryFrame m args 3 = entryFrame m ([.ref (z + t0)] : List Value).toArray 3 := by rw [ha]
  rw [hgo, lg_entry_eq]
  generalize (lg_sl ([.ref (z + t0)]) ++ List.replicate (3 - (lg_sl ([.ref (z + t0)])).length) Slot.unset).toArray = ls at hl ⊢
  have hl : lv_has ls 3 [(0, .ref (z + t0))] := hl
  have C69 : ∀ (n : Nat), ∀ (I : dkI) (H : Heap) (locs : List Loc) (ls : Array Slot) (x69_1 : Int32) (x69_2 : Int32), (6 - x69_2.toInt).toNat < n → dkW g z I H → va_S (dkA z) s.heap H locs → dkF [(t0, t0, 2, 3), (t0 + 3, t0 + 3, 0, 4), (t0 + 6, t0 + 6, 0, 4), (t0 + 9, t0 + 9, 0, 5)] I0 I → dkOk I → dkN [(-1000000, -1000000), (0, 4)] x69_1 → dkN [(0, 6)] x69_2 → lv_has ls 3 [(0, .ref (z + t0)), (1, .int x69_1), (2, .int x69_2)] → W p l e (headSpec wsX4_ring (dkR 3)).room s m args below meth c H locs 0 0 (MQ below (dkQi g z (fun r I1 => dkF [(t0, t0, 2, 3), (t0 + 3, t0 + 3, 0, 4), (t0 + 6, t0 + 6, 0, 4), (t0 + 9, t0 + 9, 0, 5)] I0 I1 ∧ dkOk I1 ∧ ((dkN [(-1000000, -1000000), (0, 4)] r ∧ dkN [(0, 0)] (I1 t0 3) ∧ True)))) args s 0 0 (dkA z)) (F0 m 69 ls []) := by
    intro n
    induction n with
    | zero => intro I H locs ls x69_1 x69_2 hn; exact absurd hn (Nat.not_lt_zero _)
    | succ n ih69 =>
      intro I69_ H locs ls x69_1 x69_2 hn69 hW hS hF_69 hO k69_0 k69_1 hl
      have hF := hF_69
      refine lv_iload_n hx hb dX4_ring_69 rfl (lv_at hl 2 rfl) ?_
      refine lv_aload_n hx hb dX4_ring_70 rfl (lv_at hl 0 rfl) ?_
      refine dk_get (k := t0) hx hb hts iX4_ring_4 hown hK (dk_aT0 ht0 hW) rfl 11 (by decide) (hts (.fieldLink RX4 58 "DogKings$Town" "dogs" "I") (List.mem_of_getElem? (i := 5) rfl)) rfl dX4_ring_71 ?_
      refine lv_topi (fun v1 ev1 => ?_)
      have dv1 : dkN [(0, 6)] v1 := by rw [ev1]; exact (dkO_at hO ht0 (c := 0) (by decide) 11)
      refine lv_icmp_ge (tgt := 95) hx hb dX4_ring_74 (by decide) (fun c2 => ?_) (fun c2 => ?_)
      ·
        refine lv_aload_n hx hb dX4_ring_95 rfl (lv_at hl 0 rfl) ?_
        refine lv_iconst (v := 0) hx hb dX4_ring_96 (by decide) ?_
        refine dk_put (k := t0) hx hb hts iX4_ring_4 tyX4 tyX4_ok nmX4 hown hK hW (dk_aT0 ht0 hW) hS rfl 3 (by decide) (hts (.fieldLink RX4 52 "DogKings$Town" "minute" "I") (List.mem_of_getElem? (i := 8) rfl)) rfl rfl (Nat.le_of_ble_eq_true rfl) (dk_eT3 ht0) dX4_ring_97 (fun I3 H3 L3 eI3 hW hS => ?_)
        have eI3 : I3 = dkU I69_ t0 3 0 := eI3
        have hO := dkO_setT hO ht0 (c := 0) (by decide) eI3 (dkN_sub (dkN_lit (x := 0) (0) rfl) rfl)
        have hF := dkF_set hF eI3 (dkIn_at (i := 0) rfl (Nat.le_refl _) (Nat.le_refl _) (by decide) (by decide))
        refine lv_aload_n hx hb dX4_ring_100 rfl (lv_at hl 0 rfl) ?_
        refine lv_dup hx hb dX4_ring_101 rfl ?_
        refine dk_get (k := t0) hx hb hts iX4_ring_4 hown hK (dk_aT0 ht0 hW) rfl 2 (by decide) (hts (.fieldLink RX4 49 "DogKings$Town" "friday" "I") (List.mem_of_getElem? (i := 9) rfl)) rfl dX4_ring_102 ?_
        refine lv_topi (fun v4 ev4 => ?_)
        refine lv_iconst (v := 1) hx hb dX4_ring_105 (by decide) ?_
        refine lv_iadd hx hb dX4_ring_106 ?_
        refine lv_topi (fun v5 ev5 => ?_)
        refine dk_put (k := t0) hx hb hts iX4_ring_4 tyX4 tyX4_ok nmX4 hown hK hW (dk_aT0 ht0 hW) hS rfl 2 (by decide) (hts (.fieldLink RX4 49 "DogKings$Town" "friday" "I") (List.mem_of_getElem? (i := 9) rfl)) rfl rfl (Nat.le_of_ble_eq_true rfl) (dk_eT2 ht0) dX4_ring_107 (fun I6 H6 L6 eI6 hW hS => ?_)
        have eI6 : I6 = dkU I3 t0 2 v5 := eI6
        have hO := dkO_setT hO ht0 (c := 0) (by decide) eI6 (dkN_sub (dkN_top v5) rfl)
        have hF := dkF_set hF eI6 (dkIn_at (i := 0) rfl (Nat.le_refl _) (Nat.le_refl _) (by decide) (by decide))
        refine lv_iload_n hx hb dX4_ring_110 rfl (lv_at hl 1 rfl) ?_
        exact W.iret (v := x69_1) hx hb hr (fun t ht hW9 => ⟨⟨x69_1, I6, rfl, ⟨hF, hO, ⟨dkN_sub k69_0 rfl, (show dkN [(0, 0)] (I6 t0 3) from dkN_sub (by rw [eI6, dkU_sn (by decide)]; exact (by rw [eI3, dkU_ss]; exact (dkN_lit (x := 0) (0) rfl))) rfl), trivial⟩⟩, dkW_eq ht hW⟩, hS.F ht⟩) hS.2.2 dX4_ring_111
      ·
        have d7 : dkN [(1, 6)] v1 := dkN_le2 1 k69_1 dv1 (dkc_nle c2) rfl
        have f8 : dkN [(1, 6)] (I69_ t0 11) := by rw [← ev1]; exact d7
        have d9 : dkN [(0, 5)] x69_2 := dkN_le1 1 k69_1 dv1 (dkc_nle c2) rfl
        refine lv_aload_n hx hb dX4_ring_77 rfl (lv_at hl 0 rfl) ?_
        refine dk_get (k := t0) hx hb hts iX4_ring_4 hown hK (dk_aT0 ht0 hW) rfl 14 (by decide) (hts (.fieldLink RX4 36 "DogKings$Town" "dogAt" "[I") (List.mem_of_getElem? (i := 6) rfl)) rfl dX4_ring_78 ?_
        refine lv_iload_n hx hb dX4_ring_81 rfl (lv_at hl 2 rfl) ?_
        refine lv_aload_n hx hb dX4_ring_82 rfl (lv_at hl 0 rfl) ?_
        refine dk_get (k := t0) hx hb hts iX4_ring_4 hown hK (dk_aT0 ht0 hW) rfl 13 (by decide) (hts (.fieldLink RX4 33 "DogKings$Town" "dogHome" "[I") (List.mem_of_getElem? (i := 7) rfl)) rfl dX4_ring_83 ?_
        refine lv_iload_n hx hb dX4_ring_86 rfl (lv_at hl 2 rfl) ?_
        refine dk_ild (k := (t0 + 8)) hx hb hK (dk_aT8 ht0 hW) (dkN_in (n := 6) d9 rfl) dX4_ring_87 ?_
        refine lv_topi (fun v10 ev10 => ?_)
        refine dk_ist (k := (t0 + 9)) hx hb hK hW (fun _ => dkC_T g z ht0 (c := 9) (by decide) _) (by have := dkT_lt ht0; omega) hS (dkN_in (n := 6) d9 rfl) dX4_ring_88 (fun I11 H11 L11 eI11 hW hS => ?_)
        have hO := dkO_setT hO ht0 (c := 9) (by decide) eI11 (dkN_sub (dkN_top v10) rfl)
        have hF := dkF_set hF eI11 (dkIn_atv (i := 3) rfl (Nat.le_refl _) (Nat.le_refl _) d9 rfl)
        obtain ⟨v12, ev12⟩ : ∃ y : Int32, y = x69_2 + 1 := ⟨_, rfl⟩
        have dv12 : dkN [(1, 6)] v12 := by rw [ev12]; exact dkN_add d9 (dkN_lit (x := 1) (1) rfl) rfl
        refine lv_iinc (v := v12) (lv' := [(2, .int v12), (0, .ref (z + t0)), (1, .int x69_1)]) hx hb dX4_ring_89 hl (k := 2) rfl (by rw [ev12]; rfl) (by decide) rfl (fun ls hl => ?_)
        refine lv_goto (tgt := 69) hx hb dX4_ring_92 (by decide) ?_
        exact ih69 I11 _ _ ls x69_1 v12 (dk_near hn69 (by rw [ev12]; exact dk_inc d9 rfl) (dkN_lt d9 rfl)) hW hS hF hO (dkN_sub k69_0 rfl) (dkN_sub dv12 rfl) (lv_sub hl [1, 2, 0] rfl)
  have C41 : ∀ (n : Nat), ∀ (I : dkI) (H : Heap) (locs : List Loc) (ls : Array Slot) (x41_1 : Int32) (x41_2 : Int32), (5 - x41_2.toInt).toNat < n → dkW g z I H → va_S (dkA z) s.heap H locs → dkF [(t0, t0, 2, 3), (t0 + 3, t0 + 3, 0, 4), (t0 + 6, t0 + 6, 0, 4), (t0 + 9, t0 + 9, 0, 5)] I0 I → dkOk I → dkN [(-1000000, -1000000), (0, 4)] x41_1 → dkN [(0, 5)] x41_2 → lv_has ls 3 [(0, .ref (z + t0)), (1, .int x41_1), (2, .int x41_2)] → W p l e (headSpec wsX4_ring (dkR 3)).room s m args below meth c H locs 0 0 (MQ below (dkQi g z (fun r I1 => dkF [(t0, t0, 2, 3), (t0 + 3, t0 + 3, 0, 4), (t0 + 6, t0 + 6, 0, 4), (t0 + 9, t0 + 9, 0, 5)] I0 I1 ∧ dkOk I1 ∧ ((dkN [(-1000000, -1000000), (0, 4)] r ∧ dkN [(0, 0)] (I1 t0 3) ∧ True)))) args s 0 0 (dkA z)) (F0 m 41 ls []) := by
    intro n
    induction n with
    | zero => intro I H locs ls x41_1 x41_2 hn; exact absurd hn (Nat.not_lt_zero _)
    | succ n ih41 =>
      intro I41_ H locs ls x41_1 x41_2 hn41 hW hS hF_41 hO k41_0 k41_1 hl
      have hF := hF_41
      refine lv_iload_n hx hb dX4_ring_41 rfl (lv_at hl 2 rfl) ?_
      refine lv_aload_n hx hb dX4_ring_42 rfl (lv_at hl 0 rfl) ?_
      refine dk_get (k := t0) hx hb hts iX4_ring_4 hown hK (dk_aT0 ht0 hW) rfl 4 (by decide) (hts (.fieldLink RX4 55 "DogKings$Town" "people" "I") (List.mem_of_getElem? (i := 1) rfl)) rfl dX4_ring_43 ?_
      refine lv_topi (fun v13 ev13 => ?_)
      have dv13 : dkN [(0, 5)] v13 := by rw [ev13]; exact (dkO_at hO ht0 (c := 0) (by decide) 4)
      refine lv_icmp_ge (tgt := 67) hx hb dX4_ring_46 (by decide) (fun c14 => ?_) (fun c14 => ?_)
      ·
        refine lv_iconst (v := 0) hx hb dX4_ring_67 (by decide) ?_
        refine lv_istore_n (lv' := [(2, .int 0), (0, .ref (z + t0)), (1, .int x41_1)]) hx hb dX4_ring_68 rfl hl (by decide) rfl (fun ls hl => ?_)
        exact C69 _ I41_ _ _ ls x41_1 0 (Nat.lt_succ_self _) hW hS hF hO (dkN_sub k41_0 rfl) (dkN_sub (dkN_lit (x := 0) (0) rfl) rfl) (lv_sub hl [1, 2, 0] rfl)
      ·
        have d15 : dkN [(1, 5)] v13 := dkN_le2 1 k41_1 dv13 (dkc_nle c14) rfl
        have f16 : dkN [(1, 5)] (I41_ t0 4) := by rw [← ev13]; exact d15
        have d17 : dkN [(0, 4)] x41_2 := dkN_le1 1 k41_1 dv13 (dkc_nle c14) rfl
        refine lv_aload_n hx hb dX4_ring_49 rfl (lv_at hl 0 rfl) ?_
        refine dk_get (k := t0) hx hb hts iX4_ring_4 hown hK (dk_aT0 ht0 hW) rfl 7 (by decide) (hts (.fieldLink RX4 18 "DogKings$Town" "personAt" "[I") (List.mem_of_getElem? (i := 3) rfl)) rfl dX4_ring_50 ?_
        refine lv_iload_n hx hb dX4_ring_53 rfl (lv_at hl 2 rfl) ?_
        refine lv_aload_n hx hb dX4_ring_54 rfl (lv_at hl 0 rfl) ?_
        refine dk_get (k := t0) hx hb hts iX4_ring_4 hown hK (dk_aT0 ht0 hW) rfl 5 (by decide) (hts (.fieldLink RX4 9 "DogKings$Town" "personHome" "[I") (List.mem_of_getElem? (i := 4) rfl)) rfl dX4_ring_55 ?_
        refine lv_iload_n hx hb dX4_ring_58 rfl (lv_at hl 2 rfl) ?_
        refine dk_ild (k := (t0 + 1)) hx hb hK (dk_aT1 ht0 hW) (dkN_in (n := 5) d17 rfl) dX4_ring_59 ?_
        refine lv_topi (fun v18 ev18 => ?_)
        refine dk_ist (k := (t0 + 3)) hx hb hK hW (fun _ => dkC_T g z ht0 (c := 3) (by decide) _) (by have := dkT_lt ht0; omega) hS (dkN_in (n := 5) d17 rfl) dX4_ring_60 (fun I19 H19 L19 eI19 hW hS => ?_)
        have hO := dkO_setT hO ht0 (c := 3) (by decide) eI19 (dkN_sub (dkN_top v18) rfl)
        have hF := dkF_set hF eI19 (dkIn_atv (i := 1) rfl (Nat.le_refl _) (Nat.le_refl _) d17 rfl)
        obtain ⟨v20, ev20⟩ : ∃ y : Int32, y = x41_2 + 1 := ⟨_, rfl⟩
        have dv20 : dkN [(1, 5)] v20 := by rw [ev20]; exact dkN_add d17 (dkN_lit (x := 1) (1) rfl) rfl
        refine lv_iinc (v := v20) (lv' := [(2, .int v20), (0, .ref (z + t0)), (1, .int x41_1)]) hx hb dX4_ring_61 hl (k := 2) rfl (by rw [ev20]; rfl) (by decide) rfl (fun ls hl => ?_)
        refine lv_goto (tgt := 41) hx hb dX4_ring_64 (by decide) ?_
        exact ih41 I19 _ _ ls x41_1 v20 (dk_near hn41 (by rw [ev20]; exact dk_inc d17 rfl) (dkN_lt d17 rfl)) hW hS hF hO (dkN_sub k41_0 rfl) (dkN_sub dv20 rfl) (lv_sub hl [1, 2, 0] rfl)
  have C39 : ∀ (I : dkI) (H : Heap) (locs : List Loc) (ls : Array Slot) (x39_1 : Int32), dkW g z I H → va_S (dkA z) s.heap H locs → dkF [(t0, t0, 2, 3), (t0 + 3, t0 + 3, 0, 4), (t0 + 6, t0 + 6, 0, 4), (t0 + 9, t0 + 9, 0, 5)] I0 I → dkOk I → dkN [(-1000000, -1000000), (0, 4)] x39_1 → lv_has ls 3 [(0, .ref (z + t0)), (1, .int x39_1)] → W p l e (headSpec wsX4_ring (dkR 3)).room s m args below meth c H locs 0 0 (MQ below (dkQi g z (fun r I1 => dkF [(t0, t0, 2, 3), (t0 + 3, t0 + 3, 0, 4), (t0 + 6, t0 + 6, 0, 4), (t0 + 9, t0 + 9, 0, 5)] I0 I1 ∧ dkOk I1 ∧ ((dkN [(-1000000, -1000000), (0, 4)] r ∧ dkN [(0, 0)] (I1 t0 3) ∧ True)))) args s 0 0 (dkA z)) (F0 m 39 ls []) := by
    intro I39_ H locs ls x39_1 hW hS hF_39 hO k39_0 hl
    have hF := hF_39
    refine lv_iconst (v := 0) hx hb dX4_ring_39 (by decide) ?_
    refine lv_istore_n (lv' := [(2, .int 0), (0, .ref (z + t0)), (1, .int x39_1)]) hx hb dX4_ring_40 rfl hl (by decide) rfl (fun ls hl => ?_)
    exact C41 _ I39_ _ _ ls x39_1 0 (Nat.lt_succ_self _) hW hS hF hO (dkN_sub k39_0 rfl) (dkN_sub (dkN_lit (x := 0) (0) rfl) rfl) (lv_sub hl [1, 2, 0] rfl)
  refine lv_aload_n hx hb dX4_ring_0 rfl (lv_at hl 0 rfl) ?_
  refine dk_Vi (As := []) (rest := []) ⟨hx, hb, hml, hown, hts⟩ (c_X4_kingAtBell_0 l g z I0 t0 ht0 hO) (cwV 0 hts gX4_ring_X4_kingAtBell rfl rfl rfl (by decide +kernel) ⟨Nat.le_of_ble_eq_true rfl, Nat.le_of_ble_eq_true rfl⟩) (dk_aT0 ht0 hW) rfl hK hT hW hS rfl hl.1 rfl (Nat.le_of_ble_eq_true rfl) dX4_ring_1 ⟨Nat.zero_le _, Nat.zero_le _⟩ (fun v21 I21 H21 L21 hp21 hW hS => ?_)
  obtain ⟨hF21, hO, hc21⟩ := hp21
  have hF := dkF_callP hF hF21 dkSub_nil
  obtain ⟨dv21, -⟩ := hc21
  refine lv_istore_n (lv' := [(1, .int v21), (0, .ref (z + t0))]) hx hb dX4_ring_4 rfl hl (by decide) rfl (fun ls hl => ?_)
  refine lv_iload_n hx hb dX4_ring_5 rfl (lv_at hl 0 rfl) ?_
  refine lv_if_lt (tgt := 39) hx hb dX4_ring_6 (by decide) (fun c22 => ?_) (fun c22 => ?_)
  ·
    have d23 : dkN [(-1000000, -1000000)] v21 := dkN_le1 1 dv21 (dkN_lit (x := 0) (0) rfl) (dkc_lt c22) rfl
    exact C39 I21 _ _ ls v21 hW hS hF hO (dkN_sub d23 rfl) (lv_sub hl [1, 0] rfl)
  ·
    have d24 : dkN [(0, 4)] v21 := dkN_le2 0 (dkN_lit (x := 0) (0) rfl) dv21 (dkc_nlt c22) rfl
    refine lv_iload_n hx hb dX4_ring_9 rfl (lv_at hl 0 rfl) ?_
    refine lv_aload_n hx hb dX4_ring_10 rfl (lv_at hl 1 rfl) ?_
    refine dk_get (k := t0) hx hb hts iX4_ring_4 hown hK (dk_aT0 ht0 hW) rfl 4 (by decide) (hts (.fieldLink RX4 55 "DogKings$Town" "people" "I") (List.mem_of_getElem? (i := 1) rfl)) rfl dX4_ring_11 ?_
    refine lv_topi (fun v25 ev25 => ?_)
    have dv25 : dkN [(0, 5)] v25 := by rw [ev25]; exact (dkO_at hO ht0 (c := 0) (by decide) 4)
    refine lv_icmp_ge (tgt := 39) hx hb dX4_ring_14 (by decide) (fun c26 => ?_) (fun c26 => ?_)
    ·
      have d27 : dkN [(0, 4)] v25 := dkN_le1 0 dv25 d24 (dkc_le c26) rfl
      have f28 : dkN [(0, 4)] (I21 t0 4) := by rw [← ev25]; exact d27
      exact C39 I21 _ _ ls v21 hW hS hF hO (dkN_sub d24 rfl) (lv_sub hl [1, 0] rfl)
    ·
      have d29 : dkN [(1, 5)] v25 := dkN_le2 1 d24 dv25 (dkc_nle c26) rfl
      have f30 : dkN [(1, 5)] (I21 t0 4) := by rw [← ev25]; exact d29
      refine lv_aload_n hx hb dX4_ring_17 rfl (lv_at hl 1 rfl) ?_
      refine dk_get (k := t0) hx hb hts iX4_ring_4 hown hK (dk_aT0 ht0 hW) rfl 10 (by decide) (hts (.fieldLink RX4 27 "DogKings$Town" "reigns" "[I") (List.mem_of_getElem? (i := 2) rfl)) rfl dX4_ring_18 ?_
      refine lv_iload_n hx hb dX4_ring_21 rfl (lv_at hl 0 rfl) ?_
      refine dk_ild (k := (t0 + 6)) hx hb hK (dk_aT6 ht0 hW) (dkN_in (n := 5) d24 rfl) dX4_ring_22 ?_
      refine lv_topi (fun v31 ev31 => ?_)
      refine lv_sipush (v := 999) hx hb dX4_ring_23 (by decide) ?_
      refine lv_icmp_ge (tgt := 39) hx hb dX4_ring_26 (by decide) (fun c32 => ?_) (fun c32 => ?_)
      ·
        have d33 : dkN [(999, 2147483647)] v31 := dkN_le2 0 (dkN_lit (x := 999) (999) rfl) (dkN_top v31) (dkc_le c32) rfl
        exact C39 I21 _ _ ls v21 hW hS hF hO (dkN_sub d24 rfl) (lv_sub hl [1, 0] rfl)
      ·
        have d34 : dkN [(-2147483648, 998)] v31 := dkN_le1 1 (dkN_top v31) (dkN_lit (x := 999) (999) rfl) (dkc_nle c32) rfl
        refine lv_aload_n hx hb dX4_ring_29 rfl (lv_at hl 1 rfl) ?_
        refine dk_get (k := t0) hx hb hts iX4_ring_4 hown hK (dk_aT0 ht0 hW) rfl 10 (by decide) (hts (.fieldLink RX4 27 "DogKings$Town" "reigns" "[I") (List.mem_of_getElem? (i := 2) rfl)) rfl dX4_ring_30 ?_
        refine lv_iload_n hx hb dX4_ring_33 rfl (lv_at hl 0 rfl) ?_
        refine lv_dup2_11 hx hb dX4_ring_34 rfl rfl ?_
        refine dk_ild (k := (t0 + 6)) hx hb hK (dk_aT6 ht0 hW) (dkN_in (n := 5) d24 rfl) dX4_ring_35 ?_
        refine lv_topi (fun v35 ev35 => ?_)
        refine lv_iconst (v := 1) hx hb dX4_ring_36 (by decide) ?_
        refine lv_iadd hx hb dX4_ring_37 ?_
        refine lv_topi (fun v36 ev36 => ?_)
        refine dk_ist (k := (t0 + 6)) hx hb hK hW (fun _ => dkC_T g z ht0 (c := 6) (by decide) _) (by have := dkT_lt ht0; omega) hS (dkN_in (n := 5) d24 rfl) dX4_ring_38 (fun I37 H37 L37 eI37 hW hS => ?_)
        have hO := dkO_setT hO ht0 (c := 6) (by decide) eI37 (dkN_sub (dkN_top v36) rfl)
        have hF := dkF_set hF eI37 (dkIn_atv (i := 2) rfl (Nat.le_refl _) (Nat.le_refl _) d24 rfl)
        exact C39 I37 _ _ ls v21 hW hS hF hO (dkN_sub d24 rfl) (lv_sub hl [1, 0] rfl)
set_option maxHeartbeats 4000000 in
set_option maxRecDepth 100000 in
theorem c_X4_pass_0 (l : Launch) (g : dkG) (z : Nat) (I0 : dkI) (t0 : Nat) (ht0 : dkT t0)  (hO : dkOk I0) : Met l yX4_pass wsX4_pass (dkR 4) (dkPc g z [.ref (z + t0)] I0) (dkQi g z (fun r I1 => dkF [(t0, t0, 2, 3), (t0 + 3, t0 + 3, 0, 4), (t0 + 5, t0 + 5, 0, 4), (t0 + 6, t0 + 6, 0, 4), (t0 + 9, t0 + 9, 0, 5), (t0 + 10, t0 + 10, 0, 8)] I0 I1 ∧ dkOk I1 ∧ ((dkN [(-1000000, -1000000), (0, 4)] r ∧ dkN [(-2147483648, 29)] (I1 t0 3) ∧ True)))) 0 0 (dkA z) := by
  refine Met.ofW (cc := cX4_pass) (maxL := 1) (ret := (some .int)) (by decide) rfl ?_
  intro p e s m args below meth c s₁ B hml hv
  obtain ⟨ha, hW, hK, hT⟩ := hv
  have hx := B.exec
  have hb := B.bytes
  have hr := B.returns
  have hts := atoms_spec (ws := wsX4_pass) B.pre
  have hown : s.vm.findClass RX4 = some m.cls := findClass_of_methodNamed B.named
  have hlocks := B.notSynchronized
  have hS : va_S (dkA z) s.heap s.heap [] := va_S.rf
  have hF : dkF [(t0, t0, 2, 3), (t0 + 3, t0 + 3, 0, 4), (t0 + 5, t0 + 5, 0, 4), (t0 + 6, t0 + 6, 0, 4), (t0 + 9, t0 + 9, 0, 5), (t0 + 10, t0 + 10, 0, 8)] I0 I0 := dkF_rf _ _
  have hl := lv_entry ([.ref (z + t0)]) (n := 1) (Nat.le_of_ble_eq_true rfl)
  have hgo : entryFrame m args 1 = entryFrame m ([.ref (z + t0)] : List Value).toArray 1 := by rw [ha]
  rw [hgo, lg_entry_eq]
  generalize (lg_sl ([.ref (z + t0)]) ++ List.replicate (1 - (lg_sl ([.ref (z + t0)])).length) Slot.unset).toArray = ls at hl ⊢
  have hl : lv_has ls 1 [(0, .ref (z + t0))] := hl
  refine lv_aload_n hx hb dX4_pass_0 rfl (lv_at hl 0 rfl) ?_
  refine dk_Vv (As := []) (rest := []) ⟨hx, hb, hml, hown, hts⟩ (c_X4_stir_0 l g z I0 t0 ht0 hO) (cwV 0 hts gX4_pass_X4_stir rfl rfl rfl (by decide +kernel) ⟨Nat.le_of_ble_eq_true rfl, Nat.le_of_ble_eq_true rfl⟩) (dk_aT0 ht0 hW) rfl hK hT hW hS rfl hl.1 rfl (Nat.le_of_ble_eq_true rfl) dX4_pass_1 ⟨Nat.zero_le _, Nat.zero_le _⟩ (fun I1 H1 L1 hp1 hW hS => ?_)
  obtain ⟨hF1, hO, hc1⟩ := hp1
  have hF := dkF_callP hF hF1 (dkSub_cons (i := 0) rfl (Nat.le_refl _) (Nat.le_refl _) (by decide) (by decide) (dkSub_cons (i := 1) rfl (Nat.le_refl _) (Nat.le_refl _) (by decide) (by decide) (dkSub_cons (i := 2) rfl (Nat.le_refl _) (Nat.le_refl _) (by decide) (by decide) (dkSub_cons (i := 4) rfl (Nat.le_refl _) (Nat.le_refl _) (by decide) (by decide) (dkSub_cons (i := 5) rfl (Nat.le_refl _) (Nat.le_refl _) (by decide) (by decide) dkSub_nil)))))
  refine lv_aload_n hx hb dX4_pass_4 rfl (lv_at hl 0 rfl) ?_
  refine dk_Vi (As := []) (rest := []) ⟨hx, hb, hml, hown, hts⟩ (c_X4_atBell_0 l g z I1 t0 ht0 hO) (cwV 0 hts gX4_pass_X4_atBell rfl rfl rfl (by decide +kernel) ⟨Nat.le_of_ble_eq_true rfl, Nat.le_of_ble_eq_true rfl⟩) (dk_aT0 ht0 hW) rfl hK hT hW hS rfl hl.1 rfl (Nat.le_of_ble_eq_true rfl) dX4_pass_5 ⟨Nat.zero_le _, Nat.zero_le _⟩ (fun v2 I2 H2 L2 hp2 hW hS => ?_)
  obtain ⟨hF2, hO, hc2⟩ := hp2
  have hF := dkF_callP hF hF2 dkSub_nil
  rcases hc2 with ⟨dv2, f2_t00_3, -⟩ | hc2
  ·
    refine lv_if_eq (tgt := 18) hx hb dX4_pass_8 (by decide) (fun c3 => ?_) (fun c3 => ?_)
    ·
      refine lv_ldc (v := (-1000000)) hx hb hown (hts (.constant RX4 89 (-1000000)) (List.mem_of_getElem? (i := 1) rfl)) dX4_pass_18 ?_
      exact W.iret (v := (-1000000)) hx hb hr (fun t ht hW9 => ⟨⟨(-1000000), I2, rfl, ⟨hF, hO, ⟨dkN_sub (dkN_lit (x := (-1000000)) (-1000000) rfl) rfl, (show dkN [(-2147483648, 29)] (I2 t0 3) from dkN_sub f2_t00_3 rfl), trivial⟩⟩, dkW_eq ht hW⟩, hS.F ht⟩) hS.2.2 dX4_pass_20
    ·
      exact (dkN_nil (show dkN [] v2 from dkN_ne1 (0) dv2 (dkN_lit (x := 0) (0) rfl) (dk_ne c3) rfl)).elim
  ·
    obtain ⟨dv2, f2_t00_3, -⟩ := hc2
    refine lv_if_eq (tgt := 18) hx hb dX4_pass_8 (by decide) (fun c4 => ?_) (fun c4 => ?_)
    ·
      exact (dkN_nil (show dkN [] v2 from dkN_eq1 dv2 (dkN_lit (x := 0) (0) rfl) (congrArg Int32.toInt c4) rfl)).elim
    ·
      refine lv_aload_n hx hb dX4_pass_11 rfl (lv_at hl 0 rfl) ?_
      refine dk_Vi (As := []) (rest := []) ⟨hx, hb, hml, hown, hts⟩ (c_X4_ring_0 l g z I2 t0 ht0 hO) (cwV 0 hts gX4_pass_X4_ring rfl rfl rfl (by decide +kernel) ⟨Nat.le_of_ble_eq_true rfl, Nat.le_of_ble_eq_true rfl⟩) (dk_aT0 ht0 hW) rfl hK hT hW hS rfl hl.1 rfl (Nat.le_of_ble_eq_true rfl) dX4_pass_12 ⟨Nat.zero_le _, Nat.zero_le _⟩ (fun v5 I5 H5 L5 hp5 hW hS => ?_)
      obtain ⟨hF5, hO, hc5⟩ := hp5
      have hF := dkF_callP hF hF5 (dkSub_cons (i := 0) rfl (Nat.le_refl _) (Nat.le_refl _) (by decide) (by decide) (dkSub_cons (i := 1) rfl (Nat.le_refl _) (Nat.le_refl _) (by decide) (by decide) (dkSub_cons (i := 3) rfl (Nat.le_refl _) (Nat.le_refl _) (by decide) (by decide) (dkSub_cons (i := 4) rfl (Nat.le_refl _) (Nat.le_refl _) (by decide) (by decide) dkSub_nil))))
      obtain ⟨dv5, f5_t00_3, -⟩ := hc5
      refine lv_goto (tgt := 20) hx hb dX4_pass_15 (by decide) ?_
      exact W.iret (v := v5) hx hb hr (fun t ht hW9 => ⟨⟨v5, I5, rfl, ⟨hF, hO, ⟨dkN_sub dv5 rfl, (show dkN [(-2147483648, 29)] (I5 t0 3) from dkN_sub f5_t00_3 rfl), trivial⟩⟩, dkW_eq ht hW⟩, hS.F ht⟩) hS.2.2 dX4_pass_20
set_option maxHeartbeats 4000000 in
set_option maxRecDepth 100000 in
theorem c_X6_isTown_0 (l : Launch) (g : dkG) (z : Nat) (I0 : dkI)  (hO : dkOk I0) : Met l yX6_isTown wsX6_isTown (dkR 0) (dkPc g z [.ref (z + 340)] I0) (dkQi g z (fun r I1 => dkF [] I0 I1 ∧ dkOk I1 ∧ ((dkN [(0, 0)] r ∧ dkN [(0, 0)] (I1 346 0) ∧ True) ∨ (dkN [(1, 1)] r ∧ dkN [(1, 9)] (I1 346 0) ∧ True)))) 0 0 (dkA z) := by
  refine Met.ofW (cc := cX6_isTown) (maxL := 1) (ret := (some .boolean)) (by decide) rfl ?_
  intro p e s m args below meth c s₁ B hml hv
  obtain ⟨ha, hW, hK, hT⟩ := hv
  have hx := B.exec
  have hb := B.bytes
  have hr := B.returns
  have hts := atoms_spec (ws := wsX6_isTown) B.pre
  have hown : s.vm.findClass RX6 = some m.cls := findClass_of_methodNamed B.named
  have hlocks := B.notSynchronized
  have hS : va_S (dkA z) s.heap s.heap [] := va_S.rf
  have hF : dkF [] I0 I0 := dkF_rf _ _
  have hl := lv_entry ([.ref (z + 340)]) (n := 1) (Nat.le_of_ble_eq_true rfl)
  have hgo : entryFrame m args 1 = entryFrame m ([.ref (z + 340)] : List Value).toArray 1 := by rw [ha]
  rw [hgo, lg_entry_eq]
  generalize (lg_sl ([.ref (z + 340)]) ++ List.replicate (1 - (lg_sl ([.ref (z + 340)])).length) Slot.unset).toArray = ls at hl ⊢
  have hl : lv_has ls 1 [(0, .ref (z + 340))] := hl
  refine lv_aload_n hx hb dX6_isTown_0 rfl (lv_at hl 0 rfl) ?_
  refine dk_get (k := 340) hx hb hts iX6_isTown_6 hown hK (dk_at340 hW) rfl 13 (by decide) (hts (.fieldLink RX6 25 "DogKingsModel" "now" "[I") (List.mem_of_getElem? (i := 1) rfl)) rfl dX6_isTown_1 ?_
  refine lv_iconst (v := 0) hx hb dX6_isTown_4 (by decide) ?_
  refine dk_ild (k := 346) hx hb hK (dk_at346 hW) (dkN_in (n := 54) (dkN_lit (x := 0) (0) rfl) rfl) dX6_isTown_5 ?_
  refine lv_topi (fun v1 ev1 => ?_)
  have ev1 : v1 = I0 346 0 := ev1
  have dv1 : dkN [(0, 9)] v1 := by rw [ev1]; exact (show dkN [(0, 9)] (I0 346 0) from (hO 346 0))
  refine lv_if_le (tgt := 13) hx hb dX6_isTown_6 (by decide) (fun c2 => ?_) (fun c2 => ?_)
  ·
    have d3 : dkN [(0, 0)] v1 := dkN_le1 0 dv1 (dkN_lit (x := 0) (0) rfl) (dkc_le c2) rfl
    have f4 : dkN [(0, 0)] (I0 346 0) := by rw [← ev1]; exact d3
    refine lv_iconst (v := 0) hx hb dX6_isTown_13 (by decide) ?_
    exact W.zret (v := 0) (ty := .boolean) hx hb hr rfl (fun t ht hW9 => ⟨⟨0, I0, rfl, ⟨hF, hO, Or.inl ⟨dkN_sub (dkN_lit (x := 0) (0) rfl) rfl, (show dkN [(0, 0)] (I0 346 0) from dkN_sub f4 rfl), trivial⟩⟩, dkW_eq ht hW⟩, hS.F ht⟩) hS.2.2 dX6_isTown_14
  ·
    have d5 : dkN [(1, 9)] v1 := dkN_le2 1 (dkN_lit (x := 0) (0) rfl) dv1 (dkc_nle c2) rfl
    have f6 : dkN [(1, 9)] (I0 346 0) := by rw [← ev1]; exact d5
    refine lv_iconst (v := 1) hx hb dX6_isTown_9 (by decide) ?_
    refine lv_goto (tgt := 14) hx hb dX6_isTown_10 (by decide) ?_
    exact W.zret (v := 1) (ty := .boolean) hx hb hr rfl (fun t ht hW9 => ⟨⟨1, I0, rfl, ⟨hF, hO, Or.inr (⟨dkN_sub (dkN_lit (x := 1) (1) rfl) rfl, (show dkN [(1, 9)] (I0 346 0) from dkN_sub f6 rfl), trivial⟩)⟩, dkW_eq ht hW⟩, hS.F ht⟩) hS.2.2 dX6_isTown_14
set_option maxHeartbeats 4000000 in
set_option maxRecDepth 100000 in
theorem c_X6_in_11 (l : Launch) (g : dkG) (z : Nat) (I0 : dkI) (p0 : Int32) (p1 : Int32) (p2 : Int32) (dp1 : dkN [(1, 1)] p1) (dp2 : dkN [(24, 24)] p2)  (hO : dkOk I0) : Met l yX6_in wsX6_in (dkR 0) (dkPc g z [.int p0, .int p1, .int p2] I0) (dkQi g z (fun r I1 => dkF [] I0 I1 ∧ dkOk I1 ∧ ((dkN [(0, 0)] r ∧ dkN [(-2147483648, 0), (25, 2147483647)] p0 ∧ True) ∨ (dkN [(1, 1)] r ∧ dkN [(1, 24)] p0 ∧ True)))) 0 0 (dkA z) := by
  refine Met.ofW (cc := cX6_in) (maxL := 3) (ret := (some .boolean)) (by decide) rfl ?_
  intro p e s m args below meth c s₁ B hml hv
  obtain ⟨ha, hW, hK, hT⟩ := hv
  have hx := B.exec
  have hb := B.bytes
  have hr := B.returns
  have hts := atoms_spec (ws := wsX6_in) B.pre
  have hown : s.vm.findClass RX6 = some m.cls := findClass_of_methodNamed B.named
  have hlocks := B.notSynchronized
  have hS : va_S (dkA z) s.heap s.heap [] := va_S.rf
  have hF : dkF [] I0 I0 := dkF_rf _ _
  have hl := lv_entry ([.int p0, .int p1, .int p2]) (n := 3) (Nat.le_of_ble_eq_true rfl)
  have hgo : entryFrame m args 3 = entryFrame m ([.int p0, .int p1, .int p2] : List Value).toArray 3 := by rw [ha]
  rw [hgo, lg_entry_eq]
  generalize (lg_sl ([.int p0, .int p1, .int p2]) ++ List.replicate (3 - (lg_sl ([.int p0, .int p1, .int p2])).length) Slot.unset).toArray = ls at hl ⊢
  have hl : lv_has ls 3 [(0, .int p0), (1, .int p1), (2, .int p2)] := hl
  refine lv_iload_n hx hb dX6_in_0 rfl (lv_at hl 0 rfl) ?_
  refine lv_iload_n hx hb dX6_in_1 rfl (lv_at hl 1 rfl) ?_
  refine lv_icmp_lt (tgt := 14) hx hb dX6_in_2 (by decide) (fun c1 => ?_) (fun c1 => ?_)
  ·
    have d2 : dkN [(-2147483648, 0)] p0 := dkN_le1 1 (dkN_top p0) dp1 (dkc_lt c1) rfl
    refine lv_iconst (v := 0) hx hb dX6_in_14 (by decide) ?_
    exact W.zret (v := 0) (ty := .boolean) hx hb hr rfl (fun t ht hW9 => ⟨⟨0, I0, rfl, ⟨hF, hO, Or.inl ⟨dkN_sub (dkN_lit (x := 0) (0) rfl) rfl, dkN_sub d2 rfl, trivial⟩⟩, dkW_eq ht hW⟩, hS.F ht⟩) hS.2.2 dX6_in_15
  ·
    have d3 : dkN [(1, 2147483647)] p0 := dkN_le2 0 dp1 (dkN_top p0) (dkc_nlt c1) rfl
    refine lv_iload_n hx hb dX6_in_5 rfl (lv_at hl 0 rfl) ?_
    refine lv_iload_n hx hb dX6_in_6 rfl (lv_at hl 2 rfl) ?_
    refine lv_icmp_gt (tgt := 14) hx hb dX6_in_7 (by decide) (fun c4 => ?_) (fun c4 => ?_)
    ·
      have d5 : dkN [(25, 2147483647)] p0 := dkN_le2 1 dp2 d3 (dkc_lt c4) rfl
      refine lv_iconst (v := 0) hx hb dX6_in_14 (by decide) ?_
      exact W.zret (v := 0) (ty := .boolean) hx hb hr rfl (fun t ht hW9 => ⟨⟨0, I0, rfl, ⟨hF, hO, Or.inl ⟨dkN_sub (dkN_lit (x := 0) (0) rfl) rfl, dkN_sub d5 rfl, trivial⟩⟩, dkW_eq ht hW⟩, hS.F ht⟩) hS.2.2 dX6_in_15
    ·
      have d6 : dkN [(1, 24)] p0 := dkN_le1 0 d3 dp2 (dkc_nlt c4) rfl
      refine lv_iconst (v := 1) hx hb dX6_in_10 (by decide) ?_
      refine lv_goto (tgt := 15) hx hb dX6_in_11 (by decide) ?_
      exact W.zret (v := 1) (ty := .boolean) hx hb hr rfl (fun t ht hW9 => ⟨⟨1, I0, rfl, ⟨hF, hO, Or.inr (⟨dkN_sub (dkN_lit (x := 1) (1) rfl) rfl, dkN_sub d6 rfl, trivial⟩)⟩, dkW_eq ht hW⟩, hS.F ht⟩) hS.2.2 dX6_in_15
set_option maxHeartbeats 4000000 in
set_option maxRecDepth 100000 in
theorem c_X6_goesOut_0 (l : Launch) (g : dkG) (z : Nat) (I0 : dkI) (p0 : Int32) (dp0 : dkN [(0, 4)] p0)  (hO : dkOk I0) : Met l yX6_goesOut wsX6_goesOut (dkR 0) (dkPc g z [.ref (z + 346), .int p0] I0) (dkQv g z (fun I1 => dkF [(346, 346, 8, 34)] I0 I1 ∧ dkOk I1 ∧ ((True)))) 0 0 (dkA z) := by
  refine Met.ofW (cc := cX6_goesOut) (maxL := 3) (ret := none) (by decide) rfl ?_
  intro p e s m args below meth c s₁ B hml hv
  obtain ⟨ha, hW, hK, hT⟩ := hv
  have hx := B.exec
  have hb := B.bytes
  have hr := B.returns
  have hts := atoms_spec (ws := wsX6_goesOut) B.pre
  have hown : s.vm.findClass RX6 = some m.cls := findClass_of_methodNamed B.named
  have hlocks := B.notSynchronized
  have hS : va_S (dkA z) s.heap s.heap [] := va_S.rf
  have hF : dkF [(346, 346, 8, 34)] I0 I0 := dkF_rf _ _
  have hl := lv_entry ([.ref (z + 346), .int p0]) (n := 3) (Nat.le_of_ble_eq_true rfl)
  have hgo : entryFrame m args 3 = entryFrame m ([.ref (z + 346), .int p0] : List Value).toArray 3 := by rw [ha]
  rw [hgo, lg_entry_eq]
  generalize (lg_sl ([.ref (z + 346), .int p0]) ++ List.replicate (3 - (lg_sl ([.ref (z + 346), .int p0])).length) Slot.unset).toArray = ls at hl ⊢
  have hl : lv_has ls 3 [(0, .ref (z + 346)), (1, .int p0)] := hl
  have C62 : ∀ (I : dkI) (H : Heap) (locs : List Loc) (ls : Array Slot) (x62_2 : Int32), dkW g z I H → va_S (dkA z) s.heap H locs → dkF [(346, 346, 8, 34)] I0 I → dkOk I → dkN [(6, 30)] x62_2 → lv_has ls 3 [(0, .ref (z + 346)), (1, .int p0), (2, .int x62_2)] → W p l e (headSpec wsX6_goesOut (dkR 0)).room s m args below meth c H locs 0 0 (MQ below (dkQv g z (fun I1 => dkF [(346, 346, 8, 34)] I0 I1 ∧ dkOk I1 ∧ ((True)))) args s 0 0 (dkA z)) (F0 m 62 ls []) := by
    intro I62_ H locs ls x62_2 hW hS hF_62 hO k62_0 hl
    have hF := hF_62
    refine lv_aload_n hx hb dX6_goesOut_62 rfl (lv_at hl 0 rfl) ?_
    refine lv_iload_n hx hb dX6_goesOut_63 rfl (lv_at hl 2 rfl) ?_
    refine lv_iconst (v := 4) hx hb dX6_goesOut_64 (by decide) ?_
    refine lv_iadd hx hb dX6_goesOut_65 ?_
    refine lv_topi (fun v1 ev1 => ?_)
    have dv1 : dkN [(10, 34)] v1 := by rw [ev1]; exact dkN_add k62_0 (dkN_lit (x := 4) (4) rfl) rfl
    refine lv_dup2_11 hx hb dX6_goesOut_66 rfl rfl ?_
    refine dk_ild (k := 346) hx hb hK (dk_at346 hW) (dkN_in (n := 54) dv1 rfl) dX6_goesOut_67 ?_
    refine lv_topi (fun v2 ev2 => ?_)
    refine lv_aload_n hx hb dX6_goesOut_68 rfl (lv_at hl 0 rfl) ?_
    refine lv_iload_n hx hb dX6_goesOut_69 rfl (lv_at hl 2 rfl) ?_
    refine lv_iconst (v := 2) hx hb dX6_goesOut_70 (by decide) ?_
    refine lv_iadd hx hb dX6_goesOut_71 ?_
    refine lv_topi (fun v3 ev3 => ?_)
    have dv3 : dkN [(8, 32)] v3 := by rw [ev3]; exact dkN_add k62_0 (dkN_lit (x := 2) (2) rfl) rfl
    refine dk_ild (k := 346) hx hb hK (dk_at346 hW) (dkN_in (n := 54) dv3 rfl) dX6_goesOut_72 ?_
    refine lv_topi (fun v4 ev4 => ?_)
    refine lv_iconst (v := 1) hx hb dX6_goesOut_73 (by decide) ?_
    refine lv_icmp_ne (tgt := 81) hx hb dX6_goesOut_74 (by decide) (fun c5 => ?_) (fun c5 => ?_)
    ·
      have d6 : dkN [(-2147483648, 0), (2, 2147483647)] v4 := dkN_ne1 (1) (dkN_top v4) (dkN_lit (x := 1) (1) rfl) (dk_ne c5) rfl
      refine lv_aload_n hx hb dX6_goesOut_81 rfl (lv_at hl 0 rfl) ?_
      refine lv_iload_n hx hb dX6_goesOut_82 rfl (lv_at hl 2 rfl) ?_
      refine lv_iconst (v := 2) hx hb dX6_goesOut_83 (by decide) ?_
      refine lv_iadd hx hb dX6_goesOut_84 ?_
      refine lv_topi (fun v7 ev7 => ?_)
      have dv7 : dkN [(8, 32)] v7 := by rw [ev7]; exact dkN_add k62_0 (dkN_lit (x := 2) (2) rfl) rfl
      refine dk_ild (k := 346) hx hb hK (dk_at346 hW) (dkN_in (n := 54) dv7 rfl) dX6_goesOut_85 ?_
      refine lv_topi (fun v8 ev8 => ?_)
      refine lv_iconst (v := 2) hx hb dX6_goesOut_86 (by decide) ?_
      refine lv_icmp_ne (tgt := 94) hx hb dX6_goesOut_87 (by decide) (fun c9 => ?_) (fun c9 => ?_)
      ·
        have d10 : dkN [(-2147483648, 1), (3, 2147483647)] v8 := dkN_ne1 (2) (dkN_top v8) (dkN_lit (x := 2) (2) rfl) (dk_ne c9) rfl
        refine lv_iconst (v := 0) hx hb dX6_goesOut_94 (by decide) ?_
        refine lv_iadd hx hb dX6_goesOut_95 ?_
        refine lv_topi (fun v11 ev11 => ?_)
        refine dk_ist (k := 346) hx hb hK hW (fun _ => rfl) (by decide) hS (dkN_in (n := 54) dv1 rfl) dX6_goesOut_96 (fun I12 H12 L12 eI12 hW hS => ?_)
        have hO := dkO_set hO eI12 (by rw [dkB_w (k := 346) (B := [(-2147483648, 2147483647)]) (by decide) dv1 rfl]; exact dkN_top _)
        have hF := dkF_set hF eI12 (dkIn_v dv1 rfl)
        exact W.vret hx hb hr (fun t ht hW9 => ⟨⟨I12, rfl, ⟨hF, hO, trivial⟩, dkW_eq ht hW⟩, hS.F ht⟩) hS.2.2 dX6_goesOut_97
      ·
        have d13 : dkN [(2, 2)] v8 := dkN_eq1 (dkN_top v8) (dkN_lit (x := 2) (2) rfl) (congrArg Int32.toInt c9) rfl
        refine lv_iconst (v := (-1)) hx hb dX6_goesOut_90 (by decide) ?_
        refine lv_goto (tgt := 95) hx hb dX6_goesOut_91 (by decide) ?_
        refine lv_iadd hx hb dX6_goesOut_95 ?_
        refine lv_topi (fun v14 ev14 => ?_)
        refine dk_ist (k := 346) hx hb hK hW (fun _ => rfl) (by decide) hS (dkN_in (n := 54) dv1 rfl) dX6_goesOut_96 (fun I15 H15 L15 eI15 hW hS => ?_)
        have hO := dkO_set hO eI15 (by rw [dkB_w (k := 346) (B := [(-2147483648, 2147483647)]) (by decide) dv1 rfl]; exact dkN_top _)
        have hF := dkF_set hF eI15 (dkIn_v dv1 rfl)
        exact W.vret hx hb hr (fun t ht hW9 => ⟨⟨I15, rfl, ⟨hF, hO, trivial⟩, dkW_eq ht hW⟩, hS.F ht⟩) hS.2.2 dX6_goesOut_97
    ·
      have d16 : dkN [(1, 1)] v4 := dkN_eq1 (dkN_top v4) (dkN_lit (x := 1) (1) rfl) (congrArg Int32.toInt c5) rfl
      refine lv_iconst (v := 1) hx hb dX6_goesOut_77 (by decide) ?_
      refine lv_goto (tgt := 95) hx hb dX6_goesOut_78 (by decide) ?_
      refine lv_iadd hx hb dX6_goesOut_95 ?_
      refine lv_topi (fun v17 ev17 => ?_)
      refine dk_ist (k := 346) hx hb hK hW (fun _ => rfl) (by decide) hS (dkN_in (n := 54) dv1 rfl) dX6_goesOut_96 (fun I18 H18 L18 eI18 hW hS => ?_)
      have hO := dkO_set hO eI18 (by rw [dkB_w (k := 346) (B := [(-2147483648, 2147483647)]) (by decide) dv1 rfl]; exact dkN_top _)
      have hF := dkF_set hF eI18 (dkIn_v dv1 rfl)
      exact W.vret hx hb hr (fun t ht hW9 => ⟨⟨I18, rfl, ⟨hF, hO, trivial⟩, dkW_eq ht hW⟩, hS.F ht⟩) hS.2.2 dX6_goesOut_97
  have C39 : ∀ (I : dkI) (H : Heap) (locs : List Loc) (ls : Array Slot) (x39_2 : Int32), dkW g z I H → va_S (dkA z) s.heap H locs → dkF [(346, 346, 8, 34)] I0 I → dkOk I → dkN [(6, 30)] x39_2 → lv_has ls 3 [(0, .ref (z + 346)), (1, .int p0), (2, .int x39_2)] → W p l e (headSpec wsX6_goesOut (dkR 0)).room s m args below meth c H locs 0 0 (MQ below (dkQv g z (fun I1 => dkF [(346, 346, 8, 34)] I0 I1 ∧ dkOk I1 ∧ ((True)))) args s 0 0 (dkA z)) (F0 m 39 ls []) := by
    intro I39_ H locs ls x39_2 hW hS hF_39 hO k39_0 hl
    have hF := hF_39
    refine lv_aload_n hx hb dX6_goesOut_39 rfl (lv_at hl 0 rfl) ?_
    refine lv_iload_n hx hb dX6_goesOut_40 rfl (lv_at hl 2 rfl) ?_
    refine lv_iconst (v := 2) hx hb dX6_goesOut_41 (by decide) ?_
    refine lv_iadd hx hb dX6_goesOut_42 ?_
    refine lv_topi (fun v19 ev19 => ?_)
    have dv19 : dkN [(8, 32)] v19 := by rw [ev19]; exact dkN_add k39_0 (dkN_lit (x := 2) (2) rfl) rfl
    refine dk_ild (k := 346) hx hb hK (dk_at346 hW) (dkN_in (n := 54) dv19 rfl) dX6_goesOut_43 ?_
    refine lv_topi (fun v20 ev20 => ?_)
    refine lv_iconst (v := 2) hx hb dX6_goesOut_44 (by decide) ?_
    refine lv_icmp_ne (tgt := 62) hx hb dX6_goesOut_45 (by decide) (fun c21 => ?_) (fun c21 => ?_)
    ·
      have d22 : dkN [(-2147483648, 1), (3, 2147483647)] v20 := dkN_ne1 (2) (dkN_top v20) (dkN_lit (x := 2) (2) rfl) (dk_ne c21) rfl
      exact C62 I39_ _ _ ls x39_2 hW hS hF hO (dkN_sub k39_0 rfl) (lv_sub hl [0, 1, 2] rfl)
    ·
      have d23 : dkN [(2, 2)] v20 := dkN_eq1 (dkN_top v20) (dkN_lit (x := 2) (2) rfl) (congrArg Int32.toInt c21) rfl
      refine lv_aload_n hx hb dX6_goesOut_48 rfl (lv_at hl 0 rfl) ?_
      refine lv_iload_n hx hb dX6_goesOut_49 rfl (lv_at hl 2 rfl) ?_
      refine lv_iconst (v := 4) hx hb dX6_goesOut_50 (by decide) ?_
      refine lv_iadd hx hb dX6_goesOut_51 ?_
      refine lv_topi (fun v24 ev24 => ?_)
      have dv24 : dkN [(10, 34)] v24 := by rw [ev24]; exact dkN_add k39_0 (dkN_lit (x := 4) (4) rfl) rfl
      refine dk_ild (k := 346) hx hb hK (dk_at346 hW) (dkN_in (n := 54) dv24 rfl) dX6_goesOut_52 ?_
      refine lv_topi (fun v25 ev25 => ?_)
      refine lv_if_ne (tgt := 62) hx hb dX6_goesOut_53 (by decide) (fun c26 => ?_) (fun c26 => ?_)
      ·
        have d27 : dkN [(-2147483648, -1), (1, 2147483647)] v25 := dkN_ne1 (0) (dkN_top v25) (dkN_lit (x := 0) (0) rfl) (dk_ne c26) rfl
        exact C62 I39_ _ _ ls x39_2 hW hS hF hO (dkN_sub k39_0 rfl) (lv_sub hl [0, 1, 2] rfl)
      ·
        have d28 : dkN [(0, 0)] v25 := dkN_eq1 (dkN_top v25) (dkN_lit (x := 0) (0) rfl) (congrArg Int32.toInt c26) rfl
        refine lv_aload_n hx hb dX6_goesOut_56 rfl (lv_at hl 0 rfl) ?_
        refine lv_iload_n hx hb dX6_goesOut_57 rfl (lv_at hl 2 rfl) ?_
        refine lv_iconst (v := 2) hx hb dX6_goesOut_58 (by decide) ?_
        refine lv_iadd hx hb dX6_goesOut_59 ?_
        refine lv_topi (fun v29 ev29 => ?_)
        have dv29 : dkN [(8, 32)] v29 := by rw [ev29]; exact dkN_add k39_0 (dkN_lit (x := 2) (2) rfl) rfl
        refine lv_iconst (v := 1) hx hb dX6_goesOut_60 (by decide) ?_
        refine dk_ist (k := 346) hx hb hK hW (fun _ => rfl) (by decide) hS (dkN_in (n := 54) dv29 rfl) dX6_goesOut_61 (fun I30 H30 L30 eI30 hW hS => ?_)
        have hO := dkO_set hO eI30 (by rw [dkB_w (k := 346) (B := [(-2147483648, 2147483647)]) (by decide) dv29 rfl]; exact dkN_top _)
        have hF := dkF_set hF eI30 (dkIn_v dv29 rfl)
        exact C62 I30 _ _ ls x39_2 hW hS hF hO (dkN_sub k39_0 rfl) (lv_sub hl [0, 1, 2] rfl)
  refine lv_bipush (v := 6) hx hb dX6_goesOut_0 (by decide) ?_
  refine lv_bipush (v := 6) hx hb dX6_goesOut_2 (by decide) ?_
  refine lv_iload_n hx hb dX6_goesOut_4 rfl (lv_at hl 1 rfl) ?_
  refine lv_imul hx hb dX6_goesOut_5 ?_
  refine lv_topi (fun v31 ev31 => ?_)
  have dv31 : dkN [(0, 24)] v31 := by rw [ev31]; exact dkN_mulL 6 (by decide) (dkN_lit (x := 6) (6) rfl) dp0 rfl
  refine lv_iadd hx hb dX6_goesOut_6 ?_
  refine lv_topi (fun v32 ev32 => ?_)
  have dv32 : dkN [(6, 30)] v32 := by rw [ev32]; exact dkN_add (dkN_lit (x := 6) (6) rfl) dv31 rfl
  refine lv_istore_n (lv' := [(2, .int v32), (0, .ref (z + 346)), (1, .int p0)]) hx hb dX6_goesOut_7 rfl hl (by decide) rfl (fun ls hl => ?_)
  refine lv_aload_n hx hb dX6_goesOut_8 rfl (lv_at hl 1 rfl) ?_
  refine lv_iload_n hx hb dX6_goesOut_9 rfl (lv_at hl 0 rfl) ?_
  refine lv_iconst (v := 2) hx hb dX6_goesOut_10 (by decide) ?_
  refine lv_iadd hx hb dX6_goesOut_11 ?_
  refine lv_topi (fun v33 ev33 => ?_)
  have dv33 : dkN [(8, 32)] v33 := by rw [ev33]; exact dkN_add dv32 (dkN_lit (x := 2) (2) rfl) rfl
  refine dk_ild (k := 346) hx hb hK (dk_at346 hW) (dkN_in (n := 54) dv33 rfl) dX6_goesOut_12 ?_
  refine lv_topi (fun v34 ev34 => ?_)
  refine lv_iconst (v := 1) hx hb dX6_goesOut_13 (by decide) ?_
  refine lv_icmp_ne (tgt := 39) hx hb dX6_goesOut_14 (by decide) (fun c35 => ?_) (fun c35 => ?_)
  ·
    have d36 : dkN [(-2147483648, 0), (2, 2147483647)] v34 := dkN_ne1 (1) (dkN_top v34) (dkN_lit (x := 1) (1) rfl) (dk_ne c35) rfl
    exact C39 I0 _ _ ls v32 hW hS hF hO (dkN_sub dv32 rfl) (lv_sub hl [1, 2, 0] rfl)
  ·
    have d37 : dkN [(1, 1)] v34 := dkN_eq1 (dkN_top v34) (dkN_lit (x := 1) (1) rfl) (congrArg Int32.toInt c35) rfl
    refine lv_aload_n hx hb dX6_goesOut_17 rfl (lv_at hl 1 rfl) ?_
    refine lv_iload_n hx hb dX6_goesOut_18 rfl (lv_at hl 0 rfl) ?_
    refine lv_iconst (v := 4) hx hb dX6_goesOut_19 (by decide) ?_
    refine lv_iadd hx hb dX6_goesOut_20 ?_
    refine lv_topi (fun v38 ev38 => ?_)
    have dv38 : dkN [(10, 34)] v38 := by rw [ev38]; exact dkN_add dv32 (dkN_lit (x := 4) (4) rfl) rfl
    refine dk_ild (k := 346) hx hb hK (dk_at346 hW) (dkN_in (n := 54) dv38 rfl) dX6_goesOut_21 ?_
    refine lv_topi (fun v39 ev39 => ?_)
    refine lv_aload_n hx hb dX6_goesOut_22 rfl (lv_at hl 1 rfl) ?_
    refine lv_iconst (v := 0) hx hb dX6_goesOut_23 (by decide) ?_
    refine dk_ild (k := 346) hx hb hK (dk_at346 hW) (dkN_in (n := 54) (dkN_lit (x := 0) (0) rfl) rfl) dX6_goesOut_24 ?_
    refine lv_topi (fun v40 ev40 => ?_)
    have ev40 : v40 = I0 346 0 := ev40
    have dv40 : dkN [(0, 9)] v40 := by rw [ev40]; exact (show dkN [(0, 9)] (I0 346 0) from (hO 346 0))
    refine lv_iconst (v := 1) hx hb dX6_goesOut_25 (by decide) ?_
    refine lv_isub hx hb dX6_goesOut_26 ?_
    refine lv_topi (fun v41 ev41 => ?_)
    have dv41 : dkN [(-1, 8)] v41 := by rw [ev41]; exact dkN_subt dv40 (dkN_lit (x := 1) (1) rfl) rfl
    refine lv_icmp_ne (tgt := 39) hx hb dX6_goesOut_27 (by decide) (fun c42 => ?_) (fun c42 => ?_)
    ·
      exact C39 I0 _ _ ls v32 hW hS hF hO (dkN_sub dv32 rfl) (lv_sub hl [1, 2, 0] rfl)
    ·
      have d43 : dkN [(-1, 8)] v39 := dkN_eq1 (dkN_top v39) dv41 (congrArg Int32.toInt c42) rfl
      refine lv_aload_n hx hb dX6_goesOut_30 rfl (lv_at hl 1 rfl) ?_
      refine lv_iload_n hx hb dX6_goesOut_31 rfl (lv_at hl 0 rfl) ?_
      refine lv_iconst (v := 2) hx hb dX6_goesOut_32 (by decide) ?_
      refine lv_iadd hx hb dX6_goesOut_33 ?_
      refine lv_topi (fun v44 ev44 => ?_)
      have dv44 : dkN [(8, 32)] v44 := by rw [ev44]; exact dkN_add dv32 (dkN_lit (x := 2) (2) rfl) rfl
      refine lv_iconst (v := 2) hx hb dX6_goesOut_34 (by decide) ?_
      refine dk_ist (k := 346) hx hb hK hW (fun _ => rfl) (by decide) hS (dkN_in (n := 54) dv44 rfl) dX6_goesOut_35 (fun I45 H45 L45 eI45 hW hS => ?_)
      have hO := dkO_set hO eI45 (by rw [dkB_w (k := 346) (B := [(-2147483648, 2147483647)]) (by decide) dv44 rfl]; exact dkN_top _)
      have hF := dkF_set hF eI45 (dkIn_v dv44 rfl)
      refine lv_goto (tgt := 62) hx hb dX6_goesOut_36 (by decide) ?_
      exact C62 I45 _ _ ls v32 hW hS hF hO (dkN_sub dv32 rfl) (lv_sub hl [1, 2, 0] rfl)
set_option maxHeartbeats 4000000 in
set_option maxRecDepth 100000 in
theorem c_X6_size_0 (l : Launch) (g : dkG) (z : Nat) (I0 : dkI) (p0 : Int32)  (hO : dkOk I0) : Met l yX6_size wsX6_size (dkR 0) (dkPc g z [.int p0] I0) (dkQi g z (fun r I1 => dkF [] I0 I1 ∧ dkOk I1 ∧ ((True ∧ True)))) 0 0 (dkA z) := by
  refine Met.ofW (cc := cX6_size) (maxL := 1) (ret := (some .int)) (by decide) rfl ?_
  intro p e s m args below meth c s₁ B hml hv
  obtain ⟨ha, hW, hK, hT⟩ := hv
  have hx := B.exec
  have hb := B.bytes
  have hr := B.returns
  have hts := atoms_spec (ws := wsX6_size) B.pre
  have hown : s.vm.findClass RX6 = some m.cls := findClass_of_methodNamed B.named
  have hlocks := B.notSynchronized
  have hS : va_S (dkA z) s.heap s.heap [] := va_S.rf
  have hF : dkF [] I0 I0 := dkF_rf _ _
  have hl := lv_entry ([.int p0]) (n := 1) (Nat.le_of_ble_eq_true rfl)
  have hgo : entryFrame m args 1 = entryFrame m ([.int p0] : List Value).toArray 1 := by rw [ha]
  rw [hgo, lg_entry_eq]
  generalize (lg_sl ([.int p0]) ++ List.replicate (1 - (lg_sl ([.int p0])).length) Slot.unset).toArray = ls at hl ⊢
  have hl : lv_has ls 1 [(0, .int p0)] := hl
  refine lv_iload_n hx hb dX6_size_0 rfl (lv_at hl 0 rfl) ?_
  refine lv_if_ge (tgt := 9) hx hb dX6_size_1 (by decide) (fun c1 => ?_) (fun c1 => ?_)
  ·
    have d2 : dkN [(0, 2147483647)] p0 := dkN_le2 0 (dkN_lit (x := 0) (0) rfl) (dkN_top p0) (dkc_le c1) rfl
    refine lv_iload_n hx hb dX6_size_9 rfl (lv_at hl 0 rfl) ?_
    exact W.iret (v := p0) hx hb hr (fun t ht hW9 => ⟨⟨p0, I0, rfl, ⟨hF, hO, ⟨trivial, trivial⟩⟩, dkW_eq ht hW⟩, hS.F ht⟩) hS.2.2 dX6_size_10
  ·
    have d3 : dkN [(-2147483648, -1)] p0 := dkN_le1 1 (dkN_top p0) (dkN_lit (x := 0) (0) rfl) (dkc_nle c1) rfl
    refine lv_iload_n hx hb dX6_size_4 rfl (lv_at hl 0 rfl) ?_
    refine lv_ineg hx hb dX6_size_5 ?_
    refine lv_topi (fun v4 ev4 => ?_)
    refine lv_goto (tgt := 10) hx hb dX6_size_6 (by decide) ?_
    exact W.iret (v := v4) hx hb hr (fun t ht hW9 => ⟨⟨v4, I0, rfl, ⟨hF, hO, ⟨trivial, trivial⟩⟩, dkW_eq ht hW⟩, hS.F ht⟩) hS.2.2 dX6_size_10
set_option maxHeartbeats 4000000 in
set_option maxRecDepth 100000 in
theorem c_X6_pull_0 (l : Launch) (g : dkG) (z : Nat) (I0 : dkI) (p0 : Int32) (p1 : Int32) (dp0 : dkN [(0, 5)] p0) (dp1 : dkN [(0, 4)] p1)  (hO : dkOk I0) : Met l yX6_pull wsX6_pull (dkR 1) (dkPc g z [.ref (z + 346), .int p0, .int p1] I0) (dkQi g z (fun r I1 => dkF [] I0 I1 ∧ dkOk I1 ∧ ((True ∧ True)))) 0 0 (dkA z) := by
  refine Met.ofW (cc := cX6_pull) (maxL := 5) (ret := (some .int)) (by decide) rfl ?_
  intro p e s m args below meth c s₁ B hml hv
  obtain ⟨ha, hW, hK, hT⟩ := hv
  have hx := B.exec
  have hb := B.bytes
  have hr := B.returns
  have hts := atoms_spec (ws := wsX6_pull) B.pre
  have hown : s.vm.findClass RX6 = some m.cls := findClass_of_methodNamed B.named
  have hlocks := B.notSynchronized
  have hS : va_S (dkA z) s.heap s.heap [] := va_S.rf
  have hF : dkF [] I0 I0 := dkF_rf _ _
  have hl := lv_entry ([.ref (z + 346), .int p0, .int p1]) (n := 5) (Nat.le_of_ble_eq_true rfl)
  have hgo : entryFrame m args 5 = entryFrame m ([.ref (z + 346), .int p0, .int p1] : List Value).toArray 5 := by rw [ha]
  rw [hgo, lg_entry_eq]
  generalize (lg_sl ([.ref (z + 346), .int p0, .int p1]) ++ List.replicate (5 - (lg_sl ([.ref (z + 346), .int p0, .int p1])).length) Slot.unset).toArray = ls at hl ⊢
  have hl : lv_has ls 5 [(0, .ref (z + 346)), (1, .int p0), (2, .int p1)] := hl
  have C50 : ∀ (I : dkI) (H : Heap) (locs : List Loc) (ls : Array Slot) (x50_3 : Int32) (x50_4 : Int32) (x50_s0 : Int32), dkW g z I H → va_S (dkA z) s.heap H locs → dkF [] I0 I → dkOk I → dkN [(6, 30)] x50_3 → lv_has ls 5 [(0, .ref (z + 346)), (1, .int p0), (2, .int p1), (3, .int x50_3), (4, .int x50_4)] → W p l e (headSpec wsX6_pull (dkR 1)).room s m args below meth c H locs 0 0 (MQ below (dkQi g z (fun r I1 => dkF [] I0 I1 ∧ dkOk I1 ∧ ((True ∧ True)))) args s 0 0 (dkA z)) (F0 m 50 ls [.int x50_s0]) := by
    intro I50_ H locs ls x50_3 x50_4 x50_s0 hW hS hF_50 hO k50_0 hl
    have hF := hF_50
    refine lv_iconst (v := 3) hx hb dX6_pull_50 (by decide) ?_
    refine lv_aload_n hx hb dX6_pull_51 rfl (lv_at hl 0 rfl) ?_
    refine lv_iload_n hx hb dX6_pull_52 rfl (lv_at hl 3 rfl) ?_
    refine lv_iconst (v := 3) hx hb dX6_pull_53 (by decide) ?_
    refine lv_iadd hx hb dX6_pull_54 ?_
    refine lv_topi (fun v1 ev1 => ?_)
    have dv1 : dkN [(9, 33)] v1 := by rw [ev1]; exact dkN_add k50_0 (dkN_lit (x := 3) (3) rfl) rfl
    refine dk_ild (k := 346) hx hb hK (dk_at346 hW) (dkN_in (n := 54) dv1 rfl) dX6_pull_55 ?_
    refine lv_topi (fun v2 ev2 => ?_)
    refine lv_imul hx hb dX6_pull_56 ?_
    refine lv_topi (fun v3 ev3 => ?_)
    refine lv_iadd hx hb dX6_pull_57 ?_
    refine lv_topi (fun v4 ev4 => ?_)
    refine lv_iload hx hb dX6_pull_58 (lv_at hl 4 rfl) ?_
    refine lv_isub hx hb dX6_pull_60 ?_
    refine lv_topi (fun v5 ev5 => ?_)
    exact W.iret (v := v5) hx hb hr (fun t ht hW9 => ⟨⟨v5, I50_, rfl, ⟨hF, hO, ⟨trivial, trivial⟩⟩, dkW_eq ht hW⟩, hS.F ht⟩) hS.2.2 dX6_pull_61
  refine lv_bipush (v := 6) hx hb dX6_pull_0 (by decide) ?_
  refine lv_bipush (v := 6) hx hb dX6_pull_2 (by decide) ?_
  refine lv_iload_n hx hb dX6_pull_4 rfl (lv_at hl 2 rfl) ?_
  refine lv_imul hx hb dX6_pull_5 ?_
  refine lv_topi (fun v6 ev6 => ?_)
  have dv6 : dkN [(0, 24)] v6 := by rw [ev6]; exact dkN_mulL 6 (by decide) (dkN_lit (x := 6) (6) rfl) dp1 rfl
  refine lv_iadd hx hb dX6_pull_6 ?_
  refine lv_topi (fun v7 ev7 => ?_)
  have dv7 : dkN [(6, 30)] v7 := by rw [ev7]; exact dkN_add (dkN_lit (x := 6) (6) rfl) dv6 rfl
  refine lv_istore_n (lv' := [(3, .int v7), (0, .ref (z + 346)), (1, .int p0), (2, .int p1)]) hx hb dX6_pull_7 rfl hl (by decide) rfl (fun ls hl => ?_)
  refine lv_aload_n hx hb dX6_pull_8 rfl (lv_at hl 1 rfl) ?_
  refine lv_iload_n hx hb dX6_pull_9 rfl (lv_at hl 0 rfl) ?_
  refine lv_iconst (v := 4) hx hb dX6_pull_10 (by decide) ?_
  refine lv_iadd hx hb dX6_pull_11 ?_
  refine lv_topi (fun v8 ev8 => ?_)
  have dv8 : dkN [(10, 34)] v8 := by rw [ev8]; exact dkN_add dv7 (dkN_lit (x := 4) (4) rfl) rfl
  refine dk_ild (k := 346) hx hb hK (dk_at346 hW) (dkN_in (n := 54) dv8 rfl) dX6_pull_12 ?_
  refine lv_topi (fun v9 ev9 => ?_)
  refine lv_aload_n hx hb dX6_pull_13 rfl (lv_at hl 1 rfl) ?_
  refine lv_bipush (v := 36) hx hb dX6_pull_14 (by decide) ?_
  refine lv_iconst (v := 3) hx hb dX6_pull_16 (by decide) ?_
  refine lv_iload_n hx hb dX6_pull_17 rfl (lv_at hl 2 rfl) ?_
  refine lv_imul hx hb dX6_pull_18 ?_
  refine lv_topi (fun v10 ev10 => ?_)
  have dv10 : dkN [(0, 0), (3, 3), (6, 6), (9, 9), (12, 12), (15, 15)] v10 := by rw [ev10]; exact dkN_mulPt 3 (dkN_lit (x := 3) (3) rfl) dp0 rfl
  refine lv_iadd hx hb dX6_pull_19 ?_
  refine lv_topi (fun v11 ev11 => ?_)
  have dv11 : dkN [(36, 36), (39, 39), (42, 42), (45, 45), (48, 48), (51, 51)] v11 := by rw [ev11]; exact dkN_add (dkN_lit (x := 36) (36) rfl) dv10 rfl
  refine lv_iconst (v := 2) hx hb dX6_pull_20 (by decide) ?_
  refine lv_iadd hx hb dX6_pull_21 ?_
  refine lv_topi (fun v12 ev12 => ?_)
  have dv12 : dkN [(38, 38), (41, 41), (44, 44), (47, 47), (50, 50), (53, 53)] v12 := by rw [ev12]; exact dkN_add dv11 (dkN_lit (x := 2) (2) rfl) rfl
  refine dk_ild (k := 346) hx hb hK (dk_at346 hW) (dkN_in (n := 54) dv12 rfl) dX6_pull_22 ?_
  refine lv_topi (fun v13 ev13 => ?_)
  refine lv_isub hx hb dX6_pull_23 ?_
  refine lv_topi (fun v14 ev14 => ?_)
  refine dk_Si (As := [.int v14]) (rest := []) ⟨hx, hb, hml, hown, hts⟩ (c_X6_size_0 l g z I0 v14 hO) (va_cwS 1 hts gX6_pull_X6_size rfl rfl rfl (by decide +kernel) ⟨Nat.le_of_ble_eq_true rfl, Nat.le_of_ble_eq_true rfl⟩) hK hT hW hS rfl hl.1 rfl (Nat.le_of_ble_eq_true rfl) dX6_pull_24 ⟨Nat.zero_le _, Nat.zero_le _⟩ (fun v15 I15 H15 L15 hp15 hW hS => ?_)
  obtain ⟨hF15, hO, hc15⟩ := hp15
  have hF := dkF_call hF hF15 rfl
  obtain ⟨_, -⟩ := hc15
  refine lv_istore (lv' := [(4, .int v15), (3, .int v7), (0, .ref (z + 346)), (1, .int p0), (2, .int p1)]) hx hb dX6_pull_27 hl (by decide) rfl (fun ls hl => ?_)
  refine lv_aload_n hx hb dX6_pull_29 rfl (lv_at hl 2 rfl) ?_
  refine lv_bipush (v := 36) hx hb dX6_pull_30 (by decide) ?_
  refine lv_iconst (v := 3) hx hb dX6_pull_32 (by decide) ?_
  refine lv_iload_n hx hb dX6_pull_33 rfl (lv_at hl 3 rfl) ?_
  refine lv_imul hx hb dX6_pull_34 ?_
  refine lv_topi (fun v16 ev16 => ?_)
  have dv16 : dkN [(0, 0), (3, 3), (6, 6), (9, 9), (12, 12), (15, 15)] v16 := by rw [ev16]; exact dkN_mulPt 3 (dkN_lit (x := 3) (3) rfl) dp0 rfl
  refine lv_iadd hx hb dX6_pull_35 ?_
  refine lv_topi (fun v17 ev17 => ?_)
  have dv17 : dkN [(36, 36), (39, 39), (42, 42), (45, 45), (48, 48), (51, 51)] v17 := by rw [ev17]; exact dkN_add (dkN_lit (x := 36) (36) rfl) dv16 rfl
  refine dk_ild (k := 346) hx hb hK (dk_at346 hW) (dkN_in (n := 54) dv17 rfl) dX6_pull_36 ?_
  refine lv_topi (fun v18 ev18 => ?_)
  refine lv_iconst (v := 2) hx hb dX6_pull_37 (by decide) ?_
  refine lv_icmp_ne (tgt := 45) hx hb dX6_pull_38 (by decide) (fun c19 => ?_) (fun c19 => ?_)
  ·
    have d20 : dkN [(-2147483648, 1), (3, 2147483647)] v18 := dkN_ne1 (2) (dkN_top v18) (dkN_lit (x := 2) (2) rfl) (dk_ne c19) rfl
    refine lv_aload_n hx hb dX6_pull_45 rfl (lv_at hl 2 rfl) ?_
    refine lv_iload_n hx hb dX6_pull_46 rfl (lv_at hl 1 rfl) ?_
    refine lv_iconst (v := 1) hx hb dX6_pull_47 (by decide) ?_
    refine lv_iadd hx hb dX6_pull_48 ?_
    refine lv_topi (fun v21 ev21 => ?_)
    have dv21 : dkN [(7, 31)] v21 := by rw [ev21]; exact dkN_add dv7 (dkN_lit (x := 1) (1) rfl) rfl
    refine dk_ild (k := 346) hx hb hK (dk_at346 hW) (dkN_in (n := 54) dv21 rfl) dX6_pull_49 ?_
    refine lv_topi (fun v22 ev22 => ?_)
    exact C50 I15 _ _ ls v7 v15 v22 hW hS hF hO (dkN_sub dv7 rfl) (lv_sub hl [2, 3, 4, 1, 0] rfl)
  ·
    have d23 : dkN [(2, 2)] v18 := dkN_eq1 (dkN_top v18) (dkN_lit (x := 2) (2) rfl) (congrArg Int32.toInt c19) rfl
    refine lv_iconst (v := 0) hx hb dX6_pull_41 (by decide) ?_
    refine lv_goto (tgt := 50) hx hb dX6_pull_42 (by decide) ?_
    exact C50 I15 _ _ ls v7 v15 0 hW hS hF hO (dkN_sub dv7 rfl) (lv_sub hl [2, 3, 4, 1, 0] rfl)
set_option maxHeartbeats 4000000 in
set_option maxRecDepth 100000 in
theorem c_X6_master_0 (l : Launch) (g : dkG) (z : Nat) (I0 : dkI) (p0 : Int32) (dp0 : dkN [(0, 5)] p0)  (hO : dkOk I0) : Met l yX6_master wsX6_master (dkR 2) (dkPc g z [.ref (z + 346), .int p0] I0) (dkQi g z (fun r I1 => dkF [] I0 I1 ∧ dkOk I1 ∧ ((dkN [(-1000000, -1000000), (0, 4)] r ∧ True)))) 0 0 (dkA z) := by
  refine Met.ofW (cc := cX6_master) (maxL := 4) (ret := (some .int)) (by decide) rfl ?_
  intro p e s m args below meth c s₁ B hml hv
  obtain ⟨ha, hW, hK, hT⟩ := hv
  have hx := B.exec
  have hb := B.bytes
  have hr := B.returns
  have hts := atoms_spec (ws := wsX6_master) B.pre
  have hown : s.vm.findClass RX6 = some m.cls := findClass_of_methodNamed B.named
  have hlocks := B.notSynchronized
  have hS : va_S (dkA z) s.heap s.heap [] := va_S.rf
  have hF : dkF [] I0 I0 := dkF_rf _ _
  have hl := lv_entry ([.ref (z + 346), .int p0]) (n := 4) (Nat.le_of_ble_eq_true rfl)
  have hgo : entryFrame m args 4 = entryFrame m ([.ref (z + 346), .int p0] : List Value).toArray 4 := by rw [ha]
  rw [hgo, lg_entry_eq]
  generalize (lg_sl ([.ref (z + 346), .int p0]) ++ List.replicate (4 - (lg_sl ([.ref (z + 346), .int p0])).length) Slot.unset).toArray = ls at hl ⊢
  have hl : lv_has ls 4 [(0, .ref (z + 346)), (1, .int p0)] := hl
  have C4 : ∀ (n : Nat), ∀ (I : dkI) (H : Heap) (locs : List Loc) (ls : Array Slot) (x4_2 : Int32) (x4_3 : Int32), (5 - x4_3.toInt).toNat < n → dkW g z I H → va_S (dkA z) s.heap H locs → dkF [] I0 I → dkOk I → dkN [(0, 4)] x4_2 → dkN [(1, 5)] x4_3 → lv_has ls 4 [(0, .ref (z + 346)), (1, .int p0), (2, .int x4_2), (3, .int x4_3)] → W p l e (headSpec wsX6_master (dkR 2)).room s m args below meth c H locs 0 0 (MQ below (dkQi g z (fun r I1 => dkF [] I0 I1 ∧ dkOk I1 ∧ ((dkN [(-1000000, -1000000), (0, 4)] r ∧ True)))) args s 0 0 (dkA z)) (F0 m 4 ls []) := by
    intro n
    induction n with
    | zero => intro I H locs ls x4_2 x4_3 hn; exact absurd hn (Nat.not_lt_zero _)
    | succ n ih4 =>
      intro I4_ H locs ls x4_2 x4_3 hn4 hW hS hF_4 hO k4_0 k4_1 hl
      have hF := hF_4
      have C31 : ∀ (I : dkI) (H : Heap) (locs : List Loc) (ls : Array Slot) (x31_s0 : Int32), dkW g z I H → va_S (dkA z) s.heap H locs → dkF [] I0 I → dkOk I → dkN [(0, 4)] x31_s0 → dkN [(0, 4)] x4_2 → dkN [(1, 4)] x4_3 → dkN [(2, 5)] (I 346 4) → lv_has ls 4 [(0, .ref (z + 346)), (1, .int p0), (2, .int x4_2), (3, .int x4_3)] → W p l e (headSpec wsX6_master (dkR 2)).room s m args below meth c H locs 0 0 (MQ below (dkQi g z (fun r I1 => dkF [] I0 I1 ∧ dkOk I1 ∧ ((dkN [(-1000000, -1000000), (0, 4)] r ∧ True)))) args s 0 0 (dkA z)) (F0 m 31 ls [.int x31_s0]) := by
        intro I31_ H locs ls x31_s0 hW hS hF_31 hO k31_0 r31_0 r31_1 f31_0 hl
        have hF := hF_31
        refine lv_istore_n (lv' := [(2, .int x31_s0), (0, .ref (z + 346)), (1, .int p0), (3, .int x4_3)]) hx hb dX6_master_31 rfl hl (by decide) rfl (fun ls hl => ?_)
        obtain ⟨v1, ev1⟩ : ∃ y : Int32, y = x4_3 + 1 := ⟨_, rfl⟩
        have dv1 : dkN [(2, 5)] v1 := by rw [ev1]; exact dkN_add r31_1 (dkN_lit (x := 1) (1) rfl) rfl
        refine lv_iinc (v := v1) (lv' := [(3, .int v1), (2, .int x31_s0), (0, .ref (z + 346)), (1, .int p0)]) hx hb dX6_master_32 hl (k := 3) rfl (by rw [ev1]; rfl) (by decide) rfl (fun ls hl => ?_)
        refine lv_goto (tgt := 4) hx hb dX6_master_35 (by decide) ?_
        exact ih4 I31_ _ _ ls x31_s0 v1 (dk_near hn4 (by rw [ev1]; exact dk_inc r31_1 rfl) (dkN_lt r31_1 rfl)) hW hS hF hO (dkN_sub k31_0 rfl) (dkN_sub dv1 rfl) (lv_sub hl [2, 3, 1, 0] rfl)
      refine lv_iload_n hx hb dX6_master_4 rfl (lv_at hl 3 rfl) ?_
      refine lv_aload_n hx hb dX6_master_5 rfl (lv_at hl 0 rfl) ?_
      refine lv_iconst (v := 4) hx hb dX6_master_6 (by decide) ?_
      refine dk_ild (k := 346) hx hb hK (dk_at346 hW) (dkN_in (n := 54) (dkN_lit (x := 4) (4) rfl) rfl) dX6_master_7 ?_
      refine lv_topi (fun v2 ev2 => ?_)
      have ev2 : v2 = I4_ 346 4 := ev2
      have dv2 : dkN [(0, 5)] v2 := by rw [ev2]; exact (show dkN [(0, 5)] (I4_ 346 4) from (hO 346 4))
      refine lv_icmp_ge (tgt := 38) hx hb dX6_master_8 (by decide) (fun c3 => ?_) (fun c3 => ?_)
      ·
        refine lv_aload_n hx hb dX6_master_38 rfl (lv_at hl 0 rfl) ?_
        refine lv_bipush (v := 36) hx hb dX6_master_39 (by decide) ?_
        refine lv_iconst (v := 3) hx hb dX6_master_41 (by decide) ?_
        refine lv_iload_n hx hb dX6_master_42 rfl (lv_at hl 1 rfl) ?_
        refine lv_imul hx hb dX6_master_43 ?_
        refine lv_topi (fun v4 ev4 => ?_)
        have dv4 : dkN [(0, 0), (3, 3), (6, 6), (9, 9), (12, 12), (15, 15)] v4 := by rw [ev4]; exact dkN_mulPt 3 (dkN_lit (x := 3) (3) rfl) dp0 rfl
        refine lv_iadd hx hb dX6_master_44 ?_
        refine lv_topi (fun v5 ev5 => ?_)
        have dv5 : dkN [(36, 36), (39, 39), (42, 42), (45, 45), (48, 48), (51, 51)] v5 := by rw [ev5]; exact dkN_add (dkN_lit (x := 36) (36) rfl) dv4 rfl
        refine dk_ild (k := 346) hx hb hK (dk_at346 hW) (dkN_in (n := 54) dv5 rfl) dX6_master_45 ?_
        refine lv_topi (fun v6 ev6 => ?_)
        refine lv_istore_n (lv' := [(3, .int v6), (0, .ref (z + 346)), (1, .int p0), (2, .int x4_2)]) hx hb dX6_master_46 rfl hl (by decide) rfl (fun ls hl => ?_)
        refine lv_iload_n hx hb dX6_master_47 rfl (lv_at hl 0 rfl) ?_
        refine lv_iconst (v := 3) hx hb dX6_master_48 (by decide) ?_
        refine lv_icmp_gt (tgt := 66) hx hb dX6_master_49 (by decide) (fun c7 => ?_) (fun c7 => ?_)
        ·
          have d8 : dkN [(4, 2147483647)] v6 := dkN_le2 1 (dkN_lit (x := 3) (3) rfl) (dkN_top v6) (dkc_lt c7) rfl
          refine lv_ldc (v := (-1000000)) hx hb hown (hts (.constant RX6 50 (-1000000)) (List.mem_of_getElem? (i := 1) rfl)) dX6_master_66 ?_
          refine lv_goto (tgt := 72) hx hb dX6_master_68 (by decide) ?_
          exact W.iret (v := (-1000000)) hx hb hr (fun t ht hW9 => ⟨⟨(-1000000), I4_, rfl, ⟨hF, hO, ⟨dkN_sub (dkN_lit (x := (-1000000)) (-1000000) rfl) rfl, trivial⟩⟩, dkW_eq ht hW⟩, hS.F ht⟩) hS.2.2 dX6_master_72
        ·
          have d9 : dkN [(-2147483648, 3)] v6 := dkN_le1 0 (dkN_top v6) (dkN_lit (x := 3) (3) rfl) (dkc_nlt c7) rfl
          refine lv_iload_n hx hb dX6_master_52 rfl (lv_at hl 0 rfl) ?_
          refine lv_iconst (v := 3) hx hb dX6_master_53 (by decide) ?_
          refine lv_icmp_ne (tgt := 71) hx hb dX6_master_54 (by decide) (fun c10 => ?_) (fun c10 => ?_)
          ·
            have d11 : dkN [(-2147483648, 2)] v6 := dkN_ne1 (3) d9 (dkN_lit (x := 3) (3) rfl) (dk_ne c10) rfl
            refine lv_iload_n hx hb dX6_master_71 rfl (lv_at hl 3 rfl) ?_
            exact W.iret (v := x4_2) hx hb hr (fun t ht hW9 => ⟨⟨x4_2, I4_, rfl, ⟨hF, hO, ⟨dkN_sub k4_0 rfl, trivial⟩⟩, dkW_eq ht hW⟩, hS.F ht⟩) hS.2.2 dX6_master_72
          ·
            have d12 : dkN [(3, 3)] v6 := dkN_eq1 d9 (dkN_lit (x := 3) (3) rfl) (congrArg Int32.toInt c10) rfl
            refine lv_aload_n hx hb dX6_master_57 rfl (lv_at hl 1 rfl) ?_
            refine lv_iload_n hx hb dX6_master_58 rfl (lv_at hl 2 rfl) ?_
            refine lv_iload_n hx hb dX6_master_59 rfl (lv_at hl 3 rfl) ?_
            refine dk_Si (As := [.ref (z + 346), .int p0, .int x4_2]) (rest := []) ⟨hx, hb, hml, hown, hts⟩ (c_X6_pull_0 l g z I4_ p0 x4_2 dp0 k4_0 hO) (va_cwS 3 hts gX6_master_X6_pull rfl rfl rfl (by decide +kernel) ⟨Nat.le_of_ble_eq_true rfl, Nat.le_of_ble_eq_true rfl⟩) hK hT hW hS rfl hl.1 rfl (Nat.le_of_ble_eq_true rfl) dX6_master_60 ⟨Nat.zero_le _, Nat.zero_le _⟩ (fun v13 I13 H13 L13 hp13 hW hS => ?_)
            obtain ⟨hF13, hO, hc13⟩ := hp13
            have hF := dkF_call hF hF13 rfl
            obtain ⟨_, -⟩ := hc13
            refine lv_if_gt (tgt := 71) hx hb dX6_master_63 (by decide) (fun c14 => ?_) (fun c14 => ?_)
            ·
              have d15 : dkN [(1, 2147483647)] v13 := dkN_le2 1 (dkN_lit (x := 0) (0) rfl) (dkN_top v13) (dkc_lt c14) rfl
              refine lv_iload_n hx hb dX6_master_71 rfl (lv_at hl 3 rfl) ?_
              exact W.iret (v := x4_2) hx hb hr (fun t ht hW9 => ⟨⟨x4_2, I13, rfl, ⟨hF, hO, ⟨dkN_sub k4_0 rfl, trivial⟩⟩, dkW_eq ht hW⟩, hS.F ht⟩) hS.2.2 dX6_master_72
            ·
              have d16 : dkN [(-2147483648, 0)] v13 := dkN_le1 0 (dkN_top v13) (dkN_lit (x := 0) (0) rfl) (dkc_nlt c14) rfl
              refine lv_ldc (v := (-1000000)) hx hb hown (hts (.constant RX6 50 (-1000000)) (List.mem_of_getElem? (i := 1) rfl)) dX6_master_66 ?_
              refine lv_goto (tgt := 72) hx hb dX6_master_68 (by decide) ?_
              exact W.iret (v := (-1000000)) hx hb hr (fun t ht hW9 => ⟨⟨(-1000000), I13, rfl, ⟨hF, hO, ⟨dkN_sub (dkN_lit (x := (-1000000)) (-1000000) rfl) rfl, trivial⟩⟩, dkW_eq ht hW⟩, hS.F ht⟩) hS.2.2 dX6_master_72
      ·
        have d17 : dkN [(2, 5)] v2 := dkN_le2 1 k4_1 dv2 (dkc_nle c3) rfl
        have f18 : dkN [(2, 5)] (I4_ 346 4) := by rw [← ev2]; exact d17
        have d19 : dkN [(1, 4)] x4_3 := dkN_le1 1 k4_1 dv2 (dkc_nle c3) rfl
        refine lv_aload_n hx hb dX6_master_11 rfl (lv_at hl 0 rfl) ?_
        refine lv_iload_n hx hb dX6_master_12 rfl (lv_at hl 1 rfl) ?_
        refine lv_iload_n hx hb dX6_master_13 rfl (lv_at hl 3 rfl) ?_
        refine dk_Si (As := [.ref (z + 346), .int p0, .int x4_3]) (rest := []) ⟨hx, hb, hml, hown, hts⟩ (c_X6_pull_0 l g z I4_ p0 x4_3 dp0 (dkN_sub d19 rfl) hO) (va_cwS 3 hts gX6_master_X6_pull rfl rfl rfl (by decide +kernel) ⟨Nat.le_of_ble_eq_true rfl, Nat.le_of_ble_eq_true rfl⟩) hK hT hW hS rfl hl.1 rfl (Nat.le_of_ble_eq_true rfl) dX6_master_14 ⟨Nat.zero_le _, Nat.zero_le _⟩ (fun v20 I20 H20 L20 hp20 hW hS => ?_)
        obtain ⟨hF20, hO, hc20⟩ := hp20
        have hF := dkF_call hF hF20 rfl
        obtain ⟨_, -⟩ := hc20
        refine lv_aload_n hx hb dX6_master_17 rfl (lv_at hl 0 rfl) ?_
        refine lv_iload_n hx hb dX6_master_18 rfl (lv_at hl 1 rfl) ?_
        refine lv_iload_n hx hb dX6_master_19 rfl (lv_at hl 2 rfl) ?_
        refine dk_Si (As := [.ref (z + 346), .int p0, .int x4_2]) (rest := [.int v20]) ⟨hx, hb, hml, hown, hts⟩ (c_X6_pull_0 l g z I20 p0 x4_2 dp0 k4_0 hO) (va_cwS 3 hts gX6_master_X6_pull rfl rfl rfl (by decide +kernel) ⟨Nat.le_of_ble_eq_true rfl, Nat.le_of_ble_eq_true rfl⟩) hK hT hW hS rfl hl.1 rfl (Nat.le_of_ble_eq_true rfl) dX6_master_20 ⟨Nat.zero_le _, Nat.zero_le _⟩ (fun v21 I21 H21 L21 hp21 hW hS => ?_)
        obtain ⟨hF21, hO, hc21⟩ := hp21
        have hF := dkF_call hF hF21 rfl
        obtain ⟨_, -⟩ := hc21
        refine lv_icmp_le (tgt := 30) hx hb dX6_master_23 (by decide) (fun c22 => ?_) (fun c22 => ?_)
        ·
          refine lv_iload_n hx hb dX6_master_30 rfl (lv_at hl 2 rfl) ?_
          exact C31 I21 _ _ ls x4_2 hW hS hF hO (dkN_sub k4_0 rfl) (dkN_sub k4_0 rfl) (dkN_sub d19 rfl) (show dkN [(2, 5)] (I21 346 4) from dkN_sub (by rw [hF21 346 4 rfl]; exact (by rw [hF20 346 4 rfl]; exact f18)) rfl) (lv_sub hl [0, 1, 2, 3] rfl)
        ·
          have d23 : dkN [(-2147483647, 2147483647)] v20 := dkN_le2 1 (dkN_top v21) (dkN_top v20) (dkc_nle c22) rfl
          have d24 : dkN [(-2147483648, 2147483646)] v21 := dkN_le1 1 (dkN_top v21) (dkN_top v20) (dkc_nle c22) rfl
          refine lv_iload_n hx hb dX6_master_26 rfl (lv_at hl 3 rfl) ?_
          refine lv_goto (tgt := 31) hx hb dX6_master_27 (by decide) ?_
          exact C31 I21 _ _ ls x4_3 hW hS hF hO (dkN_sub d19 rfl) (dkN_sub k4_0 rfl) (dkN_sub d19 rfl) (show dkN [(2, 5)] (I21 346 4) from dkN_sub (by rw [hF21 346 4 rfl]; exact (by rw [hF20 346 4 rfl]; exact f18)) rfl) (lv_sub hl [0, 1, 2, 3] rfl)
  refine lv_iconst (v := 0) hx hb dX6_master_0 (by decide) ?_
  refine lv_istore_n (lv' := [(2, .int 0), (0, .ref (z + 346)), (1, .int p0)]) hx hb dX6_master_1 rfl hl (by decide) rfl (fun ls hl => ?_)
  refine lv_iconst (v := 1) hx hb dX6_master_2 (by decide) ?_
  refine lv_istore_n (lv' := [(3, .int 1), (2, .int 0), (0, .ref (z + 346)), (1, .int p0)]) hx hb dX6_master_3 rfl hl (by decide) rfl (fun ls hl => ?_)
  exact C4 _ I0 _ _ ls 0 1 (Nat.lt_succ_self _) hW hS hF hO (dkN_sub (dkN_lit (x := 0) (0) rfl) rfl) (dkN_sub (dkN_lit (x := 1) (1) rfl) rfl) (lv_sub hl [2, 3, 1, 0] rfl)
set_option maxHeartbeats 4000000 in
set_option maxRecDepth 100000 in
theorem c_X6_has_0 (l : Launch) (g : dkG) (z : Nat) (I0 : dkI) (p0 : Int32) (p1 : Int32)  (hO : dkOk I0) : Met l yX6_has wsX6_has (dkR 0) (dkPc g z [.int p0, .int p1] I0) (dkQi g z (fun r I1 => dkF [] I0 I1 ∧ dkOk I1 ∧ ((dkN [(0, 1)] r ∧ True)))) 0 0 (dkA z) := by
  refine Met.ofW (cc := cX6_has) (maxL := 2) (ret := (some .boolean)) (by decide) rfl ?_
  intro p e s m args below meth c s₁ B hml hv
  obtain ⟨ha, hW, hK, hT⟩ := hv
  have hx := B.exec
  have hb := B.bytes
  have hr := B.returns
  have hts := atoms_spec (ws := wsX6_has) B.pre
  have hown : s.vm.findClass RX6 = some m.cls := findClass_of_methodNamed B.named
  have hlocks := B.notSynchronized
  have hS : va_S (dkA z) s.heap s.heap [] := va_S.rf
  have hF : dkF [] I0 I0 := dkF_rf _ _
  have hl := lv_entry ([.int p0, .int p1]) (n := 2) (Nat.le_of_ble_eq_true rfl)
  have hgo : entryFrame m args 2 = entryFrame m ([.int p0, .int p1] : List Value).toArray 2 := by rw [ha]
  rw [hgo, lg_entry_eq]
  generalize (lg_sl ([.int p0, .int p1]) ++ List.replicate (2 - (lg_sl ([.int p0, .int p1])).length) Slot.unset).toArray = ls at hl ⊢
  have hl : lv_has ls 2 [(0, .int p0), (1, .int p1)] := hl
  refine lv_iload_n hx hb dX6_has_0 rfl (lv_at hl 0 rfl) ?_
  refine lv_iload_n hx hb dX6_has_1 rfl (lv_at hl 1 rfl) ?_
  refine lv_ishr hx hb dX6_has_2 ?_
  refine lv_topi (fun v1 ev1 => ?_)
  refine lv_iconst (v := 1) hx hb dX6_has_3 (by decide) ?_
  refine lv_iand hx hb dX6_has_4 ?_
  refine lv_topi (fun v2 ev2 => ?_)
  have dv2 : dkN [(0, 1)] v2 := by rw [ev2]; exact dkN_and (dkN_lit (x := 1) (1) rfl) rfl
  refine lv_iconst (v := 1) hx hb dX6_has_5 (by decide) ?_
  refine lv_icmp_ne (tgt := 13) hx hb dX6_has_6 (by decide) (fun c3 => ?_) (fun c3 => ?_)
  ·
    have d4 : dkN [(0, 0)] v2 := dkN_ne1 (1) dv2 (dkN_lit (x := 1) (1) rfl) (dk_ne c3) rfl
    refine lv_iconst (v := 0) hx hb dX6_has_13 (by decide) ?_
    exact W.zret (v := 0) (ty := .boolean) hx hb hr rfl (fun t ht hW9 => ⟨⟨0, I0, rfl, ⟨hF, hO, ⟨dkN_sub (dkN_lit (x := 0) (0) rfl) rfl, trivial⟩⟩, dkW_eq ht hW⟩, hS.F ht⟩) hS.2.2 dX6_has_14
  ·
    have d5 : dkN [(1, 1)] v2 := dkN_eq1 dv2 (dkN_lit (x := 1) (1) rfl) (congrArg Int32.toInt c3) rfl
    refine lv_iconst (v := 1) hx hb dX6_has_9 (by decide) ?_
    refine lv_goto (tgt := 14) hx hb dX6_has_10 (by decide) ?_
    exact W.zret (v := 1) (ty := .boolean) hx hb hr rfl (fun t ht hW9 => ⟨⟨1, I0, rfl, ⟨hF, hO, ⟨dkN_sub (dkN_lit (x := 1) (1) rfl) rfl, trivial⟩⟩, dkW_eq ht hW⟩, hS.F ht⟩) hS.2.2 dX6_has_14
set_option maxHeartbeats 4000000 in
set_option maxRecDepth 100000 in
theorem c_X6_othersIn_0 (l : Launch) (g : dkG) (z : Nat) (I0 : dkI) (p0 : Int32) (p1 : Int32) (p2 : Int32) (dp1 : dkN [(-1000000, 5)] p1)  (hO : dkOk I0) : Met l yX6_othersIn wsX6_othersIn (dkR 1) (dkPc g z [.ref (z + 346), .int p0, .int p1, .int p2] I0) (dkQi g z (fun r I1 => dkF [] I0 I1 ∧ dkOk I1 ∧ ((True ∧ True)))) 0 0 (dkA z) := by
  refine Met.ofW (cc := cX6_othersIn) (maxL := 6) (ret := (some .int)) (by decide) rfl ?_
  intro p e s m args below meth c s₁ B hml hv
  obtain ⟨ha, hW, hK, hT⟩ := hv
  have hx := B.exec
  have hb := B.bytes
  have hr := B.returns
  have hts := atoms_spec (ws := wsX6_othersIn) B.pre
  have hown : s.vm.findClass RX6 = some m.cls := findClass_of_methodNamed B.named
  have hlocks := B.notSynchronized
  have hS : va_S (dkA z) s.heap s.heap [] := va_S.rf
  have hF : dkF [] I0 I0 := dkF_rf _ _
  have hl := lv_entry ([.ref (z + 346), .int p0, .int p1, .int p2]) (n := 6) (Nat.le_of_ble_eq_true rfl)
  have hgo : entryFrame m args 6 = entryFrame m ([.ref (z + 346), .int p0, .int p1, .int p2] : List Value).toArray 6 := by rw [ha]
  rw [hgo, lg_entry_eq]
  generalize (lg_sl ([.ref (z + 346), .int p0, .int p1, .int p2]) ++ List.replicate (6 - (lg_sl ([.ref (z + 346), .int p0, .int p1, .int p2])).length) Slot.unset).toArray = ls at hl ⊢
  have hl : lv_has ls 6 [(0, .ref (z + 346)), (1, .int p0), (2, .int p1), (3, .int p2)] := hl
  have C6 : ∀ (n : Nat), ∀ (I : dkI) (H : Heap) (locs : List Loc) (ls : Array Slot) (x6_4 : Int32) (x6_5 : Int32), (6 - x6_5.toInt).toNat < n → dkW g z I H → va_S (dkA z) s.heap H locs → dkF [] I0 I → dkOk I → dkN [(0, 6)] x6_5 → lv_has ls 6 [(0, .ref (z + 346)), (1, .int p0), (2, .int p1), (3, .int p2), (4, .int x6_4), (5, .int x6_5)] → W p l e (headSpec wsX6_othersIn (dkR 1)).room s m args below meth c H locs 0 0 (MQ below (dkQi g z (fun r I1 => dkF [] I0 I1 ∧ dkOk I1 ∧ ((True ∧ True)))) args s 0 0 (dkA z)) (F0 m 6 ls []) := by
    intro n
    induction n with
    | zero => intro I H locs ls x6_4 x6_5 hn; exact absurd hn (Nat.not_lt_zero _)
    | succ n ih6 =>
      intro I6_ H locs ls x6_4 x6_5 hn6 hW hS hF_6 hO k6_1 hl
      have hF := hF_6
      have C51 : ∀ (I : dkI) (H : Heap) (locs : List Loc) (ls : Array Slot) (x51_s0 : Int32), dkW g z I H → va_S (dkA z) s.heap H locs → dkF [] I0 I → dkOk I → dkN [(0, 1)] x51_s0 → dkN [(0, 5)] x6_5 → dkN [(1, 6)] (I 346 5) → lv_has ls 6 [(0, .ref (z + 346)), (1, .int p0), (2, .int p1), (3, .int p2), (4, .int x6_4), (5, .int x6_5)] → W p l e (headSpec wsX6_othersIn (dkR 1)).room s m args below meth c H locs 0 0 (MQ below (dkQi g z (fun r I1 => dkF [] I0 I1 ∧ dkOk I1 ∧ ((True ∧ True)))) args s 0 0 (dkA z)) (F0 m 51 ls [.int x51_s0, .int x6_4]) := by
        intro I51_ H locs ls x51_s0 hW hS hF_51 hO k51_0 r51_0 f51_0 hl
        have hF := hF_51
        refine lv_iadd hx hb dX6_othersIn_51 ?_
        refine lv_topi (fun v1 ev1 => ?_)
        refine lv_istore (lv' := [(4, .int v1), (0, .ref (z + 346)), (1, .int p0), (2, .int p1), (3, .int p2), (5, .int x6_5)]) hx hb dX6_othersIn_52 hl (by decide) rfl (fun ls hl => ?_)
        obtain ⟨v2, ev2⟩ : ∃ y : Int32, y = x6_5 + 1 := ⟨_, rfl⟩
        have dv2 : dkN [(1, 6)] v2 := by rw [ev2]; exact dkN_add r51_0 (dkN_lit (x := 1) (1) rfl) rfl
        refine lv_iinc (v := v2) (lv' := [(5, .int v2), (4, .int v1), (0, .ref (z + 346)), (1, .int p0), (2, .int p1), (3, .int p2)]) hx hb dX6_othersIn_54 hl (k := 5) rfl (by rw [ev2]; rfl) (by decide) rfl (fun ls hl => ?_)
        refine lv_goto (tgt := 6) hx hb dX6_othersIn_57 (by decide) ?_
        exact ih6 I51_ _ _ ls v1 v2 (dk_near hn6 (by rw [ev2]; exact dk_inc r51_0 rfl) (dkN_lt r51_0 rfl)) hW hS hF hO (dkN_sub dv2 rfl) (lv_sub hl [2, 3, 4, 5, 1, 0] rfl)
      have C50 : ∀ (I : dkI) (H : Heap) (locs : List Loc) (ls : Array Slot), dkW g z I H → va_S (dkA z) s.heap H locs → dkF [] I0 I → dkOk I → dkN [(0, 5)] x6_5 → dkN [(1, 6)] (I 346 5) → lv_has ls 6 [(0, .ref (z + 346)), (1, .int p0), (2, .int p1), (3, .int p2), (4, .int x6_4), (5, .int x6_5)] → W p l e (headSpec wsX6_othersIn (dkR 1)).room s m args below meth c H locs 0 0 (MQ below (dkQi g z (fun r I1 => dkF [] I0 I1 ∧ dkOk I1 ∧ ((True ∧ True)))) args s 0 0 (dkA z)) (F0 m 50 ls [.int x6_4]) := by
        intro I50_ H locs ls hW hS hF_50 hO r50_0 f50_0 hl
        have hF := hF_50
        refine lv_iconst (v := 0) hx hb dX6_othersIn_50 (by decide) ?_
        exact C51 I50_ _ _ ls 0 hW hS hF hO (dkN_sub (dkN_lit (x := 0) (0) rfl) rfl) (dkN_sub r50_0 rfl) (show dkN [(1, 6)] (I50_ 346 5) from dkN_sub f50_0 rfl) (lv_sub hl [0, 1, 2, 3, 4, 5] rfl)
      refine lv_iload hx hb dX6_othersIn_6 (lv_at hl 5 rfl) ?_
      refine lv_aload_n hx hb dX6_othersIn_8 rfl (lv_at hl 0 rfl) ?_
      refine lv_iconst (v := 5) hx hb dX6_othersIn_9 (by decide) ?_
      refine dk_ild (k := 346) hx hb hK (dk_at346 hW) (dkN_in (n := 54) (dkN_lit (x := 5) (5) rfl) rfl) dX6_othersIn_10 ?_
      refine lv_topi (fun v3 ev3 => ?_)
      have ev3 : v3 = I6_ 346 5 := ev3
      have dv3 : dkN [(0, 6)] v3 := by rw [ev3]; exact (show dkN [(0, 6)] (I6_ 346 5) from (hO 346 5))
      refine lv_icmp_ge (tgt := 60) hx hb dX6_othersIn_11 (by decide) (fun c4 => ?_) (fun c4 => ?_)
      ·
        refine lv_iload hx hb dX6_othersIn_60 (lv_at hl 4 rfl) ?_
        exact W.iret (v := x6_4) hx hb hr (fun t ht hW9 => ⟨⟨x6_4, I6_, rfl, ⟨hF, hO, ⟨trivial, trivial⟩⟩, dkW_eq ht hW⟩, hS.F ht⟩) hS.2.2 dX6_othersIn_62
      ·
        have d5 : dkN [(1, 6)] v3 := dkN_le2 1 k6_1 dv3 (dkc_nle c4) rfl
        have f6 : dkN [(1, 6)] (I6_ 346 5) := by rw [← ev3]; exact d5
        have d7 : dkN [(0, 5)] x6_5 := dkN_le1 1 k6_1 dv3 (dkc_nle c4) rfl
        refine lv_iload hx hb dX6_othersIn_14 (lv_at hl 4 rfl) ?_
        refine lv_iload hx hb dX6_othersIn_16 (lv_at hl 5 rfl) ?_
        refine lv_iload_n hx hb dX6_othersIn_18 rfl (lv_at hl 2 rfl) ?_
        refine lv_icmp_eq (tgt := 50) hx hb dX6_othersIn_19 (by decide) (fun c8 => ?_) (fun c8 => ?_)
        ·
          have d9 : dkN [(0, 5)] p1 := dkN_eq1 dp1 d7 (congrArg Int32.toInt c8).symm rfl
          exact C50 I6_ _ _ ls  hW hS hF hO (dkN_sub d7 rfl) (show dkN [(1, 6)] (I6_ 346 5) from dkN_sub f6 rfl) (lv_sub hl [0, 1, 2, 3, 4, 5] rfl)
        ·
          refine lv_iload_n hx hb dX6_othersIn_22 rfl (lv_at hl 3 rfl) ?_
          refine lv_iload hx hb dX6_othersIn_23 (lv_at hl 5 rfl) ?_
          refine dk_Si (As := [.int p2, .int x6_5]) (rest := [.int x6_4]) ⟨hx, hb, hml, hown, hts⟩ (c_X6_has_0 l g z I6_ p2 x6_5 hO) (va_cwS 2 hts gX6_othersIn_X6_has rfl rfl rfl (by decide +kernel) ⟨Nat.le_of_ble_eq_true rfl, Nat.le_of_ble_eq_true rfl⟩) hK hT hW hS rfl hl.1 rfl (Nat.le_of_ble_eq_true rfl) dX6_othersIn_25 ⟨Nat.zero_le _, Nat.zero_le _⟩ (fun v10 I10 H10 L10 hp10 hW hS => ?_)
          obtain ⟨hF10, hO, hc10⟩ := hp10
          have hF := dkF_call hF hF10 rfl
          obtain ⟨dv10, -⟩ := hc10
          refine lv_if_ne (tgt := 50) hx hb dX6_othersIn_28 (by decide) (fun c11 => ?_) (fun c11 => ?_)
          ·
            have d12 : dkN [(1, 1)] v10 := dkN_ne1 (0) dv10 (dkN_lit (x := 0) (0) rfl) (dk_ne c11) rfl
            exact C50 I10 _ _ ls  hW hS hF hO (dkN_sub d7 rfl) (show dkN [(1, 6)] (I10 346 5) from dkN_sub (by rw [hF10 346 5 rfl]; exact f6) rfl) (lv_sub hl [0, 1, 2, 3, 4, 5] rfl)
          ·
            have d13 : dkN [(0, 0)] v10 := dkN_eq1 dv10 (dkN_lit (x := 0) (0) rfl) (congrArg Int32.toInt c11) rfl
            refine lv_aload_n hx hb dX6_othersIn_31 rfl (lv_at hl 0 rfl) ?_
            refine lv_bipush (v := 36) hx hb dX6_othersIn_32 (by decide) ?_
            refine lv_iconst (v := 3) hx hb dX6_othersIn_34 (by decide) ?_
            refine lv_iload hx hb dX6_othersIn_35 (lv_at hl 5 rfl) ?_
            refine lv_imul hx hb dX6_othersIn_37 ?_
            refine lv_topi (fun v14 ev14 => ?_)
            have dv14 : dkN [(0, 0), (3, 3), (6, 6), (9, 9), (12, 12), (15, 15)] v14 := by rw [ev14]; exact dkN_mulPt 3 (dkN_lit (x := 3) (3) rfl) d7 rfl
            refine lv_iadd hx hb dX6_othersIn_38 ?_
            refine lv_topi (fun v15 ev15 => ?_)
            have dv15 : dkN [(36, 36), (39, 39), (42, 42), (45, 45), (48, 48), (51, 51)] v15 := by rw [ev15]; exact dkN_add (dkN_lit (x := 36) (36) rfl) dv14 rfl
            refine lv_iconst (v := 2) hx hb dX6_othersIn_39 (by decide) ?_
            refine lv_iadd hx hb dX6_othersIn_40 ?_
            refine lv_topi (fun v16 ev16 => ?_)
            have dv16 : dkN [(38, 38), (41, 41), (44, 44), (47, 47), (50, 50), (53, 53)] v16 := by rw [ev16]; exact dkN_add dv15 (dkN_lit (x := 2) (2) rfl) rfl
            refine dk_ild (k := 346) hx hb hK (dk_at346 hW) (dkN_in (n := 54) dv16 rfl) dX6_othersIn_41 ?_
            refine lv_topi (fun v17 ev17 => ?_)
            refine lv_iload_n hx hb dX6_othersIn_42 rfl (lv_at hl 1 rfl) ?_
            refine lv_icmp_ne (tgt := 50) hx hb dX6_othersIn_43 (by decide) (fun c18 => ?_) (fun c18 => ?_)
            ·
              exact C50 I10 _ _ ls  hW hS hF hO (dkN_sub d7 rfl) (show dkN [(1, 6)] (I10 346 5) from dkN_sub (by rw [hF10 346 5 rfl]; exact f6) rfl) (lv_sub hl [0, 1, 2, 3, 4, 5] rfl)
            ·
              refine lv_iconst (v := 1) hx hb dX6_othersIn_46 (by decide) ?_
              refine lv_goto (tgt := 51) hx hb dX6_othersIn_47 (by decide) ?_
              exact C51 I10 _ _ ls 1 hW hS hF hO (dkN_sub (dkN_lit (x := 1) (1) rfl) rfl) (dkN_sub d7 rfl) (show dkN [(1, 6)] (I10 346 5) from dkN_sub (by rw [hF10 346 5 rfl]; exact f6) rfl) (lv_sub hl [0, 1, 2, 3, 4, 5] rfl)
  refine lv_iconst (v := 0) hx hb dX6_othersIn_0 (by decide) ?_
  refine lv_istore (lv' := [(4, .int 0), (0, .ref (z + 346)), (1, .int p0), (2, .int p1), (3, .int p2)]) hx hb dX6_othersIn_1 hl (by decide) rfl (fun ls hl => ?_)
  refine lv_iconst (v := 0) hx hb dX6_othersIn_3 (by decide) ?_
  refine lv_istore (lv' := [(5, .int 0), (4, .int 0), (0, .ref (z + 346)), (1, .int p0), (2, .int p1), (3, .int p2)]) hx hb dX6_othersIn_4 hl (by decide) rfl (fun ls hl => ?_)
  exact C6 _ I0 _ _ ls 0 0 (Nat.lt_succ_self _) hW hS hF hO (dkN_sub (dkN_lit (x := 0) (0) rfl) rfl) (lv_sub hl [2, 3, 4, 5, 1, 0] rfl)
set_option maxHeartbeats 4000000 in
set_option maxRecDepth 100000 in
theorem c_X6_aim_0 (l : Launch) (g : dkG) (z : Nat) (I0 : dkI) (p0 : Int32) (p1 : Int32) (dp0 : dkN [(0, 5)] p0)  (hO : dkOk I0) : Met l yX6_aim wsX6_aim (dkR 3) (dkPc g z [.ref (z + 346), .int p0, .int p1] I0) (dkQi g z (fun r I1 => dkF [] I0 I1 ∧ dkOk I1 ∧ ((True ∧ True)))) 0 0 (dkA z) := by
  refine Met.ofW (cc := cX6_aim) (maxL := 7) (ret := (some .int)) (by decide) rfl ?_
  intro p e s m args below meth c s₁ B hml hv
  obtain ⟨ha, hW, hK, hT⟩ := hv
  have hx := B.exec
  have hb := B.bytes
  have hr := B.returns
  have hts := atoms_spec (ws := wsX6_aim) B.pre
  have hown : s.vm.findClass RX6 = some m.cls := findClass_of_methodNamed B.named
  have hlocks := B.notSynchronized
  have hS : va_S (dkA z) s.heap s.heap [] := va_S.rf
  have hF : dkF [] I0 I0 := dkF_rf _ _
  have hl := lv_entry ([.ref (z + 346), .int p0, .int p1]) (n := 7) (Nat.le_of_ble_eq_true rfl)
  have hgo : entryFrame m args 7 = entryFrame m ([.ref (z + 346), .int p0, .int p1] : List Value).toArray 7 := by rw [ha]
  rw [hgo, lg_entry_eq]
  generalize (lg_sl ([.ref (z + 346), .int p0, .int p1]) ++ List.replicate (7 - (lg_sl ([.ref (z + 346), .int p0, .int p1])).length) Slot.unset).toArray = ls at hl ⊢
  have hl : lv_has ls 7 [(0, .ref (z + 346)), (1, .int p0), (2, .int p1)] := hl
  have C52 : ∀ (n : Nat), ∀ (I : dkI) (H : Heap) (locs : List Loc) (ls : Array Slot) (x52_3 : Int32) (x52_4 : Int32) (x52_5 : Int32), (9 - x52_5.toInt).toNat < n → dkW g z I H → va_S (dkA z) s.heap H locs → dkF [] I0 I → dkOk I → dkN [(4, 2147483647)] x52_3 → dkN [(0, 8)] x52_4 → dkN [(1, 9)] x52_5 → lv_has ls 7 [(0, .ref (z + 346)), (1, .int p0), (2, .int p1), (3, .int x52_3), (4, .int x52_4), (5, .int x52_5)] → W p l e (headSpec wsX6_aim (dkR 3)).room s m args below meth c H locs 0 0 (MQ below (dkQi g z (fun r I1 => dkF [] I0 I1 ∧ dkOk I1 ∧ ((True ∧ True)))) args s 0 0 (dkA z)) (F0 m 52 ls []) := by
    intro n
    induction n with
    | zero => intro I H locs ls x52_3 x52_4 x52_5 hn; exact absurd hn (Nat.not_lt_zero _)
    | succ n ih52 =>
      intro I52_ H locs ls x52_3 x52_4 x52_5 hn52 hW hS hF_52 hO k52_0 k52_1 k52_2 hl
      have hF := hF_52
      have C106 : ∀ (I : dkI) (H : Heap) (locs : List Loc) (ls : Array Slot) (x106_6 : Int32) (x106_s0 : Int32), dkW g z I H → va_S (dkA z) s.heap H locs → dkF [] I0 I → dkOk I → dkN [(0, 8)] x106_s0 → dkN [(4, 2147483647)] x52_3 → dkN [(0, 8)] x52_4 → dkN [(1, 8)] x52_5 → dkN [(2, 9)] (I 346 0) → lv_has ls 7 [(0, .ref (z + 346)), (1, .int p0), (2, .int p1), (3, .int x52_3), (4, .int x52_4), (5, .int x52_5), (6, .int x106_6)] → W p l e (headSpec wsX6_aim (dkR 3)).room s m args below meth c H locs 0 0 (MQ below (dkQi g z (fun r I1 => dkF [] I0 I1 ∧ dkOk I1 ∧ ((True ∧ True)))) args s 0 0 (dkA z)) (F0 m 106 ls [.int x106_s0]) := by
        intro I106_ H locs ls x106_6 x106_s0 hW hS hF_106 hO k106_1 r106_0 r106_1 r106_2 f106_0 hl
        have hF := hF_106
        refine lv_istore (lv' := [(4, .int x106_s0), (0, .ref (z + 346)), (1, .int p0), (2, .int p1), (3, .int x52_3), (5, .int x52_5), (6, .int x106_6)]) hx hb dX6_aim_106 hl (by decide) rfl (fun ls hl => ?_)
        obtain ⟨v1, ev1⟩ : ∃ y : Int32, y = x52_5 + 1 := ⟨_, rfl⟩
        have dv1 : dkN [(2, 9)] v1 := by rw [ev1]; exact dkN_add r106_2 (dkN_lit (x := 1) (1) rfl) rfl
        refine lv_iinc (v := v1) (lv' := [(5, .int v1), (4, .int x106_s0), (0, .ref (z + 346)), (1, .int p0), (2, .int p1), (3, .int x52_3), (6, .int x106_6)]) hx hb dX6_aim_108 hl (k := 5) rfl (by rw [ev1]; rfl) (by decide) rfl (fun ls hl => ?_)
        refine lv_goto (tgt := 52) hx hb dX6_aim_111 (by decide) ?_
        exact ih52 I106_ _ _ ls x52_3 x106_s0 v1 (dk_near hn52 (by rw [ev1]; exact dk_inc r106_2 rfl) (dkN_lt r106_2 rfl)) hW hS hF hO (dkN_sub r106_0 rfl) (dkN_sub k106_1 rfl) (dkN_sub dv1 rfl) (lv_sub hl [2, 3, 4, 5, 1, 0] rfl)
      have C104 : ∀ (I : dkI) (H : Heap) (locs : List Loc) (ls : Array Slot) (x104_6 : Int32), dkW g z I H → va_S (dkA z) s.heap H locs → dkF [] I0 I → dkOk I → dkN [(4, 2147483647)] x52_3 → dkN [(0, 8)] x52_4 → dkN [(1, 8)] x52_5 → dkN [(2, 9)] (I 346 0) → lv_has ls 7 [(0, .ref (z + 346)), (1, .int p0), (2, .int p1), (3, .int x52_3), (4, .int x52_4), (5, .int x52_5), (6, .int x104_6)] → W p l e (headSpec wsX6_aim (dkR 3)).room s m args below meth c H locs 0 0 (MQ below (dkQi g z (fun r I1 => dkF [] I0 I1 ∧ dkOk I1 ∧ ((True ∧ True)))) args s 0 0 (dkA z)) (F0 m 104 ls []) := by
        intro I104_ H locs ls x104_6 hW hS hF_104 hO r104_0 r104_1 r104_2 f104_0 hl
        have hF := hF_104
        refine lv_iload hx hb dX6_aim_104 (lv_at hl 4 rfl) ?_
        exact C106 I104_ _ _ ls x104_6 x52_4 hW hS hF hO (dkN_sub r104_1 rfl) (dkN_sub r104_0 rfl) (dkN_sub r104_1 rfl) (dkN_sub r104_2 rfl) (show dkN [(2, 9)] (I104_ 346 0) from dkN_sub f104_0 rfl) (lv_sub hl [0, 1, 2, 3, 4, 5, 6] rfl)
      have C99 : ∀ (I : dkI) (H : Heap) (locs : List Loc) (ls : Array Slot) (x99_6 : Int32), dkW g z I H → va_S (dkA z) s.heap H locs → dkF [] I0 I → dkOk I → dkN [(-2147483648, -1), (1, 2147483647)] x99_6 → dkN [(4, 5)] x52_3 → dkN [(0, 8)] x52_4 → dkN [(1, 8)] x52_5 → dkN [(2, 9)] (I 346 0) → lv_has ls 7 [(0, .ref (z + 346)), (1, .int p0), (2, .int p1), (3, .int x52_3), (4, .int x52_4), (5, .int x52_5), (6, .int x99_6)] → W p l e (headSpec wsX6_aim (dkR 3)).room s m args below meth c H locs 0 0 (MQ below (dkQi g z (fun r I1 => dkF [] I0 I1 ∧ dkOk I1 ∧ ((True ∧ True)))) args s 0 0 (dkA z)) (F0 m 99 ls []) := by
        intro I99_ H locs ls x99_6 hW hS hF_99 hO k99_0 r99_0 r99_1 r99_2 f99_0 hl
        have hF := hF_99
        refine lv_iload hx hb dX6_aim_99 (lv_at hl 5 rfl) ?_
        refine lv_goto (tgt := 106) hx hb dX6_aim_101 (by decide) ?_
        exact C106 I99_ _ _ ls x99_6 x52_5 hW hS hF hO (dkN_sub r99_2 rfl) (dkN_sub r99_0 rfl) (dkN_sub r99_1 rfl) (dkN_sub r99_2 rfl) (show dkN [(2, 9)] (I99_ 346 0) from dkN_sub f99_0 rfl) (lv_sub hl [0, 1, 2, 3, 4, 5, 6] rfl)
      have C89 : ∀ (I : dkI) (H : Heap) (locs : List Loc) (ls : Array Slot) (x89_6 : Int32), dkW g z I H → va_S (dkA z) s.heap H locs → dkF [] I0 I → dkOk I → dkN [(4, 2147483647)] x52_3 → dkN [(0, 8)] x52_4 → dkN [(1, 8)] x52_5 → dkN [(2, 9)] (I 346 0) → lv_has ls 7 [(0, .ref (z + 346)), (1, .int p0), (2, .int p1), (3, .int x52_3), (4, .int x52_4), (5, .int x52_5), (6, .int x89_6)] → W p l e (headSpec wsX6_aim (dkR 3)).room s m args below meth c H locs 0 0 (MQ below (dkQi g z (fun r I1 => dkF [] I0 I1 ∧ dkOk I1 ∧ ((True ∧ True)))) args s 0 0 (dkA z)) (F0 m 89 ls []) := by
        intro I89_ H locs ls x89_6 hW hS hF_89 hO r89_0 r89_1 r89_2 f89_0 hl
        have hF := hF_89
        refine lv_iload_n hx hb dX6_aim_89 rfl (lv_at hl 3 rfl) ?_
        refine lv_iconst (v := 5) hx hb dX6_aim_90 (by decide) ?_
        refine lv_icmp_ne (tgt := 104) hx hb dX6_aim_91 (by decide) (fun c2 => ?_) (fun c2 => ?_)
        ·
          have d3 : dkN [(4, 4), (6, 2147483647)] x52_3 := dkN_ne1 (5) r89_0 (dkN_lit (x := 5) (5) rfl) (dk_ne c2) rfl
          exact C104 I89_ _ _ ls x89_6 hW hS hF hO (dkN_sub d3 rfl) (dkN_sub r89_1 rfl) (dkN_sub r89_2 rfl) (show dkN [(2, 9)] (I89_ 346 0) from dkN_sub f89_0 rfl) (lv_sub hl [0, 1, 2, 3, 4, 5, 6] rfl)
        ·
          have d4 : dkN [(5, 5)] x52_3 := dkN_eq1 r89_0 (dkN_lit (x := 5) (5) rfl) (congrArg Int32.toInt c2) rfl
          refine lv_iload hx hb dX6_aim_94 (lv_at hl 6 rfl) ?_
          refine lv_if_ge (tgt := 104) hx hb dX6_aim_96 (by decide) (fun c5 => ?_) (fun c5 => ?_)
          ·
            have d6 : dkN [(0, 2147483647)] x89_6 := dkN_le2 0 (dkN_lit (x := 0) (0) rfl) (dkN_top x89_6) (dkc_le c5) rfl
            exact C104 I89_ _ _ ls x89_6 hW hS hF hO (dkN_sub d4 rfl) (dkN_sub r89_1 rfl) (dkN_sub r89_2 rfl) (show dkN [(2, 9)] (I89_ 346 0) from dkN_sub f89_0 rfl) (lv_sub hl [0, 1, 2, 3, 4, 5, 6] rfl)
          ·
            have d7 : dkN [(-2147483648, -1)] x89_6 := dkN_le1 1 (dkN_top x89_6) (dkN_lit (x := 0) (0) rfl) (dkc_nle c5) rfl
            exact C99 I89_ _ _ ls x89_6 hW hS hF hO (dkN_sub d7 rfl) (dkN_sub d4 rfl) (dkN_sub r89_1 rfl) (dkN_sub r89_2 rfl) (show dkN [(2, 9)] (I89_ 346 0) from dkN_sub f89_0 rfl) (lv_sub hl [0, 1, 2, 3, 4, 5, 6] rfl)
      refine lv_iload hx hb dX6_aim_52 (lv_at hl 5 rfl) ?_
      refine lv_aload_n hx hb dX6_aim_54 rfl (lv_at hl 0 rfl) ?_
      refine lv_iconst (v := 0) hx hb dX6_aim_55 (by decide) ?_
      refine dk_ild (k := 346) hx hb hK (dk_at346 hW) (dkN_in (n := 54) (dkN_lit (x := 0) (0) rfl) rfl) dX6_aim_56 ?_
      refine lv_topi (fun v8 ev8 => ?_)
      have ev8 : v8 = I52_ 346 0 := ev8
      have dv8 : dkN [(0, 9)] v8 := by rw [ev8]; exact (show dkN [(0, 9)] (I52_ 346 0) from (hO 346 0))
      refine lv_icmp_ge (tgt := 114) hx hb dX6_aim_57 (by decide) (fun c9 => ?_) (fun c9 => ?_)
      ·
        refine lv_iload_n hx hb dX6_aim_114 rfl (lv_at hl 3 rfl) ?_
        refine lv_iconst (v := 4) hx hb dX6_aim_115 (by decide) ?_
        refine lv_icmp_ne (tgt := 135) hx hb dX6_aim_116 (by decide) (fun c10 => ?_) (fun c10 => ?_)
        ·
          have d11 : dkN [(5, 2147483647)] x52_3 := dkN_ne1 (4) k52_0 (dkN_lit (x := 4) (4) rfl) (dk_ne c10) rfl
          refine lv_iload hx hb dX6_aim_135 (lv_at hl 4 rfl) ?_
          exact W.iret (v := x52_4) hx hb hr (fun t ht hW9 => ⟨⟨x52_4, I52_, rfl, ⟨hF, hO, ⟨trivial, trivial⟩⟩, dkW_eq ht hW⟩, hS.F ht⟩) hS.2.2 dX6_aim_137
        ·
          have d12 : dkN [(4, 4)] x52_3 := dkN_eq1 k52_0 (dkN_lit (x := 4) (4) rfl) (congrArg Int32.toInt c10) rfl
          refine lv_aload_n hx hb dX6_aim_119 rfl (lv_at hl 0 rfl) ?_
          refine lv_iload hx hb dX6_aim_120 (lv_at hl 4 rfl) ?_
          refine lv_iload_n hx hb dX6_aim_122 rfl (lv_at hl 1 rfl) ?_
          refine lv_iload_n hx hb dX6_aim_123 rfl (lv_at hl 2 rfl) ?_
          refine dk_Si (As := [.ref (z + 346), .int x52_4, .int p0, .int p1]) (rest := []) ⟨hx, hb, hml, hown, hts⟩ (c_X6_othersIn_0 l g z I52_ x52_4 p0 p1 (dkN_sub dp0 rfl) hO) (va_cwS 4 hts gX6_aim_X6_othersIn rfl rfl rfl (by decide +kernel) ⟨Nat.le_of_ble_eq_true rfl, Nat.le_of_ble_eq_true rfl⟩) hK hT hW hS rfl hl.1 rfl (Nat.le_of_ble_eq_true rfl) dX6_aim_124 ⟨Nat.zero_le _, Nat.zero_le _⟩ (fun v13 I13 H13 L13 hp13 hW hS => ?_)
          obtain ⟨hF13, hO, hc13⟩ := hp13
          have hF := dkF_call hF hF13 rfl
          obtain ⟨_, -⟩ := hc13
          refine lv_if_ne (tgt := 135) hx hb dX6_aim_127 (by decide) (fun c14 => ?_) (fun c14 => ?_)
          ·
            have d15 : dkN [(-2147483648, -1), (1, 2147483647)] v13 := dkN_ne1 (0) (dkN_top v13) (dkN_lit (x := 0) (0) rfl) (dk_ne c14) rfl
            refine lv_iload hx hb dX6_aim_135 (lv_at hl 4 rfl) ?_
            exact W.iret (v := x52_4) hx hb hr (fun t ht hW9 => ⟨⟨x52_4, I13, rfl, ⟨hF, hO, ⟨trivial, trivial⟩⟩, dkW_eq ht hW⟩, hS.F ht⟩) hS.2.2 dX6_aim_137
          ·
            have d16 : dkN [(0, 0)] v13 := dkN_eq1 (dkN_top v13) (dkN_lit (x := 0) (0) rfl) (congrArg Int32.toInt c14) rfl
            refine lv_ldc (v := (-1000000)) hx hb hown (hts (.constant RX6 50 (-1000000)) (List.mem_of_getElem? (i := 1) rfl)) dX6_aim_130 ?_
            refine lv_goto (tgt := 137) hx hb dX6_aim_132 (by decide) ?_
            exact W.iret (v := (-1000000)) hx hb hr (fun t ht hW9 => ⟨⟨(-1000000), I13, rfl, ⟨hF, hO, ⟨trivial, trivial⟩⟩, dkW_eq ht hW⟩, hS.F ht⟩) hS.2.2 dX6_aim_137
      ·
        have d17 : dkN [(2, 9)] v8 := dkN_le2 1 k52_2 dv8 (dkc_nle c9) rfl
        have f18 : dkN [(2, 9)] (I52_ 346 0) := by rw [← ev8]; exact d17
        have d19 : dkN [(1, 8)] x52_5 := dkN_le1 1 k52_2 dv8 (dkc_nle c9) rfl
        refine lv_aload_n hx hb dX6_aim_60 rfl (lv_at hl 0 rfl) ?_
        refine lv_iload hx hb dX6_aim_61 (lv_at hl 5 rfl) ?_
        refine lv_iload_n hx hb dX6_aim_63 rfl (lv_at hl 1 rfl) ?_
        refine lv_iload_n hx hb dX6_aim_64 rfl (lv_at hl 2 rfl) ?_
        refine dk_Si (As := [.ref (z + 346), .int x52_5, .int p0, .int p1]) (rest := []) ⟨hx, hb, hml, hown, hts⟩ (c_X6_othersIn_0 l g z I52_ x52_5 p0 p1 (dkN_sub dp0 rfl) hO) (va_cwS 4 hts gX6_aim_X6_othersIn rfl rfl rfl (by decide +kernel) ⟨Nat.le_of_ble_eq_true rfl, Nat.le_of_ble_eq_true rfl⟩) hK hT hW hS rfl hl.1 rfl (Nat.le_of_ble_eq_true rfl) dX6_aim_65 ⟨Nat.zero_le _, Nat.zero_le _⟩ (fun v20 I20 H20 L20 hp20 hW hS => ?_)
        obtain ⟨hF20, hO, hc20⟩ := hp20
        have hF := dkF_call hF hF20 rfl
        obtain ⟨_, -⟩ := hc20
        refine lv_aload_n hx hb dX6_aim_68 rfl (lv_at hl 0 rfl) ?_
        refine lv_iload hx hb dX6_aim_69 (lv_at hl 4 rfl) ?_
        refine lv_iload_n hx hb dX6_aim_71 rfl (lv_at hl 1 rfl) ?_
        refine lv_iload_n hx hb dX6_aim_72 rfl (lv_at hl 2 rfl) ?_
        refine dk_Si (As := [.ref (z + 346), .int x52_4, .int p0, .int p1]) (rest := [.int v20]) ⟨hx, hb, hml, hown, hts⟩ (c_X6_othersIn_0 l g z I20 x52_4 p0 p1 (dkN_sub dp0 rfl) hO) (va_cwS 4 hts gX6_aim_X6_othersIn rfl rfl rfl (by decide +kernel) ⟨Nat.le_of_ble_eq_true rfl, Nat.le_of_ble_eq_true rfl⟩) hK hT hW hS rfl hl.1 rfl (Nat.le_of_ble_eq_true rfl) dX6_aim_73 ⟨Nat.zero_le _, Nat.zero_le _⟩ (fun v21 I21 H21 L21 hp21 hW hS => ?_)
        obtain ⟨hF21, hO, hc21⟩ := hp21
        have hF := dkF_call hF hF21 rfl
        obtain ⟨_, -⟩ := hc21
        refine lv_isub hx hb dX6_aim_76 ?_
        refine lv_topi (fun v22 ev22 => ?_)
        refine lv_istore (lv' := [(6, .int v22), (0, .ref (z + 346)), (1, .int p0), (2, .int p1), (3, .int x52_3), (4, .int x52_4), (5, .int x52_5)]) hx hb dX6_aim_77 hl (by decide) rfl (fun ls hl => ?_)
        refine lv_iload_n hx hb dX6_aim_79 rfl (lv_at hl 4 rfl) ?_
        refine lv_iconst (v := 4) hx hb dX6_aim_80 (by decide) ?_
        refine lv_icmp_ne (tgt := 89) hx hb dX6_aim_81 (by decide) (fun c23 => ?_) (fun c23 => ?_)
        ·
          have d24 : dkN [(5, 2147483647)] x52_3 := dkN_ne1 (4) k52_0 (dkN_lit (x := 4) (4) rfl) (dk_ne c23) rfl
          exact C89 I21 _ _ ls v22 hW hS hF hO (dkN_sub d24 rfl) (dkN_sub k52_1 rfl) (dkN_sub d19 rfl) (show dkN [(2, 9)] (I21 346 0) from dkN_sub (by rw [hF21 346 0 rfl]; exact (by rw [hF20 346 0 rfl]; exact f18)) rfl) (lv_sub hl [1, 2, 3, 4, 5, 6, 0] rfl)
        ·
          have d25 : dkN [(4, 4)] x52_3 := dkN_eq1 k52_0 (dkN_lit (x := 4) (4) rfl) (congrArg Int32.toInt c23) rfl
          refine lv_iload hx hb dX6_aim_84 (lv_at hl 0 rfl) ?_
          refine lv_if_gt (tgt := 99) hx hb dX6_aim_86 (by decide) (fun c26 => ?_) (fun c26 => ?_)
          ·
            have d27 : dkN [(1, 2147483647)] v22 := dkN_le2 1 (dkN_lit (x := 0) (0) rfl) (dkN_top v22) (dkc_lt c26) rfl
            exact C99 I21 _ _ ls v22 hW hS hF hO (dkN_sub d27 rfl) (dkN_sub d25 rfl) (dkN_sub k52_1 rfl) (dkN_sub d19 rfl) (show dkN [(2, 9)] (I21 346 0) from dkN_sub (by rw [hF21 346 0 rfl]; exact (by rw [hF20 346 0 rfl]; exact f18)) rfl) (lv_sub hl [1, 2, 3, 4, 5, 6, 0] rfl)
          ·
            have d28 : dkN [(-2147483648, 0)] v22 := dkN_le1 0 (dkN_top v22) (dkN_lit (x := 0) (0) rfl) (dkc_nlt c26) rfl
            exact C89 I21 _ _ ls v22 hW hS hF hO (dkN_sub d25 rfl) (dkN_sub k52_1 rfl) (dkN_sub d19 rfl) (show dkN [(2, 9)] (I21 346 0) from dkN_sub (by rw [hF21 346 0 rfl]; exact (by rw [hF20 346 0 rfl]; exact f18)) rfl) (lv_sub hl [1, 2, 3, 4, 5, 6, 0] rfl)
  refine lv_aload_n hx hb dX6_aim_0 rfl (lv_at hl 0 rfl) ?_
  refine lv_bipush (v := 36) hx hb dX6_aim_1 (by decide) ?_
  refine lv_iconst (v := 3) hx hb dX6_aim_3 (by decide) ?_
  refine lv_iload_n hx hb dX6_aim_4 rfl (lv_at hl 1 rfl) ?_
  refine lv_imul hx hb dX6_aim_5 ?_
  refine lv_topi (fun v29 ev29 => ?_)
  have dv29 : dkN [(0, 0), (3, 3), (6, 6), (9, 9), (12, 12), (15, 15)] v29 := by rw [ev29]; exact dkN_mulPt 3 (dkN_lit (x := 3) (3) rfl) dp0 rfl
  refine lv_iadd hx hb dX6_aim_6 ?_
  refine lv_topi (fun v30 ev30 => ?_)
  have dv30 : dkN [(36, 36), (39, 39), (42, 42), (45, 45), (48, 48), (51, 51)] v30 := by rw [ev30]; exact dkN_add (dkN_lit (x := 36) (36) rfl) dv29 rfl
  refine dk_ild (k := 346) hx hb hK (dk_at346 hW) (dkN_in (n := 54) dv30 rfl) dX6_aim_7 ?_
  refine lv_topi (fun v31 ev31 => ?_)
  refine lv_istore_n (lv' := [(3, .int v31), (0, .ref (z + 346)), (1, .int p0), (2, .int p1)]) hx hb dX6_aim_8 rfl hl (by decide) rfl (fun ls hl => ?_)
  refine lv_iload_n hx hb dX6_aim_9 rfl (lv_at hl 0 rfl) ?_
  refine lv_iconst (v := 3) hx hb dX6_aim_10 (by decide) ?_
  refine lv_icmp_gt (tgt := 46) hx hb dX6_aim_11 (by decide) (fun c32 => ?_) (fun c32 => ?_)
  ·
    have d33 : dkN [(4, 2147483647)] v31 := dkN_le2 1 (dkN_lit (x := 3) (3) rfl) (dkN_top v31) (dkc_lt c32) rfl
    refine lv_iconst (v := 0) hx hb dX6_aim_46 (by decide) ?_
    refine lv_istore (lv' := [(4, .int 0), (3, .int v31), (0, .ref (z + 346)), (1, .int p0), (2, .int p1)]) hx hb dX6_aim_47 hl (by decide) rfl (fun ls hl => ?_)
    refine lv_iconst (v := 1) hx hb dX6_aim_49 (by decide) ?_
    refine lv_istore (lv' := [(5, .int 1), (4, .int 0), (3, .int v31), (0, .ref (z + 346)), (1, .int p0), (2, .int p1)]) hx hb dX6_aim_50 hl (by decide) rfl (fun ls hl => ?_)
    exact C52 _ I0 _ _ ls v31 0 1 (Nat.lt_succ_self _) hW hS hF hO (dkN_sub d33 rfl) (dkN_sub (dkN_lit (x := 0) (0) rfl) rfl) (dkN_sub (dkN_lit (x := 1) (1) rfl) rfl) (lv_sub hl [3, 4, 5, 2, 1, 0] rfl)
  ·
    have d34 : dkN [(-2147483648, 3)] v31 := dkN_le1 0 (dkN_top v31) (dkN_lit (x := 3) (3) rfl) (dkc_nlt c32) rfl
    refine lv_aload_n hx hb dX6_aim_14 rfl (lv_at hl 1 rfl) ?_
    refine lv_iload_n hx hb dX6_aim_15 rfl (lv_at hl 2 rfl) ?_
    refine dk_Si (As := [.ref (z + 346), .int p0]) (rest := []) ⟨hx, hb, hml, hown, hts⟩ (c_X6_master_0 l g z I0 p0 dp0 hO) (va_cwS 2 hts gX6_aim_X6_master rfl rfl rfl (by decide +kernel) ⟨Nat.le_of_ble_eq_true rfl, Nat.le_of_ble_eq_true rfl⟩) hK hT hW hS rfl hl.1 rfl (Nat.le_of_ble_eq_true rfl) dX6_aim_16 ⟨Nat.zero_le _, Nat.zero_le _⟩ (fun v35 I35 H35 L35 hp35 hW hS => ?_)
    obtain ⟨hF35, hO, hc35⟩ := hp35
    have hF := dkF_call hF hF35 rfl
    obtain ⟨dv35, -⟩ := hc35
    refine lv_istore (lv' := [(4, .int v35), (3, .int v31), (0, .ref (z + 346)), (1, .int p0), (2, .int p1)]) hx hb dX6_aim_19 hl (by decide) rfl (fun ls hl => ?_)
    refine lv_iload hx hb dX6_aim_21 (lv_at hl 0 rfl) ?_
    refine lv_ldc (v := (-1000000)) hx hb hown (hts (.constant RX6 50 (-1000000)) (List.mem_of_getElem? (i := 1) rfl)) dX6_aim_23 ?_
    refine lv_icmp_ne (tgt := 33) hx hb dX6_aim_25 (by decide) (fun c36 => ?_) (fun c36 => ?_)
    ·
      have d37 : dkN [(0, 4)] v35 := dkN_ne1 (-1000000) dv35 (dkN_lit (x := (-1000000)) (-1000000) rfl) (dk_ne c36) rfl
      refine lv_aload_n hx hb dX6_aim_33 rfl (lv_at hl 2 rfl) ?_
      refine lv_bipush (v := 6) hx hb dX6_aim_34 (by decide) ?_
      refine lv_bipush (v := 6) hx hb dX6_aim_36 (by decide) ?_
      refine lv_iload hx hb dX6_aim_38 (lv_at hl 0 rfl) ?_
      refine lv_imul hx hb dX6_aim_40 ?_
      refine lv_topi (fun v38 ev38 => ?_)
      have dv38 : dkN [(0, 24)] v38 := by rw [ev38]; exact dkN_mulL 6 (by decide) (dkN_lit (x := 6) (6) rfl) d37 rfl
      refine lv_iadd hx hb dX6_aim_41 ?_
      refine lv_topi (fun v39 ev39 => ?_)
      have dv39 : dkN [(6, 30)] v39 := by rw [ev39]; exact dkN_add (dkN_lit (x := 6) (6) rfl) dv38 rfl
      refine lv_iconst (v := 4) hx hb dX6_aim_42 (by decide) ?_
      refine lv_iadd hx hb dX6_aim_43 ?_
      refine lv_topi (fun v40 ev40 => ?_)
      have dv40 : dkN [(10, 34)] v40 := by rw [ev40]; exact dkN_add dv39 (dkN_lit (x := 4) (4) rfl) rfl
      refine dk_ild (k := 346) hx hb hK (dk_at346 hW) (dkN_in (n := 54) dv40 rfl) dX6_aim_44 ?_
      refine lv_topi (fun v41 ev41 => ?_)
      exact W.iret (v := v41) hx hb hr (fun t ht hW9 => ⟨⟨v41, I35, rfl, ⟨hF, hO, ⟨trivial, trivial⟩⟩, dkW_eq ht hW⟩, hS.F ht⟩) hS.2.2 dX6_aim_45
    ·
      have d42 : dkN [(-1000000, -1000000)] v35 := dkN_eq1 dv35 (dkN_lit (x := (-1000000)) (-1000000) rfl) (congrArg Int32.toInt c36) rfl
      refine lv_ldc (v := (-1000000)) hx hb hown (hts (.constant RX6 50 (-1000000)) (List.mem_of_getElem? (i := 1) rfl)) dX6_aim_28 ?_
      refine lv_goto (tgt := 45) hx hb dX6_aim_30 (by decide) ?_
      exact W.iret (v := (-1000000)) hx hb hr (fun t ht hW9 => ⟨⟨(-1000000), I35, rfl, ⟨hF, hO, ⟨trivial, trivial⟩⟩, dkW_eq ht hW⟩, hS.F ht⟩) hS.2.2 dX6_aim_45
