set_option maxHeartbeats 4000000 in
set_option maxRecDepth 100000 in
theorem c_X4_fullestPlace_0 (l : Launch) (g : dkG) (z : Nat) (I0 : dkI) (t0 : Nat) (ht0 : dkT t0)  (hO : dkOk I0) : Met l yX4_fullestPlace wsX4_fullestPlace (dkR 0) (dkPc g z [.ref (z + t0)] I0) (dkQi g z (fun r I1 => dkF [] I0 I1 ∧ dkOk I1 ∧ ((dkN [(-1000000, -1000000), (0, 8)] r ∧ True)))) 0 0 (dkA z) := by
  refine Met.ofW (cc := cX4_fullestPlace) (maxL := 4) (ret := (some .int)) (by decide) rfl ?_
  intro p e s m args below meth c s₁ B hml hv
  obtain ⟨ha, hW, hK, hT⟩ := hv
  have hx := B.exec
  have hb := B.bytes
  have hr := B.returns
  have hts := atoms_spec (ws := wsX4_fullestPlace) B.pre
  have hown : s.vm.findClass RX4 = some m.cls := findClass_of_methodNamed B.named
  have hlocks := B.notSynchronized
  have hS : va_S (dkA z) s.heap s.heap [] := va_S.rf
  have hF : dkF [] I0 I0 := dkF_rf _ _
  have hl := lv_entry ([.ref (z + t0)]) (n := 4) (Nat.le_of_ble_eq_true rfl)
  have hgo : entryFrame m args 4 = entryFrame m ([.ref (z + t0)] : List Value).toArray 4 := by rw [ha]
  rw [hgo, lg_entry_eq]
  generalize (lg_sl ([.ref (z + t0)]) ++ List.replicate (4 - (lg_sl ([.ref (z + t0)])).length) Slot.unset).toArray = ls at hl ⊢
  have hl : lv_has ls 4 [(0, .ref (z + t0))] := hl
  have C7 : ∀ (n : Nat), ∀ (I : dkI) (H : Heap) (locs : List Loc) (ls : Array Slot) (x7_1 : Int32) (x7_2 : Int32) (x7_3 : Int32), (9 - x7_3.toInt).toNat < n → dkW g z I H → va_S (dkA z) s.heap H locs → dkF [] I0 I → dkOk I → dkN [(-1000000, -1000000), (0, 8)] x7_1 → dkN [(0, 9)] x7_3 → lv_has ls 4 [(0, .ref (z + t0)), (1, .int x7_1), (2, .int x7_2), (3, .int x7_3)] → W p l e (headSpec wsX4_fullestPlace (dkR 0)).room s m args below meth c H locs 0 0 (MQ below (dkQi g z (fun r I1 => dkF [] I0 I1 ∧ dkOk I1 ∧ ((dkN [(-1000000, -1000000), (0, 8)] r ∧ True)))) args s 0 0 (dkA z)) (F0 m 7 ls []) := by
    intro n
    induction n with
    | zero => intro I H locs ls x7_1 x7_2 x7_3 hn; exact absurd hn (Nat.not_lt_zero _)
    | succ n ih7 =>
      intro I7_ H locs ls x7_1 x7_2 x7_3 hn7 hW hS hF_7 hO k7_0 k7_2 hl
      have hF := hF_7
      have C34 : ∀ (I : dkI) (H : Heap) (locs : List Loc) (ls : Array Slot) (x34_1 : Int32) (x34_2 : Int32), dkW g z I H → va_S (dkA z) s.heap H locs → dkF [] I0 I → dkOk I → dkN [(-1000000, -1000000), (0, 8)] x34_1 → dkN [(0, 8)] x7_3 → dkN [(1, 9)] (I t0 0) → lv_has ls 4 [(0, .ref (z + t0)), (1, .int x34_1), (2, .int x34_2), (3, .int x7_3)] → W p l e (headSpec wsX4_fullestPlace (dkR 0)).room s m args below meth c H locs 0 0 (MQ below (dkQi g z (fun r I1 => dkF [] I0 I1 ∧ dkOk I1 ∧ ((dkN [(-1000000, -1000000), (0, 8)] r ∧ True)))) args s 0 0 (dkA z)) (F0 m 34 ls []) := by
        intro I34_ H locs ls x34_1 x34_2 hW hS hF_34 hO k34_0 r34_0 f34_0 hl
        have hF := hF_34
        obtain ⟨v1, ev1⟩ : ∃ y : Int32, y = x7_3 + 1 := ⟨_, rfl⟩
        have dv1 : dkN [(1, 9)] v1 := by rw [ev1]; exact dkN_add r34_0 (dkN_lit (x := 1) (1) rfl) rfl
        refine lv_iinc (v := v1) (lv' := [(3, .int v1), (0, .ref (z + t0)), (1, .int x34_1), (2, .int x34_2)]) hx hb dX4_fullestPlace_34 hl (k := 3) rfl (by rw [ev1]; rfl) (by decide) rfl (fun ls hl => ?_)
        refine lv_goto (tgt := 7) hx hb dX4_fullestPlace_37 (by decide) ?_
        exact ih7 I34_ _ _ ls x34_1 x34_2 v1 (dk_near hn7 (by rw [ev1]; exact dk_inc r34_0 rfl) (dkN_lt r34_0 rfl)) hW hS hF hO (dkN_sub k34_0 rfl) (dkN_sub dv1 rfl) (lv_sub hl [1, 2, 3, 0] rfl)
      refine lv_iload_n hx hb dX4_fullestPlace_7 rfl (lv_at hl 3 rfl) ?_
      refine lv_aload_n hx hb dX4_fullestPlace_8 rfl (lv_at hl 0 rfl) ?_
      refine dk_get (k := t0) hx hb hts iX4_fullestPlace_4 hown hK (dk_aT0 ht0 hW) rfl 0 (by decide) (hts (.fieldLink RX4 42 "DogKings$Town" "places" "I") (List.mem_of_getElem? (i := 2) rfl)) rfl dX4_fullestPlace_9 ?_
      refine lv_topi (fun v2 ev2 => ?_)
      have dv2 : dkN [(0, 9)] v2 := by rw [ev2]; exact (dkO_at hO ht0 (c := 0) (by decide) 0)
      refine lv_icmp_ge (tgt := 40) hx hb dX4_fullestPlace_12 (by decide) (fun c3 => ?_) (fun c3 => ?_)
      ·
        refine lv_iload_n hx hb dX4_fullestPlace_40 rfl (lv_at hl 1 rfl) ?_
        exact W.iret (v := x7_1) hx hb hr (fun t ht hW9 => ⟨⟨x7_1, I7_, rfl, ⟨hF, hO, ⟨dkN_sub k7_0 rfl, trivial⟩⟩, dkW_eq ht hW⟩, hS.F ht⟩) hS.2.2 dX4_fullestPlace_41
      ·
        have d4 : dkN [(1, 9)] v2 := dkN_le2 1 k7_2 dv2 (dkc_nle c3) rfl
        have f5 : dkN [(1, 9)] (I7_ t0 0) := by rw [← ev2]; exact d4
        have d6 : dkN [(0, 8)] x7_3 := dkN_le1 1 k7_2 dv2 (dkc_nle c3) rfl
        refine lv_aload_n hx hb dX4_fullestPlace_15 rfl (lv_at hl 0 rfl) ?_
        refine dk_get (k := t0) hx hb hts iX4_fullestPlace_4 hown hK (dk_aT0 ht0 hW) rfl 18 (by decide) (hts (.fieldLink RX4 39 "DogKings$Town" "others" "[I") (List.mem_of_getElem? (i := 3) rfl)) rfl dX4_fullestPlace_16 ?_
        refine lv_iload_n hx hb dX4_fullestPlace_19 rfl (lv_at hl 3 rfl) ?_
        refine dk_ild (k := (t0 + 10)) hx hb hK (dk_aT10 ht0 hW) (dkN_in (n := 9) d6 rfl) dX4_fullestPlace_20 ?_
        refine lv_topi (fun v7 ev7 => ?_)
        refine lv_iload_n hx hb dX4_fullestPlace_21 rfl (lv_at hl 2 rfl) ?_
        refine lv_icmp_le (tgt := 34) hx hb dX4_fullestPlace_22 (by decide) (fun c8 => ?_) (fun c8 => ?_)
        ·
          exact C34 I7_ _ _ ls x7_1 x7_2 hW hS hF hO (dkN_sub k7_0 rfl) (dkN_sub d6 rfl) (show dkN [(1, 9)] (I7_ t0 0) from dkN_sub f5 rfl) (lv_sub hl [0, 1, 2, 3] rfl)
        ·
          have d9 : dkN [(-2147483647, 2147483647)] v7 := dkN_le2 1 (dkN_top x7_2) (dkN_top v7) (dkc_nle c8) rfl
          have d10 : dkN [(-2147483648, 2147483646)] x7_2 := dkN_le1 1 (dkN_top x7_2) (dkN_top v7) (dkc_nle c8) rfl
          refine lv_aload_n hx hb dX4_fullestPlace_25 rfl (lv_at hl 0 rfl) ?_
          refine dk_get (k := t0) hx hb hts iX4_fullestPlace_4 hown hK (dk_aT0 ht0 hW) rfl 18 (by decide) (hts (.fieldLink RX4 39 "DogKings$Town" "others" "[I") (List.mem_of_getElem? (i := 3) rfl)) rfl dX4_fullestPlace_26 ?_
          refine lv_iload_n hx hb dX4_fullestPlace_29 rfl (lv_at hl 3 rfl) ?_
          refine dk_ild (k := (t0 + 10)) hx hb hK (dk_aT10 ht0 hW) (dkN_in (n := 9) d6 rfl) dX4_fullestPlace_30 ?_
          refine lv_topi (fun v11 ev11 => ?_)
          refine lv_istore_n (lv' := [(2, .int v11), (0, .ref (z + t0)), (1, .int x7_1), (3, .int x7_3)]) hx hb dX4_fullestPlace_31 rfl hl (by decide) rfl (fun ls hl => ?_)
          refine lv_iload_n hx hb dX4_fullestPlace_32 rfl (lv_at hl 3 rfl) ?_
          refine lv_istore_n (lv' := [(1, .int x7_3), (2, .int v11), (0, .ref (z + t0)), (3, .int x7_3)]) hx hb dX4_fullestPlace_33 rfl hl (by decide) rfl (fun ls hl => ?_)
          exact C34 I7_ _ _ ls x7_3 v11 hW hS hF hO (dkN_sub d6 rfl) (dkN_sub d6 rfl) (show dkN [(1, 9)] (I7_ t0 0) from dkN_sub f5 rfl) (lv_sub hl [2, 0, 1, 3] rfl)
  refine lv_ldc (v := (-1000000)) hx hb hown (hts (.constant RX4 89 (-1000000)) (List.mem_of_getElem? (i := 1) rfl)) dX4_fullestPlace_0 ?_
  refine lv_istore_n (lv' := [(1, .int ((-1000000))), (0, .ref (z + t0))]) hx hb dX4_fullestPlace_2 rfl hl (by decide) rfl (fun ls hl => ?_)
  refine lv_iconst (v := 0) hx hb dX4_fullestPlace_3 (by decide) ?_
  refine lv_istore_n (lv' := [(2, .int 0), (1, .int ((-1000000))), (0, .ref (z + t0))]) hx hb dX4_fullestPlace_4 rfl hl (by decide) rfl (fun ls hl => ?_)
  refine lv_iconst (v := 0) hx hb dX4_fullestPlace_5 (by decide) ?_
  refine lv_istore_n (lv' := [(3, .int 0), (2, .int 0), (1, .int ((-1000000))), (0, .ref (z + t0))]) hx hb dX4_fullestPlace_6 rfl hl (by decide) rfl (fun ls hl => ?_)
  exact C7 _ I0 _ _ ls ((-1000000)) 0 0 (Nat.lt_succ_self _) hW hS hF hO (dkN_sub (dkN_lit (x := (-1000000)) (-1000000) rfl) rfl) (dkN_sub (dkN_lit (x := 0) (0) rfl) rfl) (lv_sub hl [3, 2, 1, 0] rfl)
set_option maxHeartbeats 4000000 in
set_option maxRecDepth 100000 in
theorem c_X4_emptiestPlace_0 (l : Launch) (g : dkG) (z : Nat) (I0 : dkI) (t0 : Nat) (ht0 : dkT t0)  (hO : dkOk I0) : Met l yX4_emptiestPlace wsX4_emptiestPlace (dkR 0) (dkPc g z [.ref (z + t0)] I0) (dkQi g z (fun r I1 => dkF [] I0 I1 ∧ dkOk I1 ∧ ((dkN [(0, 8)] r ∧ True)))) 0 0 (dkA z) := by
  refine Met.ofW (cc := cX4_emptiestPlace) (maxL := 3) (ret := (some .int)) (by decide) rfl ?_
  intro p e s m args below meth c s₁ B hml hv
  obtain ⟨ha, hW, hK, hT⟩ := hv
  have hx := B.exec
  have hb := B.bytes
  have hr := B.returns
  have hts := atoms_spec (ws := wsX4_emptiestPlace) B.pre
  have hown : s.vm.findClass RX4 = some m.cls := findClass_of_methodNamed B.named
  have hlocks := B.notSynchronized
  have hS : va_S (dkA z) s.heap s.heap [] := va_S.rf
  have hF : dkF [] I0 I0 := dkF_rf _ _
  have hl := lv_entry ([.ref (z + t0)]) (n := 3) (Nat.le_of_ble_eq_true rfl)
  have hgo : entryFrame m args 3 = entryFrame m ([.ref (z + t0)] : List Value).toArray 3 := by rw [ha]
  rw [hgo, lg_entry_eq]
  generalize (lg_sl ([.ref (z + t0)]) ++ List.replicate (3 - (lg_sl ([.ref (z + t0)])).length) Slot.unset).toArray = ls at hl ⊢
  have hl : lv_has ls 3 [(0, .ref (z + t0))] := hl
  have C4 : ∀ (n : Nat), ∀ (I : dkI) (H : Heap) (locs : List Loc) (ls : Array Slot) (x4_1 : Int32) (x4_2 : Int32), (9 - x4_2.toInt).toNat < n → dkW g z I H → va_S (dkA z) s.heap H locs → dkF [] I0 I → dkOk I → dkN [(0, 8)] x4_1 → dkN [(1, 9)] x4_2 → lv_has ls 3 [(0, .ref (z + t0)), (1, .int x4_1), (2, .int x4_2)] → W p l e (headSpec wsX4_emptiestPlace (dkR 0)).room s m args below meth c H locs 0 0 (MQ below (dkQi g z (fun r I1 => dkF [] I0 I1 ∧ dkOk I1 ∧ ((dkN [(0, 8)] r ∧ True)))) args s 0 0 (dkA z)) (F0 m 4 ls []) := by
    intro n
    induction n with
    | zero => intro I H locs ls x4_1 x4_2 hn; exact absurd hn (Nat.not_lt_zero _)
    | succ n ih4 =>
      intro I4_ H locs ls x4_1 x4_2 hn4 hW hS hF_4 hO k4_0 k4_1 hl
      have hF := hF_4
      have C29 : ∀ (I : dkI) (H : Heap) (locs : List Loc) (ls : Array Slot) (x29_1 : Int32), dkW g z I H → va_S (dkA z) s.heap H locs → dkF [] I0 I → dkOk I → dkN [(0, 8)] x29_1 → dkN [(1, 8)] x4_2 → dkN [(2, 9)] (I t0 0) → lv_has ls 3 [(0, .ref (z + t0)), (1, .int x29_1), (2, .int x4_2)] → W p l e (headSpec wsX4_emptiestPlace (dkR 0)).room s m args below meth c H locs 0 0 (MQ below (dkQi g z (fun r I1 => dkF [] I0 I1 ∧ dkOk I1 ∧ ((dkN [(0, 8)] r ∧ True)))) args s 0 0 (dkA z)) (F0 m 29 ls []) := by
        intro I29_ H locs ls x29_1 hW hS hF_29 hO k29_0 r29_0 f29_0 hl
        have hF := hF_29
        obtain ⟨v1, ev1⟩ : ∃ y : Int32, y = x4_2 + 1 := ⟨_, rfl⟩
        have dv1 : dkN [(2, 9)] v1 := by rw [ev1]; exact dkN_add r29_0 (dkN_lit (x := 1) (1) rfl) rfl
        refine lv_iinc (v := v1) (lv' := [(2, .int v1), (0, .ref (z + t0)), (1, .int x29_1)]) hx hb dX4_emptiestPlace_29 hl (k := 2) rfl (by rw [ev1]; rfl) (by decide) rfl (fun ls hl => ?_)
        refine lv_goto (tgt := 4) hx hb dX4_emptiestPlace_32 (by decide) ?_
        exact ih4 I29_ _ _ ls x29_1 v1 (dk_near hn4 (by rw [ev1]; exact dk_inc r29_0 rfl) (dkN_lt r29_0 rfl)) hW hS hF hO (dkN_sub k29_0 rfl) (dkN_sub dv1 rfl) (lv_sub hl [1, 2, 0] rfl)
      refine lv_iload_n hx hb dX4_emptiestPlace_4 rfl (lv_at hl 2 rfl) ?_
      refine lv_aload_n hx hb dX4_emptiestPlace_5 rfl (lv_at hl 0 rfl) ?_
      refine dk_get (k := t0) hx hb hts iX4_emptiestPlace_4 hown hK (dk_aT0 ht0 hW) rfl 0 (by decide) (hts (.fieldLink RX4 42 "DogKings$Town" "places" "I") (List.mem_of_getElem? (i := 1) rfl)) rfl dX4_emptiestPlace_6 ?_
      refine lv_topi (fun v2 ev2 => ?_)
      have dv2 : dkN [(0, 9)] v2 := by rw [ev2]; exact (dkO_at hO ht0 (c := 0) (by decide) 0)
      refine lv_icmp_ge (tgt := 35) hx hb dX4_emptiestPlace_9 (by decide) (fun c3 => ?_) (fun c3 => ?_)
      ·
        refine lv_iload_n hx hb dX4_emptiestPlace_35 rfl (lv_at hl 1 rfl) ?_
        exact W.iret (v := x4_1) hx hb hr (fun t ht hW9 => ⟨⟨x4_1, I4_, rfl, ⟨hF, hO, ⟨dkN_sub k4_0 rfl, trivial⟩⟩, dkW_eq ht hW⟩, hS.F ht⟩) hS.2.2 dX4_emptiestPlace_36
      ·
        have d4 : dkN [(2, 9)] v2 := dkN_le2 1 k4_1 dv2 (dkc_nle c3) rfl
        have f5 : dkN [(2, 9)] (I4_ t0 0) := by rw [← ev2]; exact d4
        have d6 : dkN [(1, 8)] x4_2 := dkN_le1 1 k4_1 dv2 (dkc_nle c3) rfl
        refine lv_aload_n hx hb dX4_emptiestPlace_12 rfl (lv_at hl 0 rfl) ?_
        refine dk_get (k := t0) hx hb hts iX4_emptiestPlace_4 hown hK (dk_aT0 ht0 hW) rfl 18 (by decide) (hts (.fieldLink RX4 39 "DogKings$Town" "others" "[I") (List.mem_of_getElem? (i := 2) rfl)) rfl dX4_emptiestPlace_13 ?_
        refine lv_iload_n hx hb dX4_emptiestPlace_16 rfl (lv_at hl 2 rfl) ?_
        refine dk_ild (k := (t0 + 10)) hx hb hK (dk_aT10 ht0 hW) (dkN_in (n := 9) d6 rfl) dX4_emptiestPlace_17 ?_
        refine lv_topi (fun v7 ev7 => ?_)
        refine lv_aload_n hx hb dX4_emptiestPlace_18 rfl (lv_at hl 0 rfl) ?_
        refine dk_get (k := t0) hx hb hts iX4_emptiestPlace_4 hown hK (dk_aT0 ht0 hW) rfl 18 (by decide) (hts (.fieldLink RX4 39 "DogKings$Town" "others" "[I") (List.mem_of_getElem? (i := 2) rfl)) rfl dX4_emptiestPlace_19 ?_
        refine lv_iload_n hx hb dX4_emptiestPlace_22 rfl (lv_at hl 1 rfl) ?_
        refine dk_ild (k := (t0 + 10)) hx hb hK (dk_aT10 ht0 hW) (dkN_in (n := 9) k4_0 rfl) dX4_emptiestPlace_23 ?_
        refine lv_topi (fun v8 ev8 => ?_)
        refine lv_icmp_ge (tgt := 29) hx hb dX4_emptiestPlace_24 (by decide) (fun c9 => ?_) (fun c9 => ?_)
        ·
          exact C29 I4_ _ _ ls x4_1 hW hS hF hO (dkN_sub k4_0 rfl) (dkN_sub d6 rfl) (show dkN [(2, 9)] (I4_ t0 0) from dkN_sub f5 rfl) (lv_sub hl [0, 1, 2] rfl)
        ·
          have d10 : dkN [(-2147483647, 2147483647)] v8 := dkN_le2 1 (dkN_top v7) (dkN_top v8) (dkc_nle c9) rfl
          have d11 : dkN [(-2147483648, 2147483646)] v7 := dkN_le1 1 (dkN_top v7) (dkN_top v8) (dkc_nle c9) rfl
          refine lv_iload_n hx hb dX4_emptiestPlace_27 rfl (lv_at hl 2 rfl) ?_
          refine lv_istore_n (lv' := [(1, .int x4_2), (0, .ref (z + t0)), (2, .int x4_2)]) hx hb dX4_emptiestPlace_28 rfl hl (by decide) rfl (fun ls hl => ?_)
          exact C29 I4_ _ _ ls x4_2 hW hS hF hO (dkN_sub d6 rfl) (dkN_sub d6 rfl) (show dkN [(2, 9)] (I4_ t0 0) from dkN_sub f5 rfl) (lv_sub hl [1, 0, 2] rfl)
  refine lv_iconst (v := 0) hx hb dX4_emptiestPlace_0 (by decide) ?_
  refine lv_istore_n (lv' := [(1, .int 0), (0, .ref (z + t0))]) hx hb dX4_emptiestPlace_1 rfl hl (by decide) rfl (fun ls hl => ?_)
  refine lv_iconst (v := 1) hx hb dX4_emptiestPlace_2 (by decide) ?_
  refine lv_istore_n (lv' := [(2, .int 1), (1, .int 0), (0, .ref (z + t0))]) hx hb dX4_emptiestPlace_3 rfl hl (by decide) rfl (fun ls hl => ?_)
  exact C4 _ I0 _ _ ls 0 1 (Nat.lt_succ_self _) hW hS hF hO (dkN_sub (dkN_lit (x := 0) (0) rfl) rfl) (dkN_sub (dkN_lit (x := 1) (1) rfl) rfl) (lv_sub hl [2, 1, 0] rfl)
set_option maxHeartbeats 4000000 in
set_option maxRecDepth 100000 in
theorem c_X4_goal_0 (l : Launch) (g : dkG) (z : Nat) (I0 : dkI) (t0 : Nat) (ht0 : dkT t0) (p0 : Int32) (dp0 : dkN [(0, 5)] p0)  (hO : dkOk I0) : Met l yX4_goal wsX4_goal (dkR 2) (dkPc g z [.ref (z + t0), .int p0] I0) (dkQi g z (fun r I1 => dkF [(t0 + 10, t0 + 10, 0, 8)] I0 I1 ∧ dkOk I1 ∧ ((True ∧ True)))) 0 0 (dkA z) := by
  refine Met.ofW (cc := cX4_goal) (maxL := 3) (ret := (some .int)) (by decide) rfl ?_
  intro p e s m args below meth c s₁ B hml hv
  obtain ⟨ha, hW, hK, hT⟩ := hv
  have hx := B.exec
  have hb := B.bytes
  have hr := B.returns
  have hts := atoms_spec (ws := wsX4_goal) B.pre
  have hown : s.vm.findClass RX4 = some m.cls := findClass_of_methodNamed B.named
  have hlocks := B.notSynchronized
  have hS : va_S (dkA z) s.heap s.heap [] := va_S.rf
  have hF : dkF [(t0 + 10, t0 + 10, 0, 8)] I0 I0 := dkF_rf _ _
  have hl := lv_entry ([.ref (z + t0), .int p0]) (n := 3) (Nat.le_of_ble_eq_true rfl)
  have hgo : entryFrame m args 3 = entryFrame m ([.ref (z + t0), .int p0] : List Value).toArray 3 := by rw [ha]
  rw [hgo, lg_entry_eq]
  generalize (lg_sl ([.ref (z + t0), .int p0]) ++ List.replicate (3 - (lg_sl ([.ref (z + t0), .int p0])).length) Slot.unset).toArray = ls at hl ⊢
  have hl : lv_has ls 3 [(0, .ref (z + t0)), (1, .int p0)] := hl
  refine lv_aload_n hx hb dX4_goal_0 rfl (lv_at hl 0 rfl) ?_
  refine dk_get (k := t0) hx hb hts iX4_goal_4 hown hK (dk_aT0 ht0 hW) rfl 12 (by decide) (hts (.fieldLink RX4 30 "DogKings$Town" "sort" "[I") (List.mem_of_getElem? (i := 1) rfl)) rfl dX4_goal_1 ?_
  refine lv_iload_n hx hb dX4_goal_4 rfl (lv_at hl 1 rfl) ?_
  refine dk_ild (k := (t0 + 7)) hx hb hK (dk_aT7 ht0 hW) (dkN_in (n := 6) dp0 rfl) dX4_goal_5 ?_
  refine lv_topi (fun v1 ev1 => ?_)
  refine lv_iconst (v := 4) hx hb dX4_goal_6 (by decide) ?_
  refine dk_SiN (As := [.int v1, .int 4]) (rest := []) ⟨hx, hb, hml, hown, hts⟩ (c_X5_isA_0 l g z I0 v1 4 (dkN_lit (x := 4) (4) rfl) hO) ⟨va_cnB 2 hts gX4_goal_X5_isA_n112 rfl rfl rfl (hK.2.1 (RX4, 112, yX5_isA) (by decide)) (hts (.initialized RX5) (List.mem_of_getElem? (i := 5) rfl)) (by decide +kernel) ⟨Nat.le_of_ble_eq_true rfl, Nat.le_of_ble_eq_true rfl⟩, (hts (.static yX5_isA) (List.mem_of_getElem? (i := 4) rfl)), trivial⟩ hK hT hW hS rfl hl.1 rfl (Nat.le_of_ble_eq_true rfl) dX4_goal_7 ⟨Nat.zero_le _, Nat.zero_le _⟩ (fun v2 I2 H2 L2 hp2 hW hS => ?_)
  obtain ⟨hF2, hO, hc2⟩ := hp2
  have hF := dkF_callP hF hF2 dkSub_nil
  rcases hc2 with ⟨dv2, a2_0, -⟩ | hc2
  ·
    have d3 : dkN [(-2147483648, 3), (6, 2147483647)] v1 := dkN_eq1 (dkN_top v1) a2_0 rfl rfl
    refine lv_if_eq (tgt := 40) hx hb dX4_goal_10 (by decide) (fun c4 => ?_) (fun c4 => ?_)
    ·
      refine lv_aload_n hx hb dX4_goal_40 rfl (lv_at hl 0 rfl) ?_
      refine lv_iload_n hx hb dX4_goal_41 rfl (lv_at hl 1 rfl) ?_
      refine dk_Vi (As := [.int p0]) (rest := []) ⟨hx, hb, hml, hown, hts⟩ (c_X4_favourite_0 l g z I2 t0 ht0 p0 dp0 hO) (cwV 1 hts gX4_goal_X4_favourite rfl rfl rfl (by decide +kernel) ⟨Nat.le_of_ble_eq_true rfl, Nat.le_of_ble_eq_true rfl⟩) (dk_aT0 ht0 hW) rfl hK hT hW hS rfl hl.1 rfl (Nat.le_of_ble_eq_true rfl) dX4_goal_42 ⟨Nat.zero_le _, Nat.zero_le _⟩ (fun v5 I5 H5 L5 hp5 hW hS => ?_)
      obtain ⟨hF5, hO, hc5⟩ := hp5
      have hF := dkF_callP hF hF5 dkSub_nil
      obtain ⟨dv5, -⟩ := hc5
      refine lv_istore_n (lv' := [(2, .int v5), (0, .ref (z + t0)), (1, .int p0)]) hx hb dX4_goal_45 rfl hl (by decide) rfl (fun ls hl => ?_)
      refine lv_iload_n hx hb dX4_goal_46 rfl (lv_at hl 0 rfl) ?_
      refine lv_ldc (v := (-1000000)) hx hb hown (hts (.constant RX4 89 (-1000000)) (List.mem_of_getElem? (i := 2) rfl)) dX4_goal_47 ?_
      refine lv_icmp_ne (tgt := 57) hx hb dX4_goal_49 (by decide) (fun c6 => ?_) (fun c6 => ?_)
      ·
        have d7 : dkN [(0, 4)] v5 := dkN_ne1 (-1000000) dv5 (dkN_lit (x := (-1000000)) (-1000000) rfl) (dk_ne c6) rfl
        refine lv_aload_n hx hb dX4_goal_57 rfl (lv_at hl 1 rfl) ?_
        refine dk_get (k := t0) hx hb hts iX4_goal_4 hown hK (dk_aT0 ht0 hW) rfl 7 (by decide) (hts (.fieldLink RX4 18 "DogKings$Town" "personAt" "[I") (List.mem_of_getElem? (i := 3) rfl)) rfl dX4_goal_58 ?_
        refine lv_iload_n hx hb dX4_goal_61 rfl (lv_at hl 0 rfl) ?_
        refine dk_ild (k := (t0 + 3)) hx hb hK (dk_aT3 ht0 hW) (dkN_in (n := 5) d7 rfl) dX4_goal_62 ?_
        refine lv_topi (fun v8 ev8 => ?_)
        exact W.iret (v := v8) hx hb hr (fun t ht hW9 => ⟨⟨v8, I5, rfl, ⟨hF, hO, ⟨trivial, trivial⟩⟩, dkW_eq ht hW⟩, hS.F ht⟩) hS.2.2 dX4_goal_63
      ·
        have d9 : dkN [(-1000000, -1000000)] v5 := dkN_eq1 dv5 (dkN_lit (x := (-1000000)) (-1000000) rfl) (congrArg Int32.toInt c6) rfl
        refine lv_ldc (v := (-1000000)) hx hb hown (hts (.constant RX4 89 (-1000000)) (List.mem_of_getElem? (i := 2) rfl)) dX4_goal_52 ?_
        refine lv_goto (tgt := 63) hx hb dX4_goal_54 (by decide) ?_
        exact W.iret (v := (-1000000)) hx hb hr (fun t ht hW9 => ⟨⟨(-1000000), I5, rfl, ⟨hF, hO, ⟨trivial, trivial⟩⟩, dkW_eq ht hW⟩, hS.F ht⟩) hS.2.2 dX4_goal_63
    ·
      exact (dkN_nil (show dkN [] v2 from dkN_ne1 (0) dv2 (dkN_lit (x := 0) (0) rfl) (dk_ne c4) rfl)).elim
  ·
    obtain ⟨dv2, a2_0, -⟩ := hc2
    have d10 : dkN [(4, 5)] v1 := dkN_eq1 (dkN_top v1) a2_0 rfl rfl
    refine lv_if_eq (tgt := 40) hx hb dX4_goal_10 (by decide) (fun c11 => ?_) (fun c11 => ?_)
    ·
      exact (dkN_nil (show dkN [] v2 from dkN_eq1 dv2 (dkN_lit (x := 0) (0) rfl) (congrArg Int32.toInt c11) rfl)).elim
    ·
      refine lv_aload_n hx hb dX4_goal_13 rfl (lv_at hl 0 rfl) ?_
      refine lv_iload_n hx hb dX4_goal_14 rfl (lv_at hl 1 rfl) ?_
      refine dk_Vv (As := [.int p0]) (rest := []) ⟨hx, hb, hml, hown, hts⟩ (c_X4_countOthers_0 l g z I2 t0 ht0 p0 hO) (cwV 1 hts gX4_goal_X4_countOthers rfl rfl rfl (by decide +kernel) ⟨Nat.le_of_ble_eq_true rfl, Nat.le_of_ble_eq_true rfl⟩) (dk_aT0 ht0 hW) rfl hK hT hW hS rfl hl.1 rfl (Nat.le_of_ble_eq_true rfl) dX4_goal_15 ⟨Nat.zero_le _, Nat.zero_le _⟩ (fun I12 H12 L12 hp12 hW hS => ?_)
      obtain ⟨hF12, hO, hc12⟩ := hp12
      have hF := dkF_callP hF hF12 (dkSub_cons (i := 0) rfl (Nat.le_refl _) (Nat.le_refl _) (by decide) (by decide) dkSub_nil)
      refine lv_aload_n hx hb dX4_goal_18 rfl (lv_at hl 0 rfl) ?_
      refine dk_get (k := t0) hx hb hts iX4_goal_4 hown hK (dk_aT0 ht0 hW) rfl 12 (by decide) (hts (.fieldLink RX4 30 "DogKings$Town" "sort" "[I") (List.mem_of_getElem? (i := 1) rfl)) rfl dX4_goal_19 ?_
      refine lv_iload_n hx hb dX4_goal_22 rfl (lv_at hl 1 rfl) ?_
      refine dk_ild (k := (t0 + 7)) hx hb hK (dk_aT7 ht0 hW) (dkN_in (n := 6) dp0 rfl) dX4_goal_23 ?_
      refine lv_topi (fun v13 ev13 => ?_)
      refine lv_iconst (v := 5) hx hb dX4_goal_24 (by decide) ?_
      refine lv_icmp_ne (tgt := 35) hx hb dX4_goal_25 (by decide) (fun c14 => ?_) (fun c14 => ?_)
      ·
        have d15 : dkN [(-2147483648, 4), (6, 2147483647)] v13 := dkN_ne1 (5) (dkN_top v13) (dkN_lit (x := 5) (5) rfl) (dk_ne c14) rfl
        refine lv_aload_n hx hb dX4_goal_35 rfl (lv_at hl 0 rfl) ?_
        refine dk_Vi (As := []) (rest := []) ⟨hx, hb, hml, hown, hts⟩ (c_X4_fullestPlace_0 l g z I12 t0 ht0 hO) (cwV 0 hts gX4_goal_X4_fullestPlace rfl rfl rfl (by decide +kernel) ⟨Nat.le_of_ble_eq_true rfl, Nat.le_of_ble_eq_true rfl⟩) (dk_aT0 ht0 hW) rfl hK hT hW hS rfl hl.1 rfl (Nat.le_of_ble_eq_true rfl) dX4_goal_36 ⟨Nat.zero_le _, Nat.zero_le _⟩ (fun v16 I16 H16 L16 hp16 hW hS => ?_)
        obtain ⟨hF16, hO, hc16⟩ := hp16
        have hF := dkF_callP hF hF16 dkSub_nil
        obtain ⟨dv16, -⟩ := hc16
        exact W.iret (v := v16) hx hb hr (fun t ht hW9 => ⟨⟨v16, I16, rfl, ⟨hF, hO, ⟨trivial, trivial⟩⟩, dkW_eq ht hW⟩, hS.F ht⟩) hS.2.2 dX4_goal_39
      ·
        have d17 : dkN [(5, 5)] v13 := dkN_eq1 (dkN_top v13) (dkN_lit (x := 5) (5) rfl) (congrArg Int32.toInt c14) rfl
        refine lv_aload_n hx hb dX4_goal_28 rfl (lv_at hl 0 rfl) ?_
        refine dk_Vi (As := []) (rest := []) ⟨hx, hb, hml, hown, hts⟩ (c_X4_emptiestPlace_0 l g z I12 t0 ht0 hO) (cwV 0 hts gX4_goal_X4_emptiestPlace rfl rfl rfl (by decide +kernel) ⟨Nat.le_of_ble_eq_true rfl, Nat.le_of_ble_eq_true rfl⟩) (dk_aT0 ht0 hW) rfl hK hT hW hS rfl hl.1 rfl (Nat.le_of_ble_eq_true rfl) dX4_goal_29 ⟨Nat.zero_le _, Nat.zero_le _⟩ (fun v18 I18 H18 L18 hp18 hW hS => ?_)
        obtain ⟨hF18, hO, hc18⟩ := hp18
        have hF := dkF_callP hF hF18 dkSub_nil
        obtain ⟨dv18, -⟩ := hc18
        refine lv_goto (tgt := 39) hx hb dX4_goal_32 (by decide) ?_
        exact W.iret (v := v18) hx hb hr (fun t ht hW9 => ⟨⟨v18, I18, rfl, ⟨hF, hO, ⟨trivial, trivial⟩⟩, dkW_eq ht hW⟩, hS.F ht⟩) hS.2.2 dX4_goal_39
set_option maxHeartbeats 4000000 in
set_option maxRecDepth 100000 in
theorem c_X4_trot_0 (l : Launch) (g : dkG) (z : Nat) (I0 : dkI) (t0 : Nat) (ht0 : dkT t0) (p0 : Int32) (p1 : Int32) (dp0 : dkN [(0, 5)] p0)  (hO : dkOk I0) : Met l yX4_trot wsX4_trot (dkR 1) (dkPc g z [.ref (z + t0), .int p0, .int p1] I0) (dkQv g z (fun I1 => dkF [(t0 + 9, t0 + 9, 0, 5)] I0 I1 ∧ dkOk I1 ∧ ((True)))) 0 0 (dkA z) := by
  refine Met.ofW (cc := cX4_trot) (maxL := 4) (ret := none) (by decide) rfl ?_
  intro p e s m args below meth c s₁ B hml hv
  obtain ⟨ha, hW, hK, hT⟩ := hv
  have hx := B.exec
  have hb := B.bytes
  have hr := B.returns
  have hts := atoms_spec (ws := wsX4_trot) B.pre
  have hown : s.vm.findClass RX4 = some m.cls := findClass_of_methodNamed B.named
  have hlocks := B.notSynchronized
  have hS : va_S (dkA z) s.heap s.heap [] := va_S.rf
  have hF : dkF [(t0 + 9, t0 + 9, 0, 5)] I0 I0 := dkF_rf _ _
  have hl := lv_entry ([.ref (z + t0), .int p0, .int p1]) (n := 4) (Nat.le_of_ble_eq_true rfl)
  have hgo : entryFrame m args 4 = entryFrame m ([.ref (z + t0), .int p0, .int p1] : List Value).toArray 4 := by rw [ha]
  rw [hgo, lg_entry_eq]
  generalize (lg_sl ([.ref (z + t0), .int p0, .int p1]) ++ List.replicate (4 - (lg_sl ([.ref (z + t0), .int p0, .int p1])).length) Slot.unset).toArray = ls at hl ⊢
  have hl : lv_has ls 4 [(0, .ref (z + t0)), (1, .int p0), (2, .int p1)] := hl
  have C38 : ∀ (I : dkI) (H : Heap) (locs : List Loc) (ls : Array Slot) (x38_s0 : Int32) (x38_s1 : Int32), dkW g z I H → va_S (dkA z) s.heap H locs → dkF [(t0 + 9, t0 + 9, 0, 5)] I0 I → dkOk I → dkN [(-1, -1), (1, 1)] x38_s0 → dkN [(-2147483648, -1000001), (-999999, 2147483647)] p1 → lv_has ls 4 [(0, .ref (z + t0)), (1, .int p0), (2, .int p1)] → W p l e (headSpec wsX4_trot (dkR 1)).room s m args below meth c H locs 0 0 (MQ below (dkQv g z (fun I1 => dkF [(t0 + 9, t0 + 9, 0, 5)] I0 I1 ∧ dkOk I1 ∧ ((True)))) args s 0 0 (dkA z)) (F0 m 38 ls [.int x38_s0, .int x38_s1]) := by
    intro I38_ H locs ls x38_s0 x38_s1 hW hS hF_38 hO k38_0 r38_0 hl
    have hF := hF_38
    refine lv_iadd hx hb dX4_trot_38 ?_
    refine lv_topi (fun v1 ev1 => ?_)
    refine lv_istore_n (lv' := [(3, .int v1), (0, .ref (z + t0)), (1, .int p0), (2, .int p1)]) hx hb dX4_trot_39 rfl hl (by decide) rfl (fun ls hl => ?_)
    refine lv_aload_n hx hb dX4_trot_40 rfl (lv_at hl 1 rfl) ?_
    refine dk_get (k := t0) hx hb hts iX4_trot_4 hown hK (dk_aT0 ht0 hW) rfl 17 (by decide) (hts (.fieldLink RX4 67 "DogKings$Town" "cats" "I") (List.mem_of_getElem? (i := 3) rfl)) rfl dX4_trot_41 ?_
    refine lv_topi (fun v2 ev2 => ?_)
    refine lv_iload_n hx hb dX4_trot_44 rfl (lv_at hl 0 rfl) ?_
    refine dk_SiN (As := [.int v2, .int v1]) (rest := []) ⟨hx, hb, hml, hown, hts⟩ (c_X5_holds_0 l g z I38_ v2 v1 hO) ⟨va_cnB 2 hts gX4_trot_X5_holds_n74 rfl rfl rfl (hK.2.1 (RX4, 74, yX5_holds) (by decide)) (hts (.initialized RX5) (List.mem_of_getElem? (i := 5) rfl)) (by decide +kernel) ⟨Nat.le_of_ble_eq_true rfl, Nat.le_of_ble_eq_true rfl⟩, (hts (.static yX5_holds) (List.mem_of_getElem? (i := 4) rfl)), trivial⟩ hK hT hW hS rfl hl.1 rfl (Nat.le_of_ble_eq_true rfl) dX4_trot_45 ⟨Nat.zero_le _, Nat.zero_le _⟩ (fun v3 I3 H3 L3 hp3 hW hS => ?_)
    obtain ⟨hF3, hO, hc3⟩ := hp3
    have hF := dkF_callP hF hF3 dkSub_nil
    obtain ⟨dv3, -⟩ := hc3
    refine lv_if_ne (tgt := 58) hx hb dX4_trot_48 (by decide) (fun c4 => ?_) (fun c4 => ?_)
    ·
      have d5 : dkN [(1, 1)] v3 := dkN_ne1 (0) dv3 (dkN_lit (x := 0) (0) rfl) (dk_ne c4) rfl
      exact W.vret hx hb hr (fun t ht hW9 => ⟨⟨I3, rfl, ⟨hF, hO, trivial⟩, dkW_eq ht hW⟩, hS.F ht⟩) hS.2.2 dX4_trot_58
    ·
      have d6 : dkN [(0, 0)] v3 := dkN_eq1 dv3 (dkN_lit (x := 0) (0) rfl) (congrArg Int32.toInt c4) rfl
      refine lv_aload_n hx hb dX4_trot_51 rfl (lv_at hl 1 rfl) ?_
      refine dk_get (k := t0) hx hb hts iX4_trot_4 hown hK (dk_aT0 ht0 hW) rfl 14 (by decide) (hts (.fieldLink RX4 36 "DogKings$Town" "dogAt" "[I") (List.mem_of_getElem? (i := 2) rfl)) rfl dX4_trot_52 ?_
      refine lv_iload_n hx hb dX4_trot_55 rfl (lv_at hl 2 rfl) ?_
      refine lv_iload_n hx hb dX4_trot_56 rfl (lv_at hl 0 rfl) ?_
      refine dk_ist (k := (t0 + 9)) hx hb hK hW (fun _ => dkC_T g z ht0 (c := 9) (by decide) _) (by have := dkT_lt ht0; omega) hS (dkN_in (n := 6) dp0 rfl) dX4_trot_57 (fun I7 H7 L7 eI7 hW hS => ?_)
      have hO := dkO_setT hO ht0 (c := 9) (by decide) eI7 (dkN_sub (dkN_top v1) rfl)
      have hF := dkF_set hF eI7 (dkIn_atv (i := 0) rfl (Nat.le_refl _) (Nat.le_refl _) dp0 rfl)
      exact W.vret hx hb hr (fun t ht hW9 => ⟨⟨I7, rfl, ⟨hF, hO, trivial⟩, dkW_eq ht hW⟩, hS.F ht⟩) hS.2.2 dX4_trot_58
  refine lv_iload_n hx hb dX4_trot_0 rfl (lv_at hl 2 rfl) ?_
  refine lv_ldc (v := (-1000000)) hx hb hown (hts (.constant RX4 89 (-1000000)) (List.mem_of_getElem? (i := 1) rfl)) dX4_trot_1 ?_
  refine lv_icmp_eq (tgt := 16) hx hb dX4_trot_3 (by decide) (fun c8 => ?_) (fun c8 => ?_)
  ·
    have d9 : dkN [(-1000000, -1000000)] p1 := dkN_eq1 (dkN_top p1) (dkN_lit (x := (-1000000)) (-1000000) rfl) (congrArg Int32.toInt c8) rfl
    exact W.vret hx hb hr (fun t ht hW9 => ⟨⟨I0, rfl, ⟨hF, hO, trivial⟩, dkW_eq ht hW⟩, hS.F ht⟩) hS.2.2 dX4_trot_16
  ·
    have d10 : dkN [(-2147483648, -1000001), (-999999, 2147483647)] p1 := dkN_ne1 (-1000000) (dkN_top p1) (dkN_lit (x := (-1000000)) (-1000000) rfl) (dk_ne c8) rfl
    refine lv_iload_n hx hb dX4_trot_6 rfl (lv_at hl 2 rfl) ?_
    refine lv_aload_n hx hb dX4_trot_7 rfl (lv_at hl 0 rfl) ?_
    refine dk_get (k := t0) hx hb hts iX4_trot_4 hown hK (dk_aT0 ht0 hW) rfl 14 (by decide) (hts (.fieldLink RX4 36 "DogKings$Town" "dogAt" "[I") (List.mem_of_getElem? (i := 2) rfl)) rfl dX4_trot_8 ?_
    refine lv_iload_n hx hb dX4_trot_11 rfl (lv_at hl 1 rfl) ?_
    refine dk_ild (k := (t0 + 9)) hx hb hK (dk_aT9 ht0 hW) (dkN_in (n := 6) dp0 rfl) dX4_trot_12 ?_
    refine lv_topi (fun v11 ev11 => ?_)
    refine lv_icmp_ne (tgt := 17) hx hb dX4_trot_13 (by decide) (fun c12 => ?_) (fun c12 => ?_)
    ·
      refine lv_aload_n hx hb dX4_trot_17 rfl (lv_at hl 0 rfl) ?_
      refine dk_get (k := t0) hx hb hts iX4_trot_4 hown hK (dk_aT0 ht0 hW) rfl 14 (by decide) (hts (.fieldLink RX4 36 "DogKings$Town" "dogAt" "[I") (List.mem_of_getElem? (i := 2) rfl)) rfl dX4_trot_18 ?_
      refine lv_iload_n hx hb dX4_trot_21 rfl (lv_at hl 1 rfl) ?_
      refine dk_ild (k := (t0 + 9)) hx hb hK (dk_aT9 ht0 hW) (dkN_in (n := 6) dp0 rfl) dX4_trot_22 ?_
      refine lv_topi (fun v13 ev13 => ?_)
      refine lv_iload_n hx hb dX4_trot_23 rfl (lv_at hl 2 rfl) ?_
      refine lv_aload_n hx hb dX4_trot_24 rfl (lv_at hl 0 rfl) ?_
      refine dk_get (k := t0) hx hb hts iX4_trot_4 hown hK (dk_aT0 ht0 hW) rfl 14 (by decide) (hts (.fieldLink RX4 36 "DogKings$Town" "dogAt" "[I") (List.mem_of_getElem? (i := 2) rfl)) rfl dX4_trot_25 ?_
      refine lv_iload_n hx hb dX4_trot_28 rfl (lv_at hl 1 rfl) ?_
      refine dk_ild (k := (t0 + 9)) hx hb hK (dk_aT9 ht0 hW) (dkN_in (n := 6) dp0 rfl) dX4_trot_29 ?_
      refine lv_topi (fun v14 ev14 => ?_)
      refine lv_icmp_le (tgt := 37) hx hb dX4_trot_30 (by decide) (fun c15 => ?_) (fun c15 => ?_)
      ·
        refine lv_iconst (v := (-1)) hx hb dX4_trot_37 (by decide) ?_
        exact C38 I0 _ _ ls ((-1)) v13 hW hS hF hO (dkN_sub (dkN_lit (x := (-1)) (-1) rfl) rfl) (dkN_sub d10 rfl) (lv_sub hl [0, 1, 2] rfl)
      ·
        have d16 : dkN [(-2147483647, -1000001), (-999999, 2147483647)] p1 := dkN_le2 1 (dkN_top v14) d10 (dkc_nle c15) rfl
        have d17 : dkN [(-2147483648, 2147483646)] v14 := dkN_le1 1 (dkN_top v14) d10 (dkc_nle c15) rfl
        refine lv_iconst (v := 1) hx hb dX4_trot_33 (by decide) ?_
        refine lv_goto (tgt := 38) hx hb dX4_trot_34 (by decide) ?_
        exact C38 I0 _ _ ls 1 v13 hW hS hF hO (dkN_sub (dkN_lit (x := 1) (1) rfl) rfl) (dkN_sub d16 rfl) (lv_sub hl [0, 1, 2] rfl)
    ·
      have d18 : dkN [(-2147483648, -1000001), (-999999, 2147483647)] v11 := dkN_eq1 (dkN_top v11) d10 (congrArg Int32.toInt c12).symm rfl
      exact W.vret hx hb hr (fun t ht hW9 => ⟨⟨I0, rfl, ⟨hF, hO, trivial⟩, dkW_eq ht hW⟩, hS.F ht⟩) hS.2.2 dX4_trot_16
set_option maxHeartbeats 4000000 in
set_option maxRecDepth 100000 in
theorem c_X4_stir_0 (l : Launch) (g : dkG) (z : Nat) (I0 : dkI) (t0 : Nat) (ht0 : dkT t0)  (hO : dkOk I0) : Met l yX4_stir wsX4_stir (dkR 3) (dkPc g z [.ref (z + t0)] I0) (dkQv g z (fun I1 => dkF [(t0, t0, 3, 3), (t0 + 3, t0 + 3, 0, 4), (t0 + 5, t0 + 5, 0, 4), (t0 + 9, t0 + 9, 0, 5), (t0 + 10, t0 + 10, 0, 8)] I0 I1 ∧ dkOk I1 ∧ ((True)))) 0 0 (dkA z) := by
  refine Met.ofW (cc := cX4_stir) (maxL := 2) (ret := none) (by decide) rfl ?_
  intro p e s m args below meth c s₁ B hml hv
  obtain ⟨ha, hW, hK, hT⟩ := hv
  have hx := B.exec
  have hb := B.bytes
  have hr := B.returns
  have hts := atoms_spec (ws := wsX4_stir) B.pre
  have hown : s.vm.findClass RX4 = some m.cls := findClass_of_methodNamed B.named
  have hlocks := B.notSynchronized
  have hS : va_S (dkA z) s.heap s.heap [] := va_S.rf
  have hF : dkF [(t0, t0, 3, 3), (t0 + 3, t0 + 3, 0, 4), (t0 + 5, t0 + 5, 0, 4), (t0 + 9, t0 + 9, 0, 5), (t0 + 10, t0 + 10, 0, 8)] I0 I0 := dkF_rf _ _
  have hl := lv_entry ([.ref (z + t0)]) (n := 2) (Nat.le_of_ble_eq_true rfl)
  have hgo : entryFrame m args 2 = entryFrame m ([.ref (z + t0)] : List Value).toArray 2 := by rw [ha]
  rw [hgo, lg_entry_eq]
  generalize (lg_sl ([.ref (z + t0)]) ++ List.replicate (2 - (lg_sl ([.ref (z + t0)])).length) Slot.unset).toArray = ls at hl ⊢
  have hl : lv_has ls 2 [(0, .ref (z + t0))] := hl
  have C23 : ∀ (n : Nat), ∀ (I : dkI) (H : Heap) (locs : List Loc) (ls : Array Slot) (x23_1 : Int32), (6 - x23_1.toInt).toNat < n → dkW g z I H → va_S (dkA z) s.heap H locs → dkF [(t0, t0, 3, 3), (t0 + 3, t0 + 3, 0, 4), (t0 + 5, t0 + 5, 0, 4), (t0 + 9, t0 + 9, 0, 5), (t0 + 10, t0 + 10, 0, 8)] I0 I → dkOk I → dkN [(0, 6)] x23_1 → lv_has ls 2 [(0, .ref (z + t0)), (1, .int x23_1)] → W p l e (headSpec wsX4_stir (dkR 3)).room s m args below meth c H locs 0 0 (MQ below (dkQv g z (fun I1 => dkF [(t0, t0, 3, 3), (t0 + 3, t0 + 3, 0, 4), (t0 + 5, t0 + 5, 0, 4), (t0 + 9, t0 + 9, 0, 5), (t0 + 10, t0 + 10, 0, 8)] I0 I1 ∧ dkOk I1 ∧ ((True)))) args s 0 0 (dkA z)) (F0 m 23 ls []) := by
    intro n
    induction n with
    | zero => intro I H locs ls x23_1 hn; exact absurd hn (Nat.not_lt_zero _)
    | succ n ih23 =>
      intro I23_ H locs ls x23_1 hn23 hW hS hF_23 hO k23_0 hl
      have hF := hF_23
      have C63 : ∀ (I : dkI) (H : Heap) (locs : List Loc) (ls : Array Slot), dkW g z I H → va_S (dkA z) s.heap H locs → dkF [(t0, t0, 3, 3), (t0 + 3, t0 + 3, 0, 4), (t0 + 5, t0 + 5, 0, 4), (t0 + 9, t0 + 9, 0, 5), (t0 + 10, t0 + 10, 0, 8)] I0 I → dkOk I → dkN [(0, 5)] x23_1 → dkN [(1, 6)] (I t0 11) → lv_has ls 2 [(0, .ref (z + t0)), (1, .int x23_1)] → W p l e (headSpec wsX4_stir (dkR 3)).room s m args below meth c H locs 0 0 (MQ below (dkQv g z (fun I1 => dkF [(t0, t0, 3, 3), (t0 + 3, t0 + 3, 0, 4), (t0 + 5, t0 + 5, 0, 4), (t0 + 9, t0 + 9, 0, 5), (t0 + 10, t0 + 10, 0, 8)] I0 I1 ∧ dkOk I1 ∧ ((True)))) args s 0 0 (dkA z)) (F0 m 63 ls []) := by
        intro I63_ H locs ls hW hS hF_63 hO r63_0 f63_0 hl
        have hF := hF_63
        obtain ⟨v1, ev1⟩ : ∃ y : Int32, y = x23_1 + 1 := ⟨_, rfl⟩
        have dv1 : dkN [(1, 6)] v1 := by rw [ev1]; exact dkN_add r63_0 (dkN_lit (x := 1) (1) rfl) rfl
        refine lv_iinc (v := v1) (lv' := [(1, .int v1), (0, .ref (z + t0))]) hx hb dX4_stir_63 hl (k := 1) rfl (by rw [ev1]; rfl) (by decide) rfl (fun ls hl => ?_)
        refine lv_goto (tgt := 23) hx hb dX4_stir_66 (by decide) ?_
        exact ih23 I63_ _ _ ls v1 (dk_near hn23 (by rw [ev1]; exact dk_inc r63_0 rfl) (dkN_lt r63_0 rfl)) hW hS hF hO (dkN_sub dv1 rfl) (lv_sub hl [1, 0] rfl)
      refine lv_iload_n hx hb dX4_stir_23 rfl (lv_at hl 1 rfl) ?_
      refine lv_aload_n hx hb dX4_stir_24 rfl (lv_at hl 0 rfl) ?_
      refine dk_get (k := t0) hx hb hts iX4_stir_4 hown hK (dk_aT0 ht0 hW) rfl 11 (by decide) (hts (.fieldLink RX4 58 "DogKings$Town" "dogs" "I") (List.mem_of_getElem? (i := 2) rfl)) rfl dX4_stir_25 ?_
      refine lv_topi (fun v2 ev2 => ?_)
      have dv2 : dkN [(0, 6)] v2 := by rw [ev2]; exact (dkO_at hO ht0 (c := 0) (by decide) 11)
      refine lv_icmp_ge (tgt := 69) hx hb dX4_stir_28 (by decide) (fun c3 => ?_) (fun c3 => ?_)
      ·
        refine lv_aload_n hx hb dX4_stir_69 rfl (lv_at hl 0 rfl) ?_
        refine lv_dup hx hb dX4_stir_70 rfl ?_
        refine dk_get (k := t0) hx hb hts iX4_stir_4 hown hK (dk_aT0 ht0 hW) rfl 3 (by decide) (hts (.fieldLink RX4 52 "DogKings$Town" "minute" "I") (List.mem_of_getElem? (i := 5) rfl)) rfl dX4_stir_71 ?_
        refine lv_topi (fun v4 ev4 => ?_)
        refine lv_iconst (v := 1) hx hb dX4_stir_74 (by decide) ?_
        refine lv_iadd hx hb dX4_stir_75 ?_
        refine lv_topi (fun v5 ev5 => ?_)
        refine dk_put (k := t0) hx hb hts iX4_stir_4 tyX4 tyX4_ok nmX4 hown hK hW (dk_aT0 ht0 hW) hS rfl 3 (by decide) (hts (.fieldLink RX4 52 "DogKings$Town" "minute" "I") (List.mem_of_getElem? (i := 5) rfl)) rfl rfl (Nat.le_of_ble_eq_true rfl) (dk_eT3 ht0) dX4_stir_76 (fun I6 H6 L6 eI6 hW hS => ?_)
        have eI6 : I6 = dkU I23_ t0 3 v5 := eI6
        have hO := dkO_setT hO ht0 (c := 0) (by decide) eI6 (dkN_sub (dkN_top v5) rfl)
        have hF := dkF_set hF eI6 (dkIn_at (i := 0) rfl (Nat.le_refl _) (Nat.le_refl _) (by decide) (by decide))
        exact W.vret hx hb hr (fun t ht hW9 => ⟨⟨I6, rfl, ⟨hF, hO, trivial⟩, dkW_eq ht hW⟩, hS.F ht⟩) hS.2.2 dX4_stir_79
      ·
        have d7 : dkN [(1, 6)] v2 := dkN_le2 1 k23_0 dv2 (dkc_nle c3) rfl
        have f8 : dkN [(1, 6)] (I23_ t0 11) := by rw [← ev2]; exact d7
        have d9 : dkN [(0, 5)] x23_1 := dkN_le1 1 k23_0 dv2 (dkc_nle c3) rfl
        refine lv_aload_n hx hb dX4_stir_31 rfl (lv_at hl 0 rfl) ?_
        refine dk_get (k := t0) hx hb hts iX4_stir_4 hown hK (dk_aT0 ht0 hW) rfl 15 (by decide) (hts (.fieldLink RX4 61 "DogKings$Town" "dogsThere" "I") (List.mem_of_getElem? (i := 3) rfl)) rfl dX4_stir_32 ?_
        refine lv_topi (fun v10 ev10 => ?_)
        refine lv_iload_n hx hb dX4_stir_35 rfl (lv_at hl 1 rfl) ?_
        refine dk_SiN (As := [.int v10, .int x23_1]) (rest := []) ⟨hx, hb, hml, hown, hts⟩ (c_X5_holds_0 l g z I23_ v10 x23_1 hO) ⟨va_cnB 2 hts gX4_stir_X5_holds_n74 rfl rfl rfl (hK.2.1 (RX4, 74, yX5_holds) (by decide)) (hts (.initialized RX5) (List.mem_of_getElem? (i := 15) rfl)) (by decide +kernel) ⟨Nat.le_of_ble_eq_true rfl, Nat.le_of_ble_eq_true rfl⟩, (hts (.static yX5_holds) (List.mem_of_getElem? (i := 14) rfl)), trivial⟩ hK hT hW hS rfl hl.1 rfl (Nat.le_of_ble_eq_true rfl) dX4_stir_36 ⟨Nat.zero_le _, Nat.zero_le _⟩ (fun v11 I11 H11 L11 hp11 hW hS => ?_)
        obtain ⟨hF11, hO, hc11⟩ := hp11
        have hF := dkF_callP hF hF11 dkSub_nil
        obtain ⟨dv11, -⟩ := hc11
        refine lv_if_eq (tgt := 63) hx hb dX4_stir_39 (by decide) (fun c12 => ?_) (fun c12 => ?_)
        ·
          have d13 : dkN [(0, 0)] v11 := dkN_eq1 dv11 (dkN_lit (x := 0) (0) rfl) (congrArg Int32.toInt c12) rfl
          exact C63 I11 _ _ ls  hW hS hF hO (dkN_sub d9 rfl) (show dkN [(1, 6)] (I11 t0 11) from dkN_sub (by rw [hF11 t0 11 dkNin_nil]; exact f8) rfl) (lv_sub hl [0, 1] rfl)
        ·
          have d14 : dkN [(1, 1)] v11 := dkN_ne1 (0) dv11 (dkN_lit (x := 0) (0) rfl) (dk_ne c12) rfl
          refine lv_aload_n hx hb dX4_stir_42 rfl (lv_at hl 0 rfl) ?_
          refine dk_get (k := t0) hx hb hts iX4_stir_4 hown hK (dk_aT0 ht0 hW) rfl 16 (by decide) (hts (.fieldLink RX4 64 "DogKings$Town" "dogsAsleep" "I") (List.mem_of_getElem? (i := 4) rfl)) rfl dX4_stir_43 ?_
          refine lv_topi (fun v15 ev15 => ?_)
          refine lv_iload_n hx hb dX4_stir_46 rfl (lv_at hl 1 rfl) ?_
          refine dk_SiN (As := [.int v15, .int x23_1]) (rest := []) ⟨hx, hb, hml, hown, hts⟩ (c_X5_holds_0 l g z I11 v15 x23_1 hO) ⟨va_cnB 2 hts gX4_stir_X5_holds_n74 rfl rfl rfl (hK.2.1 (RX4, 74, yX5_holds) (by decide)) (hts (.initialized RX5) (List.mem_of_getElem? (i := 15) rfl)) (by decide +kernel) ⟨Nat.le_of_ble_eq_true rfl, Nat.le_of_ble_eq_true rfl⟩, (hts (.static yX5_holds) (List.mem_of_getElem? (i := 14) rfl)), trivial⟩ hK hT hW hS rfl hl.1 rfl (Nat.le_of_ble_eq_true rfl) dX4_stir_47 ⟨Nat.zero_le _, Nat.zero_le _⟩ (fun v16 I16 H16 L16 hp16 hW hS => ?_)
          obtain ⟨hF16, hO, hc16⟩ := hp16
          have hF := dkF_callP hF hF16 dkSub_nil
          obtain ⟨dv16, -⟩ := hc16
          refine lv_if_ne (tgt := 63) hx hb dX4_stir_50 (by decide) (fun c17 => ?_) (fun c17 => ?_)
          ·
            have d18 : dkN [(1, 1)] v16 := dkN_ne1 (0) dv16 (dkN_lit (x := 0) (0) rfl) (dk_ne c17) rfl
            exact C63 I16 _ _ ls  hW hS hF hO (dkN_sub d9 rfl) (show dkN [(1, 6)] (I16 t0 11) from dkN_sub (by rw [hF16 t0 11 dkNin_nil]; exact (by rw [hF11 t0 11 dkNin_nil]; exact f8)) rfl) (lv_sub hl [0, 1] rfl)
          ·
            have d19 : dkN [(0, 0)] v16 := dkN_eq1 dv16 (dkN_lit (x := 0) (0) rfl) (congrArg Int32.toInt c17) rfl
            refine lv_aload_n hx hb dX4_stir_53 rfl (lv_at hl 0 rfl) ?_
            refine lv_iload_n hx hb dX4_stir_54 rfl (lv_at hl 1 rfl) ?_
            refine lv_aload_n hx hb dX4_stir_55 rfl (lv_at hl 0 rfl) ?_
            refine lv_iload_n hx hb dX4_stir_56 rfl (lv_at hl 1 rfl) ?_
            refine dk_Vi (As := [.int x23_1]) (rest := [.int x23_1, .ref (z + t0)]) ⟨hx, hb, hml, hown, hts⟩ (c_X4_goal_0 l g z I16 t0 ht0 x23_1 d9 hO) (cwV 1 hts gX4_stir_X4_goal rfl rfl rfl (by decide +kernel) ⟨Nat.le_of_ble_eq_true rfl, Nat.le_of_ble_eq_true rfl⟩) (dk_aT0 ht0 hW) rfl hK hT hW hS rfl hl.1 rfl (Nat.le_of_ble_eq_true rfl) dX4_stir_57 ⟨Nat.zero_le _, Nat.zero_le _⟩ (fun v20 I20 H20 L20 hp20 hW hS => ?_)
            obtain ⟨hF20, hO, hc20⟩ := hp20
            have hF := dkF_callP hF hF20 (dkSub_cons (i := 4) rfl (Nat.le_refl _) (Nat.le_refl _) (by decide) (by decide) dkSub_nil)
            obtain ⟨_, -⟩ := hc20
            refine dk_Vv (As := [.int x23_1, .int v20]) (rest := []) ⟨hx, hb, hml, hown, hts⟩ (c_X4_trot_0 l g z I20 t0 ht0 x23_1 v20 d9 hO) (cwV 2 hts gX4_stir_X4_trot rfl rfl rfl (by decide +kernel) ⟨Nat.le_of_ble_eq_true rfl, Nat.le_of_ble_eq_true rfl⟩) (dk_aT0 ht0 hW) rfl hK hT hW hS rfl hl.1 rfl (Nat.le_of_ble_eq_true rfl) dX4_stir_60 ⟨Nat.zero_le _, Nat.zero_le _⟩ (fun I21 H21 L21 hp21 hW hS => ?_)
            obtain ⟨hF21, hO, hc21⟩ := hp21
            have hF := dkF_callP hF hF21 (dkSub_cons (i := 3) rfl (Nat.le_refl _) (Nat.le_refl _) (by decide) (by decide) dkSub_nil)
            exact C63 I21 _ _ ls  hW hS hF hO (dkN_sub d9 rfl) (show dkN [(1, 6)] (I21 t0 11) from dkN_sub (by rw [hF21 t0 11 (dkNin_n (by omega) dkNin_nil)]; exact (by rw [hF20 t0 11 (dkNin_n (by omega) dkNin_nil)]; exact (by rw [hF16 t0 11 dkNin_nil]; exact (by rw [hF11 t0 11 dkNin_nil]; exact f8)))) rfl) (lv_sub hl [0, 1] rfl)
  have C2 : ∀ (n : Nat), ∀ (I : dkI) (H : Heap) (locs : List Loc) (ls : Array Slot) (x2_1 : Int32), (5 - x2_1.toInt).toNat < n → dkW g z I H → va_S (dkA z) s.heap H locs → dkF [(t0, t0, 3, 3), (t0 + 3, t0 + 3, 0, 4), (t0 + 5, t0 + 5, 0, 4), (t0 + 9, t0 + 9, 0, 5), (t0 + 10, t0 + 10, 0, 8)] I0 I → dkOk I → dkN [(0, 5)] x2_1 → lv_has ls 2 [(0, .ref (z + t0)), (1, .int x2_1)] → W p l e (headSpec wsX4_stir (dkR 3)).room s m args below meth c H locs 0 0 (MQ below (dkQv g z (fun I1 => dkF [(t0, t0, 3, 3), (t0 + 3, t0 + 3, 0, 4), (t0 + 5, t0 + 5, 0, 4), (t0 + 9, t0 + 9, 0, 5), (t0 + 10, t0 + 10, 0, 8)] I0 I1 ∧ dkOk I1 ∧ ((True)))) args s 0 0 (dkA z)) (F0 m 2 ls []) := by
    intro n
    induction n with
    | zero => intro I H locs ls x2_1 hn; exact absurd hn (Nat.not_lt_zero _)
    | succ n ih2 =>
      intro I2_ H locs ls x2_1 hn2 hW hS hF_2 hO k2_0 hl
      have hF := hF_2
      refine lv_iload_n hx hb dX4_stir_2 rfl (lv_at hl 1 rfl) ?_
      refine lv_aload_n hx hb dX4_stir_3 rfl (lv_at hl 0 rfl) ?_
      refine dk_get (k := t0) hx hb hts iX4_stir_4 hown hK (dk_aT0 ht0 hW) rfl 4 (by decide) (hts (.fieldLink RX4 55 "DogKings$Town" "people" "I") (List.mem_of_getElem? (i := 1) rfl)) rfl dX4_stir_4 ?_
      refine lv_topi (fun v22 ev22 => ?_)
      have dv22 : dkN [(0, 5)] v22 := by rw [ev22]; exact (dkO_at hO ht0 (c := 0) (by decide) 4)
      refine lv_icmp_ge (tgt := 21) hx hb dX4_stir_7 (by decide) (fun c23 => ?_) (fun c23 => ?_)
      ·
        refine lv_iconst (v := 0) hx hb dX4_stir_21 (by decide) ?_
        refine lv_istore_n (lv' := [(1, .int 0), (0, .ref (z + t0))]) hx hb dX4_stir_22 rfl hl (by decide) rfl (fun ls hl => ?_)
        exact C23 _ I2_ _ _ ls 0 (Nat.lt_succ_self _) hW hS hF hO (dkN_sub (dkN_lit (x := 0) (0) rfl) rfl) (lv_sub hl [1, 0] rfl)
      ·
        have d24 : dkN [(1, 5)] v22 := dkN_le2 1 k2_0 dv22 (dkc_nle c23) rfl
        have f25 : dkN [(1, 5)] (I2_ t0 4) := by rw [← ev22]; exact d24
        have d26 : dkN [(0, 4)] x2_1 := dkN_le1 1 k2_0 dv22 (dkc_nle c23) rfl
        refine lv_aload_n hx hb dX4_stir_10 rfl (lv_at hl 0 rfl) ?_
        refine lv_iload_n hx hb dX4_stir_11 rfl (lv_at hl 1 rfl) ?_
        refine dk_Vv (As := [.int x2_1]) (rest := []) ⟨hx, hb, hml, hown, hts⟩ (c_X4_stroll_0 l g z I2_ t0 ht0 x2_1 d26 hO) (cwV 1 hts gX4_stir_X4_stroll rfl rfl rfl (by decide +kernel) ⟨Nat.le_of_ble_eq_true rfl, Nat.le_of_ble_eq_true rfl⟩) (dk_aT0 ht0 hW) rfl hK hT hW hS rfl hl.1 rfl (Nat.le_of_ble_eq_true rfl) dX4_stir_12 ⟨Nat.zero_le _, Nat.zero_le _⟩ (fun I27 H27 L27 hp27 hW hS => ?_)
        obtain ⟨hF27, hO, hc27⟩ := hp27
        have hF := dkF_callP hF hF27 (dkSub_cons (i := 1) rfl (Nat.le_refl _) (Nat.le_refl _) (by decide) (by decide) (dkSub_cons (i := 2) rfl (Nat.le_refl _) (Nat.le_refl _) (by decide) (by decide) dkSub_nil))
        obtain ⟨v28, ev28⟩ : ∃ y : Int32, y = x2_1 + 1 := ⟨_, rfl⟩
        have dv28 : dkN [(1, 5)] v28 := by rw [ev28]; exact dkN_add d26 (dkN_lit (x := 1) (1) rfl) rfl
        refine lv_iinc (v := v28) (lv' := [(1, .int v28), (0, .ref (z + t0))]) hx hb dX4_stir_15 hl (k := 1) rfl (by rw [ev28]; rfl) (by decide) rfl (fun ls hl => ?_)
        refine lv_goto (tgt := 2) hx hb dX4_stir_18 (by decide) ?_
        exact ih2 I27 _ _ ls v28 (dk_near hn2 (by rw [ev28]; exact dk_inc d26 rfl) (dkN_lt d26 rfl)) hW hS hF hO (dkN_sub dv28 rfl) (lv_sub hl [1, 0] rfl)
  refine lv_iconst (v := 0) hx hb dX4_stir_0 (by decide) ?_
  refine lv_istore_n (lv' := [(1, .int 0), (0, .ref (z + t0))]) hx hb dX4_stir_1 rfl hl (by decide) rfl (fun ls hl => ?_)
  exact C2 _ I0 _ _ ls 0 (Nat.lt_succ_self _) hW hS hF hO (dkN_sub (dkN_lit (x := 0) (0) rfl) rfl) (lv_sub hl [1, 0] rfl)
set_option maxHeartbeats 4000000 in
set_option maxRecDepth 100000 in
theorem c_X4_atBell_0 (l : Launch) (g : dkG) (z : Nat) (I0 : dkI) (t0 : Nat) (ht0 : dkT t0)  (hO : dkOk I0) : Met l yX4_atBell wsX4_atBell (dkR 0) (dkPc g z [.ref (z + t0)] I0) (dkQi g z (fun r I1 => dkF [] I0 I1 ∧ dkOk I1 ∧ ((dkN [(0, 0)] r ∧ dkN [(-2147483648, 29)] (I1 t0 3) ∧ True) ∨ (dkN [(1, 1)] r ∧ dkN [(0, 2147483647)] (I1 t0 3) ∧ True)))) 0 0 (dkA z) := by
  refine Met.ofW (cc := cX4_atBell) (maxL := 1) (ret := (some .boolean)) (by decide) rfl ?_
  intro p e s m args below meth c s₁ B hml hv
  obtain ⟨ha, hW, hK, hT⟩ := hv
  have hx := B.exec
  have hb := B.bytes
  have hr := B.returns
  have hts := atoms_spec (ws := wsX4_atBell) B.pre
  have hown : s.vm.findClass RX4 = some m.cls := findClass_of_methodNamed B.named
  have hlocks := B.notSynchronized
  have hS : va_S (dkA z) s.heap s.heap [] := va_S.rf
  have hF : dkF [] I0 I0 := dkF_rf _ _
  have hl := lv_entry ([.ref (z + t0)]) (n := 1) (Nat.le_of_ble_eq_true rfl)
  have hgo : entryFrame m args 1 = entryFrame m ([.ref (z + t0)] : List Value).toArray 1 := by rw [ha]
  rw [hgo, lg_entry_eq]
  generalize (lg_sl ([.ref (z + t0)]) ++ List.replicate (1 - (lg_sl ([.ref (z + t0)])).length) Slot.unset).toArray = ls at hl ⊢
  have hl : lv_has ls 1 [(0, .ref (z + t0))] := hl
  refine lv_aload_n hx hb dX4_atBell_0 rfl (lv_at hl 0 rfl) ?_
  refine dk_get (k := t0) hx hb hts iX4_atBell_4 hown hK (dk_aT0 ht0 hW) rfl 3 (by decide) (hts (.fieldLink RX4 52 "DogKings$Town" "minute" "I") (List.mem_of_getElem? (i := 1) rfl)) rfl dX4_atBell_1 ?_
  refine lv_topi (fun v1 ev1 => ?_)
  refine lv_aload_n hx hb dX4_atBell_4 rfl (lv_at hl 0 rfl) ?_
  refine dk_get (k := t0) hx hb hts iX4_atBell_4 hown hK (dk_aT0 ht0 hW) rfl 1 (by decide) (hts (.fieldLink RX4 46 "DogKings$Town" "fridayLasts" "I") (List.mem_of_getElem? (i := 2) rfl)) rfl dX4_atBell_5 ?_
  refine lv_topi (fun v2 ev2 => ?_)
  have dv2 : dkN [(0, 30)] v2 := by rw [ev2]; exact (dkO_at hO ht0 (c := 0) (by decide) 1)
  refine lv_icmp_lt (tgt := 15) hx hb dX4_atBell_8 (by decide) (fun c3 => ?_) (fun c3 => ?_)
  ·
    have d4 : dkN [(-2147483648, 29)] v1 := dkN_le1 1 (dkN_top v1) dv2 (dkc_lt c3) rfl
    have f5 : dkN [(-2147483648, 29)] (I0 t0 3) := by rw [← ev1]; exact d4
    refine lv_iconst (v := 0) hx hb dX4_atBell_15 (by decide) ?_
    exact W.zret (v := 0) (ty := .boolean) hx hb hr rfl (fun t ht hW9 => ⟨⟨0, I0, rfl, ⟨hF, hO, Or.inl ⟨dkN_sub (dkN_lit (x := 0) (0) rfl) rfl, (show dkN [(-2147483648, 29)] (I0 t0 3) from dkN_sub f5 rfl), trivial⟩⟩, dkW_eq ht hW⟩, hS.F ht⟩) hS.2.2 dX4_atBell_16
  ·
    have d6 : dkN [(0, 2147483647)] v1 := dkN_le2 0 dv2 (dkN_top v1) (dkc_nlt c3) rfl
    have f7 : dkN [(0, 2147483647)] (I0 t0 3) := by rw [← ev1]; exact d6
    refine lv_iconst (v := 1) hx hb dX4_atBell_11 (by decide) ?_
    refine lv_goto (tgt := 16) hx hb dX4_atBell_12 (by decide) ?_
    exact W.zret (v := 1) (ty := .boolean) hx hb hr rfl (fun t ht hW9 => ⟨⟨1, I0, rfl, ⟨hF, hO, Or.inr (⟨dkN_sub (dkN_lit (x := 1) (1) rfl) rfl, (show dkN [(0, 2147483647)] (I0 t0 3) from dkN_sub f7 rfl), trivial⟩)⟩, dkW_eq ht hW⟩, hS.F ht⟩) hS.2.2 dX4_atBell_16
set_option maxHeartbeats 4000000 in
set_option maxRecDepth 100000 in
theorem c_X4_dogsIn_0 (l : Launch) (g : dkG) (z : Nat) (I0 : dkI) (t0 : Nat) (ht0 : dkT t0) (p0 : Int32)  (hO : dkOk I0) : Met l yX4_dogsIn wsX4_dogsIn (dkR 1) (dkPc g z [.ref (z + t0), .int p0] I0) (dkQi g z (fun r I1 => dkF [] I0 I1 ∧ dkOk I1 ∧ ((True ∧ True)))) 0 0 (dkA z) := by
  refine Met.ofW (cc := cX4_dogsIn) (maxL := 4) (ret := (some .int)) (by decide) rfl ?_
  intro p e s m args below meth c s₁ B hml hv
  obtain ⟨ha, hW, hK, hT⟩ := hv
  have hx := B.exec
  have hb := B.bytes
  have hr := B.returns
  have hts := atoms_spec (ws := wsX4_dogsIn) B.pre
  have hown : s.vm.findClass RX4 = some m.cls := findClass_of_methodNamed B.named
  have hlocks := B.notSynchronized
  have hS : va_S (dkA z) s.heap s.heap [] := va_S.rf
  have hF : dkF [] I0 I0 := dkF_rf _ _
  have hl := lv_entry ([.ref (z + t0), .int p0]) (n := 4) (Nat.le_of_ble_eq_true rfl)
  have hgo : entryFrame m args 4 = entryFrame m ([.ref (z + t0), .int p0] : List Value).toArray 4 := by rw [ha]
  rw [hgo, lg_entry_eq]
  generalize (lg_sl ([.ref (z + t0), .int p0]) ++ List.replicate (4 - (lg_sl ([.ref (z + t0), .int p0])).length) Slot.unset).toArray = ls at hl ⊢
  have hl : lv_has ls 4 [(0, .ref (z + t0)), (1, .int p0)] := hl
  have C4 : ∀ (n : Nat), ∀ (I : dkI) (H : Heap) (locs : List Loc) (ls : Array Slot) (x4_2 : Int32) (x4_3 : Int32), (6 - x4_3.toInt).toNat < n → dkW g z I H → va_S (dkA z) s.heap H locs → dkF [] I0 I → dkOk I → dkN [(0, 6)] x4_3 → lv_has ls 4 [(0, .ref (z + t0)), (1, .int p0), (2, .int x4_2), (3, .int x4_3)] → W p l e (headSpec wsX4_dogsIn (dkR 1)).room s m args below meth c H locs 0 0 (MQ below (dkQi g z (fun r I1 => dkF [] I0 I1 ∧ dkOk I1 ∧ ((True ∧ True)))) args s 0 0 (dkA z)) (F0 m 4 ls []) := by
    intro n
    induction n with
    | zero => intro I H locs ls x4_2 x4_3 hn; exact absurd hn (Nat.not_lt_zero _)
    | succ n ih4 =>
      intro I4_ H locs ls x4_2 x4_3 hn4 hW hS hF_4 hO k4_1 hl
      have hF := hF_4
      have C39 : ∀ (I : dkI) (H : Heap) (locs : List Loc) (ls : Array Slot) (x39_2 : Int32), dkW g z I H → va_S (dkA z) s.heap H locs → dkF [] I0 I → dkOk I → dkN [(0, 5)] x4_3 → dkN [(1, 6)] (I t0 11) → lv_has ls 4 [(0, .ref (z + t0)), (1, .int p0), (2, .int x39_2), (3, .int x4_3)] → W p l e (headSpec wsX4_dogsIn (dkR 1)).room s m args below meth c H locs 0 0 (MQ below (dkQi g z (fun r I1 => dkF [] I0 I1 ∧ dkOk I1 ∧ ((True ∧ True)))) args s 0 0 (dkA z)) (F0 m 39 ls []) := by
        intro I39_ H locs ls x39_2 hW hS hF_39 hO r39_0 f39_0 hl
        have hF := hF_39
        obtain ⟨v1, ev1⟩ : ∃ y : Int32, y = x4_3 + 1 := ⟨_, rfl⟩
        have dv1 : dkN [(1, 6)] v1 := by rw [ev1]; exact dkN_add r39_0 (dkN_lit (x := 1) (1) rfl) rfl
        refine lv_iinc (v := v1) (lv' := [(3, .int v1), (0, .ref (z + t0)), (1, .int p0), (2, .int x39_2)]) hx hb dX4_dogsIn_39 hl (k := 3) rfl (by rw [ev1]; rfl) (by decide) rfl (fun ls hl => ?_)
        refine lv_goto (tgt := 4) hx hb dX4_dogsIn_42 (by decide) ?_
        exact ih4 I39_ _ _ ls x39_2 v1 (dk_near hn4 (by rw [ev1]; exact dk_inc r39_0 rfl) (dkN_lt r39_0 rfl)) hW hS hF hO (dkN_sub dv1 rfl) (lv_sub hl [1, 2, 3, 0] rfl)
      refine lv_iload_n hx hb dX4_dogsIn_4 rfl (lv_at hl 3 rfl) ?_
      refine lv_aload_n hx hb dX4_dogsIn_5 rfl (lv_at hl 0 rfl) ?_
      refine dk_get (k := t0) hx hb hts iX4_dogsIn_4 hown hK (dk_aT0 ht0 hW) rfl 11 (by decide) (hts (.fieldLink RX4 58 "DogKings$Town" "dogs" "I") (List.mem_of_getElem? (i := 1) rfl)) rfl dX4_dogsIn_6 ?_
      refine lv_topi (fun v2 ev2 => ?_)
      have dv2 : dkN [(0, 6)] v2 := by rw [ev2]; exact (dkO_at hO ht0 (c := 0) (by decide) 11)
      refine lv_icmp_ge (tgt := 45) hx hb dX4_dogsIn_9 (by decide) (fun c3 => ?_) (fun c3 => ?_)
      ·
        refine lv_iload_n hx hb dX4_dogsIn_45 rfl (lv_at hl 2 rfl) ?_
        exact W.iret (v := x4_2) hx hb hr (fun t ht hW9 => ⟨⟨x4_2, I4_, rfl, ⟨hF, hO, ⟨trivial, trivial⟩⟩, dkW_eq ht hW⟩, hS.F ht⟩) hS.2.2 dX4_dogsIn_46
      ·
        have d4 : dkN [(1, 6)] v2 := dkN_le2 1 k4_1 dv2 (dkc_nle c3) rfl
        have f5 : dkN [(1, 6)] (I4_ t0 11) := by rw [← ev2]; exact d4
        have d6 : dkN [(0, 5)] x4_3 := dkN_le1 1 k4_1 dv2 (dkc_nle c3) rfl
        refine lv_aload_n hx hb dX4_dogsIn_12 rfl (lv_at hl 0 rfl) ?_
        refine dk_get (k := t0) hx hb hts iX4_dogsIn_4 hown hK (dk_aT0 ht0 hW) rfl 15 (by decide) (hts (.fieldLink RX4 61 "DogKings$Town" "dogsThere" "I") (List.mem_of_getElem? (i := 2) rfl)) rfl dX4_dogsIn_13 ?_
        refine lv_topi (fun v7 ev7 => ?_)
        refine lv_iload_n hx hb dX4_dogsIn_16 rfl (lv_at hl 3 rfl) ?_
        refine dk_SiN (As := [.int v7, .int x4_3]) (rest := []) ⟨hx, hb, hml, hown, hts⟩ (c_X5_holds_0 l g z I4_ v7 x4_3 hO) ⟨va_cnB 2 hts gX4_dogsIn_X5_holds_n74 rfl rfl rfl (hK.2.1 (RX4, 74, yX5_holds) (by decide)) (hts (.initialized RX5) (List.mem_of_getElem? (i := 5) rfl)) (by decide +kernel) ⟨Nat.le_of_ble_eq_true rfl, Nat.le_of_ble_eq_true rfl⟩, (hts (.static yX5_holds) (List.mem_of_getElem? (i := 4) rfl)), trivial⟩ hK hT hW hS rfl hl.1 rfl (Nat.le_of_ble_eq_true rfl) dX4_dogsIn_17 ⟨Nat.zero_le _, Nat.zero_le _⟩ (fun v8 I8 H8 L8 hp8 hW hS => ?_)
        obtain ⟨hF8, hO, hc8⟩ := hp8
        have hF := dkF_call hF hF8 rfl
        obtain ⟨dv8, -⟩ := hc8
        refine lv_if_eq (tgt := 39) hx hb dX4_dogsIn_20 (by decide) (fun c9 => ?_) (fun c9 => ?_)
        ·
          have d10 : dkN [(0, 0)] v8 := dkN_eq1 dv8 (dkN_lit (x := 0) (0) rfl) (congrArg Int32.toInt c9) rfl
          exact C39 I8 _ _ ls x4_2 hW hS hF hO (dkN_sub d6 rfl) (show dkN [(1, 6)] (I8 t0 11) from dkN_sub (by rw [hF8 t0 11 dkNin_nil]; exact f5) rfl) (lv_sub hl [0, 1, 2, 3] rfl)
        ·
          have d11 : dkN [(1, 1)] v8 := dkN_ne1 (0) dv8 (dkN_lit (x := 0) (0) rfl) (dk_ne c9) rfl
          refine lv_aload_n hx hb dX4_dogsIn_23 rfl (lv_at hl 0 rfl) ?_
          refine dk_get (k := t0) hx hb hts iX4_dogsIn_4 hown hK (dk_aT0 ht0 hW) rfl 14 (by decide) (hts (.fieldLink RX4 36 "DogKings$Town" "dogAt" "[I") (List.mem_of_getElem? (i := 3) rfl)) rfl dX4_dogsIn_24 ?_
          refine lv_iload_n hx hb dX4_dogsIn_27 rfl (lv_at hl 3 rfl) ?_
          refine dk_ild (k := (t0 + 9)) hx hb hK (dk_aT9 ht0 hW) (dkN_in (n := 6) d6 rfl) dX4_dogsIn_28 ?_
          refine lv_topi (fun v12 ev12 => ?_)
          refine lv_iload_n hx hb dX4_dogsIn_29 rfl (lv_at hl 1 rfl) ?_
          refine lv_icmp_ne (tgt := 39) hx hb dX4_dogsIn_30 (by decide) (fun c13 => ?_) (fun c13 => ?_)
          ·
            exact C39 I8 _ _ ls x4_2 hW hS hF hO (dkN_sub d6 rfl) (show dkN [(1, 6)] (I8 t0 11) from dkN_sub (by rw [hF8 t0 11 dkNin_nil]; exact f5) rfl) (lv_sub hl [0, 1, 2, 3] rfl)
          ·
            refine lv_iload_n hx hb dX4_dogsIn_33 rfl (lv_at hl 2 rfl) ?_
            refine lv_iconst (v := 1) hx hb dX4_dogsIn_34 (by decide) ?_
            refine lv_iload_n hx hb dX4_dogsIn_35 rfl (lv_at hl 3 rfl) ?_
            refine lv_ishl hx hb dX4_dogsIn_36 ?_
            refine lv_topi (fun v14 ev14 => ?_)
            have dv14 : dkN [(1, 32)] v14 := by rw [ev14]; exact dkN_shl1 0 5 (by decide) d6 rfl
            refine lv_ior hx hb dX4_dogsIn_37 ?_
            refine lv_topi (fun v15 ev15 => ?_)
            refine lv_istore_n (lv' := [(2, .int v15), (0, .ref (z + t0)), (1, .int p0), (3, .int x4_3)]) hx hb dX4_dogsIn_38 rfl hl (by decide) rfl (fun ls hl => ?_)
            exact C39 I8 _ _ ls v15 hW hS hF hO (dkN_sub d6 rfl) (show dkN [(1, 6)] (I8 t0 11) from dkN_sub (by rw [hF8 t0 11 dkNin_nil]; exact f5) rfl) (lv_sub hl [1, 2, 0, 3] rfl)
  refine lv_iconst (v := 0) hx hb dX4_dogsIn_0 (by decide) ?_
  refine lv_istore_n (lv' := [(2, .int 0), (0, .ref (z + t0)), (1, .int p0)]) hx hb dX4_dogsIn_1 rfl hl (by decide) rfl (fun ls hl => ?_)
  refine lv_iconst (v := 0) hx hb dX4_dogsIn_2 (by decide) ?_
  refine lv_istore_n (lv' := [(3, .int 0), (2, .int 0), (0, .ref (z + t0)), (1, .int p0)]) hx hb dX4_dogsIn_3 rfl hl (by decide) rfl (fun ls hl => ?_)
  exact C4 _ I0 _ _ ls 0 0 (Nat.lt_succ_self _) hW hS hF hO (dkN_sub (dkN_lit (x := 0) (0) rfl) rfl) (lv_sub hl [2, 3, 1, 0] rfl)
set_option maxHeartbeats 4000000 in
set_option maxRecDepth 100000 in
theorem c_J6_bitCount_0f7a4_0 (l : Launch) (g : dkG) (z : Nat) (I0 : dkI) (p0 : Int32)  (hO : dkOk I0) : Met l yJ6_bitCount_0f7a4 wsJ6_bitCount_0f7a4 (dkR 0) (dkPc g z [.int p0] I0) (dkQi g z (fun r I1 => dkF [] I0 I1 ∧ dkOk I1 ∧ ((dkN [(0, 63)] r ∧ True)))) 0 0 (dkA z) := by
  refine Met.ofW (cc := cJ6_bitCount_0f7a4) (maxL := 1) (ret := (some .int)) (by decide) rfl ?_
  intro p e s m args below meth c s₁ B hml hv
  obtain ⟨ha, hW, hK, hT⟩ := hv
  have hx := B.exec
  have hb := B.bytes
  have hr := B.returns
  have hts := atoms_spec (ws := wsJ6_bitCount_0f7a4) B.pre
  have hown : s.vm.findClass RJ6 = some m.cls := findClass_of_methodNamed B.named
  have hlocks := B.notSynchronized
  have hS : va_S (dkA z) s.heap s.heap [] := va_S.rf
  have hF : dkF [] I0 I0 := dkF_rf _ _
  have hl := lv_entry ([.int p0]) (n := 1) (Nat.le_of_ble_eq_true rfl)
  have hgo : entryFrame m args 1 = entryFrame m ([.int p0] : List Value).toArray 1 := by rw [ha]
  rw [hgo, lg_entry_eq]
  generalize (lg_sl ([.int p0]) ++ List.replicate (1 - (lg_sl ([.int p0])).length) Slot.unset).toArray = ls at hl ⊢
  have hl : lv_has ls 1 [(0, .int p0)] := hl
  refine lv_iload_n hx hb dJ6_bitCount_0f7a4_0 rfl (lv_at hl 0 rfl) ?_
  refine lv_iload_n hx hb dJ6_bitCount_0f7a4_1 rfl (lv_at hl 0 rfl) ?_
  refine lv_iconst (v := 1) hx hb dJ6_bitCount_0f7a4_2 (by decide) ?_
  refine lv_iushr hx hb dJ6_bitCount_0f7a4_3 rfl ?_
  refine lv_topi (fun v1 ev1 => ?_)
  refine lv_ldcw (v := 1431655765) hx hb hown (hts (.constant RJ6 265 (1431655765)) (List.mem_of_getElem? (i := 1) rfl)) dJ6_bitCount_0f7a4_4 ?_
  refine lv_iand hx hb dJ6_bitCount_0f7a4_7 ?_
  refine lv_topi (fun v2 ev2 => ?_)
  have dv2 : dkN [(0, 1431655765)] v2 := by rw [ev2]; exact dkN_and (dkN_lit (x := 1431655765) (1431655765) rfl) rfl
  refine lv_isub hx hb dJ6_bitCount_0f7a4_8 ?_
  refine lv_topi (fun v3 ev3 => ?_)
  refine lv_istore_n (lv' := [(0, .int v3)]) hx hb dJ6_bitCount_0f7a4_9 rfl hl (by decide) rfl (fun ls hl => ?_)
  refine lv_iload_n hx hb dJ6_bitCount_0f7a4_10 rfl (lv_at hl 0 rfl) ?_
  refine lv_ldcw (v := 858993459) hx hb hown (hts (.constant RJ6 266 (858993459)) (List.mem_of_getElem? (i := 2) rfl)) dJ6_bitCount_0f7a4_11 ?_
  refine lv_iand hx hb dJ6_bitCount_0f7a4_14 ?_
  refine lv_topi (fun v4 ev4 => ?_)
  have dv4 : dkN [(0, 858993459)] v4 := by rw [ev4]; exact dkN_and (dkN_lit (x := 858993459) (858993459) rfl) rfl
  refine lv_iload_n hx hb dJ6_bitCount_0f7a4_15 rfl (lv_at hl 0 rfl) ?_
  refine lv_iconst (v := 2) hx hb dJ6_bitCount_0f7a4_16 (by decide) ?_
  refine lv_iushr hx hb dJ6_bitCount_0f7a4_17 rfl ?_
  refine lv_topi (fun v5 ev5 => ?_)
  refine lv_ldcw (v := 858993459) hx hb hown (hts (.constant RJ6 266 (858993459)) (List.mem_of_getElem? (i := 2) rfl)) dJ6_bitCount_0f7a4_18 ?_
  refine lv_iand hx hb dJ6_bitCount_0f7a4_21 ?_
  refine lv_topi (fun v6 ev6 => ?_)
  have dv6 : dkN [(0, 858993459)] v6 := by rw [ev6]; exact dkN_and (dkN_lit (x := 858993459) (858993459) rfl) rfl
  refine lv_iadd hx hb dJ6_bitCount_0f7a4_22 ?_
  refine lv_topi (fun v7 ev7 => ?_)
  have dv7 : dkN [(0, 1717986918)] v7 := by rw [ev7]; exact dkN_add dv4 dv6 rfl
  refine lv_istore_n (lv' := [(0, .int v7)]) hx hb dJ6_bitCount_0f7a4_23 rfl hl (by decide) rfl (fun ls hl => ?_)
  refine lv_iload_n hx hb dJ6_bitCount_0f7a4_24 rfl (lv_at hl 0 rfl) ?_
  refine lv_iload_n hx hb dJ6_bitCount_0f7a4_25 rfl (lv_at hl 0 rfl) ?_
  refine lv_iconst (v := 4) hx hb dJ6_bitCount_0f7a4_26 (by decide) ?_
  refine lv_iushr hx hb dJ6_bitCount_0f7a4_27 rfl ?_
  refine lv_topi (fun v8 ev8 => ?_)
  refine lv_iadd hx hb dJ6_bitCount_0f7a4_28 ?_
  refine lv_topi (fun v9 ev9 => ?_)
  refine lv_ldcw (v := 252645135) hx hb hown (hts (.constant RJ6 267 (252645135)) (List.mem_of_getElem? (i := 3) rfl)) dJ6_bitCount_0f7a4_29 ?_
  refine lv_iand hx hb dJ6_bitCount_0f7a4_32 ?_
  refine lv_topi (fun v10 ev10 => ?_)
  have dv10 : dkN [(0, 252645135)] v10 := by rw [ev10]; exact dkN_and (dkN_lit (x := 252645135) (252645135) rfl) rfl
  refine lv_istore_n (lv' := [(0, .int v10)]) hx hb dJ6_bitCount_0f7a4_33 rfl hl (by decide) rfl (fun ls hl => ?_)
  refine lv_iload_n hx hb dJ6_bitCount_0f7a4_34 rfl (lv_at hl 0 rfl) ?_
  refine lv_iload_n hx hb dJ6_bitCount_0f7a4_35 rfl (lv_at hl 0 rfl) ?_
  refine lv_bipush (v := 8) hx hb dJ6_bitCount_0f7a4_36 (by decide) ?_
  refine lv_iushr hx hb dJ6_bitCount_0f7a4_38 rfl ?_
  refine lv_topi (fun v11 ev11 => ?_)
  refine lv_iadd hx hb dJ6_bitCount_0f7a4_39 ?_
  refine lv_topi (fun v12 ev12 => ?_)
  refine lv_istore_n (lv' := [(0, .int v12)]) hx hb dJ6_bitCount_0f7a4_40 rfl hl (by decide) rfl (fun ls hl => ?_)
  refine lv_iload_n hx hb dJ6_bitCount_0f7a4_41 rfl (lv_at hl 0 rfl) ?_
  refine lv_iload_n hx hb dJ6_bitCount_0f7a4_42 rfl (lv_at hl 0 rfl) ?_
  refine lv_bipush (v := 16) hx hb dJ6_bitCount_0f7a4_43 (by decide) ?_
  refine lv_iushr hx hb dJ6_bitCount_0f7a4_45 rfl ?_
  refine lv_topi (fun v13 ev13 => ?_)
  refine lv_iadd hx hb dJ6_bitCount_0f7a4_46 ?_
  refine lv_topi (fun v14 ev14 => ?_)
  refine lv_istore_n (lv' := [(0, .int v14)]) hx hb dJ6_bitCount_0f7a4_47 rfl hl (by decide) rfl (fun ls hl => ?_)
  refine lv_iload_n hx hb dJ6_bitCount_0f7a4_48 rfl (lv_at hl 0 rfl) ?_
  refine lv_bipush (v := 63) hx hb dJ6_bitCount_0f7a4_49 (by decide) ?_
  refine lv_iand hx hb dJ6_bitCount_0f7a4_51 ?_
  refine lv_topi (fun v15 ev15 => ?_)
  have dv15 : dkN [(0, 63)] v15 := by rw [ev15]; exact dkN_and (dkN_lit (x := 63) (63) rfl) rfl
  exact W.iret (v := v15) hx hb hr (fun t ht hW9 => ⟨⟨v15, I0, rfl, ⟨hF, hO, ⟨dkN_sub dv15 rfl, trivial⟩⟩, dkW_eq ht hW⟩, hS.F ht⟩) hS.2.2 dJ6_bitCount_0f7a4_52
set_option maxHeartbeats 4000000 in
set_option maxRecDepth 100000 in
theorem c_X4_kingAtBell_0 (l : Launch) (g : dkG) (z : Nat) (I0 : dkI) (t0 : Nat) (ht0 : dkT t0)  (hO : dkOk I0) : Met l yX4_kingAtBell wsX4_kingAtBell (dkR 2) (dkPc g z [.ref (z + t0)] I0) (dkQi g z (fun r I1 => dkF [] I0 I1 ∧ dkOk I1 ∧ ((dkN [(-1000000, -1000000), (0, 4)] r ∧ True)))) 0 0 (dkA z) := by
  refine Met.ofW (cc := cX4_kingAtBell) (maxL := 5) (ret := (some .int)) (by decide) rfl ?_
  intro p e s m args below meth c s₁ B hml hv
  obtain ⟨ha, hW, hK, hT⟩ := hv
  have hx := B.exec
  have hb := B.bytes
  have hr := B.returns
  have hts := atoms_spec (ws := wsX4_kingAtBell) B.pre
  have hown : s.vm.findClass RX4 = some m.cls := findClass_of_methodNamed B.named
  have hlocks := B.notSynchronized
  have hS : va_S (dkA z) s.heap s.heap [] := va_S.rf
  have hF : dkF [] I0 I0 := dkF_rf _ _
  have hl := lv_entry ([.ref (z + t0)]) (n := 5) (Nat.le_of_ble_eq_true rfl)
  have hgo : entryFrame m args 5 = entryFrame m ([.ref (z + t0)] : List Value).toArray 5 := by rw [ha]
  rw [hgo, lg_entry_eq]
  generalize (lg_sl ([.ref (z + t0)]) ++ List.replicate (5 - (lg_sl ([.ref (z + t0)])).length) Slot.unset).toArray = ls at hl ⊢
  have hl : lv_has ls 5 [(0, .ref (z + t0))] := hl
  have C7 : ∀ (n : Nat), ∀ (I : dkI) (H : Heap) (locs : List Loc) (ls : Array Slot) (x7_1 : Int32) (x7_2 : Int32) (x7_3 : Int32), (5 - x7_3.toInt).toNat < n → dkW g z I H → va_S (dkA z) s.heap H locs → dkF [] I0 I → dkOk I → dkN [(-1000000, -1000000), (0, 4)] x7_1 → dkN [(0, 63)] x7_2 → dkN [(0, 5)] x7_3 → lv_has ls 5 [(0, .ref (z + t0)), (1, .int x7_1), (2, .int x7_2), (3, .int x7_3)] → W p l e (headSpec wsX4_kingAtBell (dkR 2)).room s m args below meth c H locs 0 0 (MQ below (dkQi g z (fun r I1 => dkF [] I0 I1 ∧ dkOk I1 ∧ ((dkN [(-1000000, -1000000), (0, 4)] r ∧ True)))) args s 0 0 (dkA z)) (F0 m 7 ls []) := by
    intro n
    induction n with
    | zero => intro I H locs ls x7_1 x7_2 x7_3 hn; exact absurd hn (Nat.not_lt_zero _)
    | succ n ih7 =>
      intro I7_ H locs ls x7_1 x7_2 x7_3 hn7 hW hS hF_7 hO k7_0 k7_1 k7_2 hl
      have hF := hF_7
      have C41 : ∀ (I : dkI) (H : Heap) (locs : List Loc) (ls : Array Slot) (x41_1 : Int32) (x41_2 : Int32) (x41_4 : Int32), dkW g z I H → va_S (dkA z) s.heap H locs → dkF [] I0 I → dkOk I → dkN [(-1000000, -1000000), (0, 4)] x41_1 → dkN [(0, 63)] x41_2 → dkN [(0, 63)] x41_4 → dkN [(0, 4)] x7_3 → dkN [(1, 5)] (I t0 4) → lv_has ls 5 [(0, .ref (z + t0)), (1, .int x41_1), (2, .int x41_2), (3, .int x7_3), (4, .int x41_4)] → W p l e (headSpec wsX4_kingAtBell (dkR 2)).room s m args below meth c H locs 0 0 (MQ below (dkQi g z (fun r I1 => dkF [] I0 I1 ∧ dkOk I1 ∧ ((dkN [(-1000000, -1000000), (0, 4)] r ∧ True)))) args s 0 0 (dkA z)) (F0 m 41 ls []) := by
        intro I41_ H locs ls x41_1 x41_2 x41_4 hW hS hF_41 hO k41_0 k41_1 k41_2 r41_0 f41_0 hl
        have hF := hF_41
        obtain ⟨v1, ev1⟩ : ∃ y : Int32, y = x7_3 + 1 := ⟨_, rfl⟩
        have dv1 : dkN [(1, 5)] v1 := by rw [ev1]; exact dkN_add r41_0 (dkN_lit (x := 1) (1) rfl) rfl
        refine lv_iinc (v := v1) (lv' := [(3, .int v1), (0, .ref (z + t0)), (1, .int x41_1), (2, .int x41_2), (4, .int x41_4)]) hx hb dX4_kingAtBell_41 hl (k := 3) rfl (by rw [ev1]; rfl) (by decide) rfl (fun ls hl => ?_)
        refine lv_goto (tgt := 7) hx hb dX4_kingAtBell_44 (by decide) ?_
        exact ih7 I41_ _ _ ls x41_1 x41_2 v1 (dk_near hn7 (by rw [ev1]; exact dk_inc r41_0 rfl) (dkN_lt r41_0 rfl)) hW hS hF hO (dkN_sub k41_0 rfl) (dkN_sub k41_1 rfl) (dkN_sub dv1 rfl) (lv_sub hl [1, 2, 3, 0] rfl)
      refine lv_iload_n hx hb dX4_kingAtBell_7 rfl (lv_at hl 3 rfl) ?_
      refine lv_aload_n hx hb dX4_kingAtBell_8 rfl (lv_at hl 0 rfl) ?_
      refine dk_get (k := t0) hx hb hts iX4_kingAtBell_4 hown hK (dk_aT0 ht0 hW) rfl 4 (by decide) (hts (.fieldLink RX4 55 "DogKings$Town" "people" "I") (List.mem_of_getElem? (i := 2) rfl)) rfl dX4_kingAtBell_9 ?_
      refine lv_topi (fun v2 ev2 => ?_)
      have dv2 : dkN [(0, 5)] v2 := by rw [ev2]; exact (dkO_at hO ht0 (c := 0) (by decide) 4)
      refine lv_icmp_ge (tgt := 47) hx hb dX4_kingAtBell_12 (by decide) (fun c3 => ?_) (fun c3 => ?_)
      ·
        refine lv_iload_n hx hb dX4_kingAtBell_47 rfl (lv_at hl 1 rfl) ?_
        exact W.iret (v := x7_1) hx hb hr (fun t ht hW9 => ⟨⟨x7_1, I7_, rfl, ⟨hF, hO, ⟨dkN_sub k7_0 rfl, trivial⟩⟩, dkW_eq ht hW⟩, hS.F ht⟩) hS.2.2 dX4_kingAtBell_48
      ·
        have d4 : dkN [(1, 5)] v2 := dkN_le2 1 k7_2 dv2 (dkc_nle c3) rfl
        have f5 : dkN [(1, 5)] (I7_ t0 4) := by rw [← ev2]; exact d4
        have d6 : dkN [(0, 4)] x7_3 := dkN_le1 1 k7_2 dv2 (dkc_nle c3) rfl
        refine lv_aload_n hx hb dX4_kingAtBell_15 rfl (lv_at hl 0 rfl) ?_
        refine lv_aload_n hx hb dX4_kingAtBell_16 rfl (lv_at hl 0 rfl) ?_
        refine dk_get (k := t0) hx hb hts iX4_kingAtBell_4 hown hK (dk_aT0 ht0 hW) rfl 7 (by decide) (hts (.fieldLink RX4 18 "DogKings$Town" "personAt" "[I") (List.mem_of_getElem? (i := 3) rfl)) rfl dX4_kingAtBell_17 ?_
        refine lv_iload_n hx hb dX4_kingAtBell_20 rfl (lv_at hl 3 rfl) ?_
        refine dk_ild (k := (t0 + 3)) hx hb hK (dk_aT3 ht0 hW) (dkN_in (n := 5) d6 rfl) dX4_kingAtBell_21 ?_
        refine lv_topi (fun v7 ev7 => ?_)
        refine dk_Vi (As := [.int v7]) (rest := []) ⟨hx, hb, hml, hown, hts⟩ (c_X4_dogsIn_0 l g z I7_ t0 ht0 v7 hO) (cwV 1 hts gX4_kingAtBell_X4_dogsIn rfl rfl rfl (by decide +kernel) ⟨Nat.le_of_ble_eq_true rfl, Nat.le_of_ble_eq_true rfl⟩) (dk_aT0 ht0 hW) rfl hK hT hW hS rfl hl.1 rfl (Nat.le_of_ble_eq_true rfl) dX4_kingAtBell_22 ⟨Nat.zero_le _, Nat.zero_le _⟩ (fun v8 I8 H8 L8 hp8 hW hS => ?_)
        obtain ⟨hF8, hO, hc8⟩ := hp8
        have hF := dkF_call hF hF8 rfl
        obtain ⟨_, -⟩ := hc8
        refine dk_Si (As := [.int v8]) (rest := []) ⟨hx, hb, hml, hown, hts⟩ (c_J6_bitCount_0f7a4_0 l g z I8 v8 hO) (va_cwS 1 hts gX4_kingAtBell_J6_bitCount_0f7a4 rfl rfl rfl (by decide +kernel) ⟨Nat.le_of_ble_eq_true rfl, Nat.le_of_ble_eq_true rfl⟩) hK hT hW hS rfl hl.1 rfl (Nat.le_of_ble_eq_true rfl) dX4_kingAtBell_25 ⟨Nat.zero_le _, Nat.zero_le _⟩ (fun v9 I9 H9 L9 hp9 hW hS => ?_)
        obtain ⟨hF9, hO, hc9⟩ := hp9
        have hF := dkF_call hF hF9 rfl
        obtain ⟨dv9, -⟩ := hc9
        refine lv_istore (lv' := [(4, .int v9), (0, .ref (z + t0)), (1, .int x7_1), (2, .int x7_2), (3, .int x7_3)]) hx hb dX4_kingAtBell_28 hl (by decide) rfl (fun ls hl => ?_)
        refine lv_iload hx hb dX4_kingAtBell_30 (lv_at hl 0 rfl) ?_
        refine lv_iload_n hx hb dX4_kingAtBell_32 rfl (lv_at hl 3 rfl) ?_
        refine lv_icmp_le (tgt := 41) hx hb dX4_kingAtBell_33 (by decide) (fun c10 => ?_) (fun c10 => ?_)
        ·
          exact C41 I9 _ _ ls x7_1 x7_2 v9 hW hS hF hO (dkN_sub k7_0 rfl) (dkN_sub k7_1 rfl) (dkN_sub dv9 rfl) (dkN_sub d6 rfl) (show dkN [(1, 5)] (I9 t0 4) from dkN_sub (by rw [hF9 t0 4 dkNin_nil]; exact (by rw [hF8 t0 4 dkNin_nil]; exact f5)) rfl) (lv_sub hl [1, 2, 3, 4, 0] rfl)
        ·
          have d11 : dkN [(1, 63)] v9 := dkN_le2 1 k7_1 dv9 (dkc_nle c10) rfl
          have d12 : dkN [(0, 62)] x7_2 := dkN_le1 1 k7_1 dv9 (dkc_nle c10) rfl
          refine lv_iload hx hb dX4_kingAtBell_36 (lv_at hl 0 rfl) ?_
          refine lv_istore_n (lv' := [(2, .int v9), (4, .int v9), (0, .ref (z + t0)), (1, .int x7_1), (3, .int x7_3)]) hx hb dX4_kingAtBell_38 rfl hl (by decide) rfl (fun ls hl => ?_)
          refine lv_iload_n hx hb dX4_kingAtBell_39 rfl (lv_at hl 4 rfl) ?_
          refine lv_istore_n (lv' := [(1, .int x7_3), (2, .int v9), (4, .int v9), (0, .ref (z + t0)), (3, .int x7_3)]) hx hb dX4_kingAtBell_40 rfl hl (by decide) rfl (fun ls hl => ?_)
          exact C41 I9 _ _ ls x7_3 v9 v9 hW hS hF hO (dkN_sub d6 rfl) (dkN_sub d11 rfl) (dkN_sub d11 rfl) (dkN_sub d6 rfl) (show dkN [(1, 5)] (I9 t0 4) from dkN_sub (by rw [hF9 t0 4 dkNin_nil]; exact (by rw [hF8 t0 4 dkNin_nil]; exact f5)) rfl) (lv_sub hl [3, 0, 1, 4, 2] rfl)
  refine lv_ldc (v := (-1000000)) hx hb hown (hts (.constant RX4 89 (-1000000)) (List.mem_of_getElem? (i := 1) rfl)) dX4_kingAtBell_0 ?_
  refine lv_istore_n (lv' := [(1, .int ((-1000000))), (0, .ref (z + t0))]) hx hb dX4_kingAtBell_2 rfl hl (by decide) rfl (fun ls hl => ?_)
  refine lv_iconst (v := 0) hx hb dX4_kingAtBell_3 (by decide) ?_
  refine lv_istore_n (lv' := [(2, .int 0), (1, .int ((-1000000))), (0, .ref (z + t0))]) hx hb dX4_kingAtBell_4 rfl hl (by decide) rfl (fun ls hl => ?_)
  refine lv_iconst (v := 0) hx hb dX4_kingAtBell_5 (by decide) ?_
  refine lv_istore_n (lv' := [(3, .int 0), (2, .int 0), (1, .int ((-1000000))), (0, .ref (z + t0))]) hx hb dX4_kingAtBell_6 rfl hl (by decide) rfl (fun ls hl => ?_)
  exact C7 _ I0 _ _ ls ((-1000000)) 0 0 (Nat.lt_succ_self _) hW hS hF hO (dkN_sub (dkN_lit (x := (-1000000)) (-1000000) rfl) rfl) (dkN_sub (dkN_lit (x := 0) (0) rfl) rfl) (dkN_sub (dkN_lit (x := 0) (0) rfl) rfl) (lv_sub hl [3, 2, 1, 0] rfl)
set_option maxHeartbeats 4000000 in
set_option maxRecDepth 100000 in
theorem c_X4_ring_0 (l : Launch) (g : dkG) (z : Nat) (I0 : dkI) (t0 : Nat) (ht0 : dkT t0)  (hO : dkOk I0) : Met l yX4_ring wsX4_ring (dkR 3) (dkPc g z [.ref (z + t0)] I0) (dkQi g z (fun r I1 => dkF [(t0, t0, 2, 3), (t0 + 3, t0 + 3, 0, 4), (t0 + 6, t0 + 6, 0, 4), (t0 + 9, t0 + 9, 0, 5)] I0 I1 ∧ dkOk I1 ∧ ((dkN [(-1000000, -1000000), (0, 4)] r ∧ dkN [(0, 0)] (I1 t0 3) ∧ True)))) 0 0 (dkA z) := by
  refine Met.ofW (cc := cX4_ring) (maxL := 3) (ret := (some .int)) (by decide) rfl ?_
  intro p e s m args below meth c s₁ B hml hv
  obtain ⟨ha, hW, hK, hT⟩ := hv
  have hx := B.exec
  have hb := B.bytes
  have hr := B.returns
  have hts := atoms_spec (ws := wsX4_ring) B.pre
  have hown : s.vm.findClass RX4 = some m.cls := findClass_of_methodNamed B.named
  have hlocks := B.notSynchronized
  have hS : va_S (dkA z) s.heap s.heap [] := va_S.rf
  have hF : dkF [(t0, t0, 2, 3), (t0 + 3, t0 + 3, 0, 4), (t0 + 6, t0 + 6, 0, 4), (t0 + 9, t0 + 9, 0, 5)] I0 I0 := dkF_rf _ _
  have hl := lv_entry ([.ref (z + t0)]) (n := 3) (Nat.le_of_ble_eq_true rfl)
  have hgo : entryFrame m args 3 = entryFrame m ([.ref (z + t0)] : List Value).toArray 3 := by rw [ha]
  rw [hgo, lg_entry_eq]
  generalize (lg_sl ([.ref (z + t0)]) ++ List.replicate (3 - (lg_sl ([.ref (z + t0)])).length) Slot.unset).toArray = ls at hl ⊢
  have hl : lv_has ls 3 [(0, .ref (z + t0))] := hl
  have C69 : ∀ (n : Nat), ∀ (I : dkI) (H : Heap) (locs : List Loc) (ls : Array Slot) (x69_1 : Int32) (x69_2 : Int32), (6 - x69_2.toInt).toNat < n → dkW g z I H → va_S (dkA z) s.heap H locs → dkF [(t0, t0, 2, 3), (t0 + 3, t0 + 3, 0, 4), (t0 + 6, t0 + 6, 0, 4), (t0 + 9, t0 + 9, 0, 5)] I0 I → dkOk I → dkN [(-1000000, -1000000), (0, 4)] x69_1 → dkN [(0, 6)] x69_2 → lv_has ls 3 [(0, .ref (z + t0)), (1, .int x69_1), (2, .int x69_2)] → W p l e (headSpec wsX4_ring (dkR 3)).room s m args below meth c H locs 0 0 (MQ below (dkQi g z (fun r I1 => dkF [(t0, t0, 2, 3), (t0 + 3, t0 + 3, 0, 4), (t0 + 6, t0 + 6, 0, 4), (t0 + 9, t0 + 9, 0, 5)] I0 I1 ∧ dkOk I1 ∧ ((dkN [(-1000000, -1000000), (0, 4)] r ∧ dkN [(0, 0)] (I1 t0 3) ∧ True)))) args s 0 0 (dkA z)) (F0 m 69 ls []) := by
    intro n
    induction n with
    | zero => intro I H locs ls x69_1 x69_2 hn; exact absurd hn (Nat.not_lt_zero _)
    | succ n ih69 =>
      intro I69_ H locs ls x69_1 x69_2 hn69 hW hS hF_69 hO k69_0 k69_1 hl
      have hF := hF_69
      refine lv_iload_n hx hb dX4_ring_69 rfl (lv_at hl 2 rfl) ?_
      refine lv_aload_n hx hb dX4_ring_70 rfl (lv_at hl 0 rfl) ?_
      refine dk_get (k := t0) hx hb hts iX4_ring_4 hown hK (dk_aT0 ht0 hW) rfl 11 (by decide) (hts (.fieldLink RX4 58 "DogKings$Town" "dogs" "I") (List.mem_of_getElem? (i := 5) rfl)) rfl dX4_ring_71 ?_
      refine lv_topi (fun v1 ev1 => ?_)
      have dv1 : dkN [(0, 6)] v1 := by rw [ev1]; exact (dkO_at hO ht0 (c := 0) (by decide) 11)
      refine lv_icmp_ge (tgt := 95) hx hb dX4_ring_74 (by decide) (fun c2 => ?_) (fun c2 => ?_)
      ·
        refine lv_aload_n hx hb dX4_ring_95 rfl (lv_at hl 0 rfl) ?_
        refine lv_iconst (v := 0) hx hb dX4_ring_96 (by decide) ?_
        refine dk_put (k := t0) hx hb hts iX4_ring_4 tyX4 tyX4_ok nmX4 hown hK hW (dk_aT0 ht0 hW) hS rfl 3 (by decide) (hts (.fieldLink RX4 52 "DogKings$Town" "minute" "I") (List.mem_of_getElem? (i := 8) rfl)) rfl rfl (Nat.le_of_ble_eq_true rfl) (dk_eT3 ht0) dX4_ring_97 (fun I3 H3 L3 eI3 hW hS => ?_)
        have eI3 : I3 = dkU I69_ t0 3 0 := eI3
        have hO := dkO_setT hO ht0 (c := 0) (by decide) eI3 (dkN_sub (dkN_lit (x := 0) (0) rfl) rfl)
        have hF := dkF_set hF eI3 (dkIn_at (i := 0) rfl (Nat.le_refl _) (Nat.le_refl _) (by decide) (by decide))
        refine lv_aload_n hx hb dX4_ring_100 rfl (lv_at hl 0 rfl) ?_
        refine lv_dup hx hb dX4_ring_101 rfl ?_
        refine dk_get (k := t0) hx hb hts iX4_ring_4 hown hK (dk_aT0 ht0 hW) rfl 2 (by decide) (hts (.fieldLink RX4 49 "DogKings$Town" "friday" "I") (List.mem_of_getElem? (i := 9) rfl)) rfl dX4_ring_102 ?_
        refine lv_topi (fun v4 ev4 => ?_)
        refine lv_iconst (v := 1) hx hb dX4_ring_105 (by decide) ?_
        refine lv_iadd hx hb dX4_ring_106 ?_
        refine lv_topi (fun v5 ev5 => ?_)
        refine dk_put (k := t0) hx hb hts iX4_ring_4 tyX4 tyX4_ok nmX4 hown hK hW (dk_aT0 ht0 hW) hS rfl 2 (by decide) (hts (.fieldLink RX4 49 "DogKings$Town" "friday" "I") (List.mem_of_getElem? (i := 9) rfl)) rfl rfl (Nat.le_of_ble_eq_true rfl) (dk_eT2 ht0) dX4_ring_107 (fun I6 H6 L6 eI6 hW hS => ?_)
        have eI6 : I6 = dkU I3 t0 2 v5 := eI6
        have hO := dkO_setT hO ht0 (c := 0) (by decide) eI6 (dkN_sub (dkN_top v5) rfl)
        have hF := dkF_set hF eI6 (dkIn_at (i := 0) rfl (Nat.le_refl _) (Nat.le_refl _) (by decide) (by decide))
        refine lv_iload_n hx hb dX4_ring_110 rfl (lv_at hl 1 rfl) ?_
        exact W.iret (v := x69_1) hx hb hr (fun t ht hW9 => ⟨⟨x69_1, I6, rfl, ⟨hF, hO, ⟨dkN_sub k69_0 rfl, (show dkN [(0, 0)] (I6 t0 3) from dkN_sub (by rw [eI6, dkU_sn (by decide)]; exact (by rw [eI3, dkU_ss]; exact (dkN_lit (x := 0) (0) rfl))) rfl), trivial⟩⟩, dkW_eq ht hW⟩, hS.F ht⟩) hS.2.2 dX4_ring_111
      ·
        have d7 : dkN [(1, 6)] v1 := dkN_le2 1 k69_1 dv1 (dkc_nle c2) rfl
        have f8 : dkN [(1, 6)] (I69_ t0 11) := by rw [← ev1]; exact d7
        have d9 : dkN [(0, 5)] x69_2 := dkN_le1 1 k69_1 dv1 (dkc_nle c2) rfl
        refine lv_aload_n hx hb dX4_ring_77 rfl (lv_at hl 0 rfl) ?_
        refine dk_get (k := t0) hx hb hts iX4_ring_4 hown hK (dk_aT0 ht0 hW) rfl 14 (by decide) (hts (.fieldLink RX4 36 "DogKings$Town" "dogAt" "[I") (List.mem_of_getElem? (i := 6) rfl)) rfl dX4_ring_78 ?_
        refine lv_iload_n hx hb dX4_ring_81 rfl (lv_at hl 2 rfl) ?_
        refine lv_aload_n hx hb dX4_ring_82 rfl (lv_at hl 0 rfl) ?_
        refine dk_get (k := t0) hx hb hts iX4_ring_4 hown hK (dk_aT0 ht0 hW) rfl 13 (by decide) (hts (.fieldLink RX4 33 "DogKings$Town" "dogHome" "[I") (List.mem_of_getElem? (i := 7) rfl)) rfl dX4_ring_83 ?_
        refine lv_iload_n hx hb dX4_ring_86 rfl (lv_at hl 2 rfl) ?_
        refine dk_ild (k := (t0 + 8)) hx hb hK (dk_aT8 ht0 hW) (dkN_in (n := 6) d9 rfl) dX4_ring_87 ?_
        refine lv_topi (fun v10 ev10 => ?_)
        refine dk_ist (k := (t0 + 9)) hx hb hK hW (fun _ => dkC_T g z ht0 (c := 9) (by decide) _) (by have := dkT_lt ht0; omega) hS (dkN_in (n := 6) d9 rfl) dX4_ring_88 (fun I11 H11 L11 eI11 hW hS => ?_)
        have hO := dkO_setT hO ht0 (c := 9) (by decide) eI11 (dkN_sub (dkN_top v10) rfl)
        have hF := dkF_set hF eI11 (dkIn_atv (i := 3) rfl (Nat.le_refl _) (Nat.le_refl _) d9 rfl)
        obtain ⟨v12, ev12⟩ : ∃ y : Int32, y = x69_2 + 1 := ⟨_, rfl⟩
        have dv12 : dkN [(1, 6)] v12 := by rw [ev12]; exact dkN_add d9 (dkN_lit (x := 1) (1) rfl) rfl
        refine lv_iinc (v := v12) (lv' := [(2, .int v12), (0, .ref (z + t0)), (1, .int x69_1)]) hx hb dX4_ring_89 hl (k := 2) rfl (by rw [ev12]; rfl) (by decide) rfl (fun ls hl => ?_)
        refine lv_goto (tgt := 69) hx hb dX4_ring_92 (by decide) ?_
        exact ih69 I11 _ _ ls x69_1 v12 (dk_near hn69 (by rw [ev12]; exact dk_inc d9 rfl) (dkN_lt d9 rfl)) hW hS hF hO (dkN_sub k69_0 rfl) (dkN_sub dv12 rfl) (lv_sub hl [1, 2, 0] rfl)
  have C41 : ∀ (n : Nat), ∀ (I : dkI) (H : Heap) (locs : List Loc) (ls : Array Slot) (x41_1 : Int32) (x41_2 : Int32), (5 - x41_2.toInt).toNat < n → dkW g z I H → va_S (dkA z) s.heap H locs → dkF [(t0, t0, 2, 3), (t0 + 3, t0 + 3, 0, 4), (t0 + 6, t0 + 6, 0, 4), (t0 + 9, t0 + 9, 0, 5)] I0 I → dkOk I → dkN [(-1000000, -1000000), (0, 4)] x41_1 → dkN [(0, 5)] x41_2 → lv_has ls 3 [(0, .ref (z + t0)), (1, .int x41_1), (2, .int x41_2)] → W p l e (headSpec wsX4_ring (dkR 3)).room s m args below meth c H locs 0 0 (MQ below (dkQi g z (fun r I1 => dkF [(t0, t0, 2, 3), (t0 + 3, t0 + 3, 0, 4), (t0 + 6, t0 + 6, 0, 4), (t0 + 9, t0 + 9, 0, 5)] I0 I1 ∧ dkOk I1 ∧ ((dkN [(-1000000, -1000000), (0, 4)] r ∧ dkN [(0, 0)] (I1 t0 3) ∧ True)))) args s 0 0 (dkA z)) (F0 m 41 ls []) := by
    intro n
    induction n with
    | zero => intro I H locs ls x41_1 x41_2 hn; exact absurd hn (Nat.not_lt_zero _)
    | succ n ih41 =>
      intro I41_ H locs ls x41_1 x41_2 hn41 hW hS hF_41 hO k41_0 k41_1 hl
      have hF := hF_41
      refine lv_iload_n hx hb dX4_ring_41 rfl (lv_at hl 2 rfl) ?_
      refine lv_aload_n hx hb dX4_ring_42 rfl (lv_at hl 0 rfl) ?_
      refine dk_get (k := t0) hx hb hts iX4_ring_4 hown hK (dk_aT0 ht0 hW) rfl 4 (by decide) (hts (.fieldLink RX4 55 "DogKings$Town" "people" "I") (List.mem_of_getElem? (i := 1) rfl)) rfl dX4_ring_43 ?_
      refine lv_topi (fun v13 ev13 => ?_)
      have dv13 : dkN [(0, 5)] v13 := by rw [ev13]; exact (dkO_at hO ht0 (c := 0) (by decide) 4)
      refine lv_icmp_ge (tgt := 67) hx hb dX4_ring_46 (by decide) (fun c14 => ?_) (fun c14 => ?_)
      ·
        refine lv_iconst (v := 0) hx hb dX4_ring_67 (by decide) ?_
        refine lv_istore_n (lv' := [(2, .int 0), (0, .ref (z + t0)), (1, .int x41_1)]) hx hb dX4_ring_68 rfl hl (by decide) rfl (fun ls hl => ?_)
        exact C69 _ I41_ _ _ ls x41_1 0 (Nat.lt_succ_self _) hW hS hF hO (dkN_sub k41_0 rfl) (dkN_sub (dkN_lit (x := 0) (0) rfl) rfl) (lv_sub hl [1, 2, 0] rfl)
      ·
        have d15 : dkN [(1, 5)] v13 := dkN_le2 1 k41_1 dv13 (dkc_nle c14) rfl
        have f16 : dkN [(1, 5)] (I41_ t0 4) := by rw [← ev13]; exact d15
        have d17 : dkN [(0, 4)] x41_2 := dkN_le1 1 k41_1 dv13 (dkc_nle c14) rfl
        refine lv_aload_n hx hb dX4_ring_49 rfl (lv_at hl 0 rfl) ?_
        refine dk_get (k := t0) hx hb hts iX4_ring_4 hown hK (dk_aT0 ht0 hW) rfl 7 (by decide) (hts (.fieldLink RX4 18 "DogKings$Town" "personAt" "[I") (List.mem_of_getElem? (i := 3) rfl)) rfl dX4_ring_50 ?_
        refine lv_iload_n hx hb dX4_ring_53 rfl (lv_at hl 2 rfl) ?_
        refine lv_aload_n hx hb dX4_ring_54 rfl (lv_at hl 0 rfl) ?_
        refine dk_get (k := t0) hx hb hts iX4_ring_4 hown hK (dk_aT0 ht0 hW) rfl 5 (by decide) (hts (.fieldLink RX4 9 "DogKings$Town" "personHome" "[I") (List.mem_of_getElem? (i := 4) rfl)) rfl dX4_ring_55 ?_
        refine lv_iload_n hx hb dX4_ring_58 rfl (lv_at hl 2 rfl) ?_
        refine dk_ild (k := (t0 + 1)) hx hb hK (dk_aT1 ht0 hW) (dkN_in (n := 5) d17 rfl) dX4_ring_59 ?_
        refine lv_topi (fun v18 ev18 => ?_)
        refine dk_ist (k := (t0 + 3)) hx hb hK hW (fun _ => dkC_T g z ht0 (c := 3) (by decide) _) (by have := dkT_lt ht0; omega) hS (dkN_in (n := 5) d17 rfl) dX4_ring_60 (fun I19 H19 L19 eI19 hW hS => ?_)
        have hO := dkO_setT hO ht0 (c := 3) (by decide) eI19 (dkN_sub (dkN_top v18) rfl)
        have hF := dkF_set hF eI19 (dkIn_atv (i := 1) rfl (Nat.le_refl _) (Nat.le_refl _) d17 rfl)
        obtain ⟨v20, ev20⟩ : ∃ y : Int32, y = x41_2 + 1 := ⟨_, rfl⟩
        have dv20 : dkN [(1, 5)] v20 := by rw [ev20]; exact dkN_add d17 (dkN_lit (x := 1) (1) rfl) rfl
        refine lv_iinc (v := v20) (lv' := [(2, .int v20), (0, .ref (z + t0)), (1, .int x41_1)]) hx hb dX4_ring_61 hl (k := 2) rfl (by rw [ev20]; rfl) (by decide) rfl (fun ls hl => ?_)
        refine lv_goto (tgt := 41) hx hb dX4_ring_64 (by decide) ?_
        exact ih41 I19 _ _ ls x41_1 v20 (dk_near hn41 (by rw [ev20]; exact dk_inc d17 rfl) (dkN_lt d17 rfl)) hW hS hF hO (dkN_sub k41_0 rfl) (dkN_sub dv20 rfl) (lv_sub hl [1, 2, 0] rfl)
  have C39 : ∀ (I : dkI) (H : Heap) (locs : List Loc) (ls : Array Slot) (x39_1 : Int32), dkW g z I H → va_S (dkA z) s.heap H locs → dkF [(t0, t0, 2, 3), (t0 + 3, t0 + 3, 0, 4), (t0 + 6, t0 + 6, 0, 4), (t0 + 9, t0 + 9, 0, 5)] I0 I → dkOk I → dkN [(-1000000, -1000000), (0, 4)] x39_1 → lv_has ls 3 [(0, .ref (z + t0)), (1, .int x39_1)] → W p l e (headSpec wsX4_ring (dkR 3)).room s m args below meth c H locs 0 0 (MQ below (dkQi g z (fun r I1 => dkF [(t0, t0, 2, 3), (t0 + 3, t0 + 3, 0, 4), (t0 + 6, t0 + 6, 0, 4), (t0 + 9, t0 + 9, 0, 5)] I0 I1 ∧ dkOk I1 ∧ ((dkN [(-1000000, -1000000), (0, 4)] r ∧ dkN [(0, 0)] (I1 t0 3) ∧ True)))) args s 0 0 (dkA z)) (F0 m 39 ls []) := by
    intro I39_ H locs ls x39_1 hW hS hF_39 hO k39_0 hl
    have hF := hF_39
    refine lv_iconst (v := 0) hx hb dX4_ring_39 (by decide) ?_
    refine lv_istore_n (lv' := [(2, .int 0), (0, .ref (z + t0)), (1, .int x39_1)]) hx hb dX4_ring_40 rfl hl (by decide) rfl (fun ls hl => ?_)
    exact C41 _ I39_ _ _ ls x39_1 0 (Nat.lt_succ_self _) hW hS hF hO (dkN_sub k39_0 rfl) (dkN_sub (dkN_lit (x := 0) (0) rfl) rfl) (lv_sub hl [1, 2, 0] rfl)
  refine lv_aload_n hx hb dX4_ring_0 rfl (lv_at hl 0 rfl) ?_
  refine dk_Vi (As := []) (rest := []) ⟨hx, hb, hml, hown, hts⟩ (c_X4_kingAtBell_0 l g z I0 t0 ht0 hO) (cwV 0 hts gX4_ring_X4_kingAtBell rfl rfl rfl (by decide +kernel) ⟨Nat.le_of_ble_eq_true rfl, Nat.le_of_ble_eq_true rfl⟩) (dk_aT0 ht0 hW) rfl hK hT hW hS rfl hl.1 rfl (Nat.le_of_ble_eq_true rfl) dX4_ring_1 ⟨Nat.zero_le _, Nat.zero_le _⟩ (fun v21 I21 H21 L21 hp21 hW hS => ?_)
  obtain ⟨hF21, hO, hc21⟩ := hp21
  have hF := dkF_callP hF hF21 dkSub_nil
  obtain ⟨dv21, -⟩ := hc21
  refine lv_istore_n (lv' := [(1, .int v21), (0, .ref (z + t0))]) hx hb dX4_ring_4 rfl hl (by decide) rfl (fun ls hl => ?_)
  refine lv_iload_n hx hb dX4_ring_5 rfl (lv_at hl 0 rfl) ?_
  refine lv_if_lt (tgt := 39) hx hb dX4_ring_6 (by decide) (fun c22 => ?_) (fun c22 => ?_)
  ·
    have d23 : dkN [(-1000000, -1000000)] v21 := dkN_le1 1 dv21 (dkN_lit (x := 0) (0) rfl) (dkc_lt c22) rfl
    exact C39 I21 _ _ ls v21 hW hS hF hO (dkN_sub d23 rfl) (lv_sub hl [1, 0] rfl)
  ·
    have d24 : dkN [(0, 4)] v21 := dkN_le2 0 (dkN_lit (x := 0) (0) rfl) dv21 (dkc_nlt c22) rfl
    refine lv_iload_n hx hb dX4_ring_9 rfl (lv_at hl 0 rfl) ?_
    refine lv_aload_n hx hb dX4_ring_10 rfl (lv_at hl 1 rfl) ?_
    refine dk_get (k := t0) hx hb hts iX4_ring_4 hown hK (dk_aT0 ht0 hW) rfl 4 (by decide) (hts (.fieldLink RX4 55 "DogKings$Town" "people" "I") (List.mem_of_getElem? (i := 1) rfl)) rfl dX4_ring_11 ?_
    refine lv_topi (fun v25 ev25 => ?_)
    have dv25 : dkN [(0, 5)] v25 := by rw [ev25]; exact (dkO_at hO ht0 (c := 0) (by decide) 4)
    refine lv_icmp_ge (tgt := 39) hx hb dX4_ring_14 (by decide) (fun c26 => ?_) (fun c26 => ?_)
    ·
      have d27 : dkN [(0, 4)] v25 := dkN_le1 0 dv25 d24 (dkc_le c26) rfl
      have f28 : dkN [(0, 4)] (I21 t0 4) := by rw [← ev25]; exact d27
      exact C39 I21 _ _ ls v21 hW hS hF hO (dkN_sub d24 rfl) (lv_sub hl [1, 0] rfl)
    ·
      have d29 : dkN [(1, 5)] v25 := dkN_le2 1 d24 dv25 (dkc_nle c26) rfl
      have f30 : dkN [(1, 5)] (I21 t0 4) := by rw [← ev25]; exact d29
      refine lv_aload_n hx hb dX4_ring_17 rfl (lv_at hl 1 rfl) ?_
      refine dk_get (k := t0) hx hb hts iX4_ring_4 hown hK (dk_aT0 ht0 hW) rfl 10 (by decide) (hts (.fieldLink RX4 27 "DogKings$Town" "reigns" "[I") (List.mem_of_getElem? (i := 2) rfl)) rfl dX4_ring_18 ?_
      refine lv_iload_n hx hb dX4_ring_21 rfl (lv_at hl 0 rfl) ?_
      refine dk_ild (k := (t0 + 6)) hx hb hK (dk_aT6 ht0 hW) (dkN_in (n := 5) d24 rfl) dX4_ring_22 ?_
      refine lv_topi (fun v31 ev31 => ?_)
      refine lv_sipush (v := 999) hx hb dX4_ring_23 (by decide) ?_
      refine lv_icmp_ge (tgt := 39) hx hb dX4_ring_26 (by decide) (fun c32 => ?_) (fun c32 => ?_)
      ·
        have d33 : dkN [(999, 2147483647)] v31 := dkN_le2 0 (dkN_lit (x := 999) (999) rfl) (dkN_top v31) (dkc_le c32) rfl
        exact C39 I21 _ _ ls v21 hW hS hF hO (dkN_sub d24 rfl) (lv_sub hl [1, 0] rfl)
      ·
        have d34 : dkN [(-2147483648, 998)] v31 := dkN_le1 1 (dkN_top v31) (dkN_lit (x := 999) (999) rfl) (dkc_nle c32) rfl
        refine lv_aload_n hx hb dX4_ring_29 rfl (lv_at hl 1 rfl) ?_
        refine dk_get (k := t0) hx hb hts iX4_ring_4 hown hK (dk_aT0 ht0 hW) rfl 10 (by decide) (hts (.fieldLink RX4 27 "DogKings$Town" "reigns" "[I") (List.mem_of_getElem? (i := 2) rfl)) rfl dX4_ring_30 ?_
        refine lv_iload_n hx hb dX4_ring_33 rfl (lv_at hl 0 rfl) ?_
        refine lv_dup2_11 hx hb dX4_ring_34 rfl rfl ?_
        refine dk_ild (k := (t0 + 6)) hx hb hK (dk_aT6 ht0 hW) (dkN_in (n := 5) d24 rfl) dX4_ring_35 ?_
        refine lv_topi (fun v35 ev35 => ?_)
        refine lv_iconst (v := 1) hx hb dX4_ring_36 (by decide) ?_
        refine lv_iadd hx hb dX4_ring_37 ?_
        refine lv_topi (fun v36 ev36 => ?_)
        refine dk_ist (k := (t0 + 6)) hx hb hK hW (fun _ => dkC_T g z ht0 (c := 6) (by decide) _) (by have := dkT_lt ht0; omega) hS (dkN_in (n := 5) d24 rfl) dX4_ring_38 (fun I37 H37 L37 eI37 hW hS => ?_)
        have hO := dkO_setT hO ht0 (c := 6) (by decide) eI37 (dkN_sub (dkN_top v36) rfl)
        have hF := dkF_set hF eI37 (dkIn_atv (i := 2) rfl (Nat.le_refl _) (Nat.le_refl _) d24 rfl)
        exact C39 I37 _ _ ls v21 hW hS hF hO (dkN_sub d24 rfl) (lv_sub hl [1, 0] rfl)
set_option maxHeartbeats 4000000 in
set_option maxRecDepth 100000 in
theorem c_X4_pass_0 (l : Launch) (g : dkG) (z : Nat) (I0 : dkI) (t0 : Nat) (ht0 : dkT t0)  (hO : dkOk I0) : Met l yX4_pass wsX4_pass (dkR 4) (dkPc g z [.ref (z + t0)] I0) (dkQi g z (fun r I1 => dkF [(t0, t0, 2, 3), (t0 + 3, t0 + 3, 0, 4), (t0 + 5, t0 + 5, 0, 4), (t0 + 6, t0 + 6, 0, 4), (t0 + 9, t0 + 9, 0, 5), (t0 + 10, t0 + 10, 0, 8)] I0 I1 ∧ dkOk I1 ∧ ((dkN [(-1000000, -1000000), (0, 4)] r ∧ dkN [(-2147483648, 29)] (I1 t0 3) ∧ True)))) 0 0 (dkA z) := by
  refine Met.ofW (cc := cX4_pass) (maxL := 1) (ret := (some .int)) (by decide) rfl ?_
  intro p e s m args below meth c s₁ B hml hv
  obtain ⟨ha, hW, hK, hT⟩ := hv
  have hx := B.exec
  have hb := B.bytes
  have hr := B.returns
  have hts := atoms_spec (ws := wsX4_pass) B.pre
  have hown : s.vm.findClass RX4 = some m.cls := findClass_of_methodNamed B.named
  have hlocks := B.notSynchronized
  have hS : va_S (dkA z) s.heap s.heap [] := va_S.rf
  have hF : dkF [(t0, t0, 2, 3), (t0 + 3, t0 + 3, 0, 4), (t0 + 5, t0 + 5, 0, 4), (t0 + 6, t0 + 6, 0, 4), (t0 + 9, t0 + 9, 0, 5), (t0 + 10, t0 + 10, 0, 8)] I0 I0 := dkF_rf _ _
  have hl := lv_entry ([.ref (z + t0)]) (n := 1) (Nat.le_of_ble_eq_true rfl)
  have hgo : entryFrame m args 1 = entryFrame m ([.ref (z + t0)] : List Value).toArray 1 := by rw [ha]
  rw [hgo, lg_entry_eq]
  generalize (lg_sl ([.ref (z + t0)]) ++ List.replicate (1 - (lg_sl ([.ref (z + t0)])).length) Slot.unset).toArray = ls at hl ⊢
  have hl : lv_has ls 1 [(0, .ref (z + t0))] := hl
  refine lv_aload_n hx hb dX4_pass_0 rfl (lv_at hl 0 rfl) ?_
  refine dk_Vv (As := []) (rest := []) ⟨hx, hb, hml, hown, hts⟩ (c_X4_stir_0 l g z I0 t0 ht0 hO) (cwV 0 hts gX4_pass_X4_stir rfl rfl rfl (by decide +kernel) ⟨Nat.le_of_ble_eq_true rfl, Nat.le_of_ble_eq_true rfl⟩) (dk_aT0 ht0 hW) rfl hK hT hW hS rfl hl.1 rfl (Nat.le_of_ble_eq_true rfl) dX4_pass_1 ⟨Nat.zero_le _, Nat.zero_le _⟩ (fun I1 H1 L1 hp1 hW hS => ?_)
  obtain ⟨hF1, hO, hc1⟩ := hp1
  have hF := dkF_callP hF hF1 (dkSub_cons (i := 0) rfl (Nat.le_refl _) (Nat.le_refl _) (by decide) (by decide) (dkSub_cons (i := 1) rfl (Nat.le_refl _) (Nat.le_refl _) (by decide) (by decide) (dkSub_cons (i := 2) rfl (Nat.le_refl _) (Nat.le_refl _) (by decide) (by decide) (dkSub_cons (i := 4) rfl (Nat.le_refl _) (Nat.le_refl _) (by decide) (by decide) (dkSub_cons (i := 5) rfl (Nat.le_refl _) (Nat.le_refl _) (by decide) (by decide) dkSub_nil)))))
  refine lv_aload_n hx hb dX4_pass_4 rfl (lv_at hl 0 rfl) ?_
  refine dk_Vi (As := []) (rest := []) ⟨hx, hb, hml, hown, hts⟩ (c_X4_atBell_0 l g z I1 t0 ht0 hO) (cwV 0 hts gX4_pass_X4_atBell rfl rfl rfl (by decide +kernel) ⟨Nat.le_of_ble_eq_true rfl, Nat.le_of_ble_eq_true rfl⟩) (dk_aT0 ht0 hW) rfl hK hT hW hS rfl hl.1 rfl (Nat.le_of_ble_eq_true rfl) dX4_pass_5 ⟨Nat.zero_le _, Nat.zero_le _⟩ (fun v2 I2 H2 L2 hp2 hW hS => ?_)
  obtain ⟨hF2, hO, hc2⟩ := hp2
  have hF := dkF_callP hF hF2 dkSub_nil
  rcases hc2 with ⟨dv2, f2_t00_3, -⟩ | hc2
  ·
    refine lv_if_eq (tgt := 18) hx hb dX4_pass_8 (by decide) (fun c3 => ?_) (fun c3 => ?_)
    ·
      refine lv_ldc (v := (-1000000)) hx hb hown (hts (.constant RX4 89 (-1000000)) (List.mem_of_getElem? (i := 1) rfl)) dX4_pass_18 ?_
      exact W.iret (v := (-1000000)) hx hb hr (fun t ht hW9 => ⟨⟨(-1000000), I2, rfl, ⟨hF, hO, ⟨dkN_sub (dkN_lit (x := (-1000000)) (-1000000) rfl) rfl, (show dkN [(-2147483648, 29)] (I2 t0 3) from dkN_sub f2_t00_3 rfl), trivial⟩⟩, dkW_eq ht hW⟩, hS.F ht⟩) hS.2.2 dX4_pass_20
    ·
      exact (dkN_nil (show dkN [] v2 from dkN_ne1 (0) dv2 (dkN_lit (x := 0) (0) rfl) (dk_ne c3) rfl)).elim
  ·
    obtain ⟨dv2, f2_t00_3, -⟩ := hc2
    refine lv_if_eq (tgt := 18) hx hb dX4_pass_8 (by decide) (fun c4 => ?_) (fun c4 => ?_)
    ·
      exact (dkN_nil (show dkN [] v2 from dkN_eq1 dv2 (dkN_lit (x := 0) (0) rfl) (congrArg Int32.toInt c4) rfl)).elim
    ·
      refine lv_aload_n hx hb dX4_pass_11 rfl (lv_at hl 0 rfl) ?_
      refine dk_Vi (As := []) (rest := []) ⟨hx, hb, hml, hown, hts⟩ (c_X4_ring_0 l g z I2 t0 ht0 hO) (cwV 0 hts gX4_pass_X4_ring rfl rfl rfl (by decide +kernel) ⟨Nat.le_of_ble_eq_true rfl, Nat.le_of_ble_eq_true rfl⟩) (dk_aT0 ht0 hW) rfl hK hT hW hS rfl hl.1 rfl (Nat.le_of_ble_eq_true rfl) dX4_pass_12 ⟨Nat.zero_le _, Nat.zero_le _⟩ (fun v5 I5 H5 L5 hp5 hW hS => ?_)
      obtain ⟨hF5, hO, hc5⟩ := hp5
      have hF := dkF_callP hF hF5 (dkSub_cons (i := 0) rfl (Nat.le_refl _) (Nat.le_refl _) (by decide) (by decide) (dkSub_cons (i := 1) rfl (Nat.le_refl _) (Nat.le_refl _) (by decide) (by decide) (dkSub_cons (i := 3) rfl (Nat.le_refl _) (Nat.le_refl _) (by decide) (by decide) (dkSub_cons (i := 4) rfl (Nat.le_refl _) (Nat.le_refl _) (by decide) (by decide) dkSub_nil))))
      obtain ⟨dv5, f5_t00_3, -⟩ := hc5
      refine lv_goto (tgt := 20) hx hb dX4_pass_15 (by decide) ?_
      exact W.iret (v := v5) hx hb hr (fun t ht hW9 => ⟨⟨v5, I5, rfl, ⟨hF, hO, ⟨dkN_sub dv5 rfl, (show dkN [(-2147483648, 29)] (I5 t0 3) from dkN_sub f5_t00_3 rfl), trivial⟩⟩, dkW_eq ht hW⟩, hS.F ht⟩) hS.2.2 dX4_pass_20
set_option maxHeartbeats 4000000 in
set_option maxRecDepth 100000 in
theorem c_X6_isTown_0 (l : Launch) (g : dkG) (z : Nat) (I0 : dkI)  (hO : dkOk I0) : Met l yX6_isTown wsX6_isTown (dkR 0) (dkPc g z [.ref (z + 340)] I0) (dkQi g z (fun r I1 => dkF [] I0 I1 ∧ dkOk I1 ∧ ((dkN [(0, 0)] r ∧ dkN [(0, 0)] (I1 346 0) ∧ True) ∨ (dkN [(1, 1)] r ∧ dkN [(1, 9)] (I1 346 0) ∧ True)))) 0 0 (dkA z) := by
  refine Met.ofW (cc := cX6_isTown) (maxL := 1) (ret := (some .boolean)) (by decide) rfl ?_
  intro p e s m args below meth c s₁ B hml hv
  obtain ⟨ha, hW, hK, hT⟩ := hv
  have hx := B.exec
  have hb := B.bytes
  have hr := B.returns
  have hts := atoms_spec (ws := wsX6_isTown) B.pre
  have hown : s.vm.findClass RX6 = some m.cls := findClass_of_methodNamed B.named
  have hlocks := B.notSynchronized
  have hS : va_S (dkA z) s.heap s.heap [] := va_S.rf
  have hF : dkF [] I0 I0 := dkF_rf _ _
  have hl := lv_entry ([.ref (z + 340)]) (n := 1) (Nat.le_of_ble_eq_true rfl)
  have hgo : entryFrame m args 1 = entryFrame m ([.ref (z + 340)] : List Value).toArray 1 := by rw [ha]
  rw [hgo, lg_entry_eq]
  generalize (lg_sl ([.ref (z + 340)]) ++ List.replicate (1 - (lg_sl ([.ref (z + 340)])).length) Slot.unset).toArray = ls at hl ⊢
  have hl : lv_has ls 1 [(0, .ref (z + 340))] := hl
  refine lv_aload_n hx hb dX6_isTown_0 rfl (lv_at hl 0 rfl) ?_
  refine dk_get (k := 340) hx hb hts iX6_isTown_6 hown hK (dk_at340 hW) rfl 13 (by decide) (hts (.fieldLink RX6 25 "DogKingsModel" "now" "[I") (List.mem_of_getElem? (i := 1) rfl)) rfl dX6_isTown_1 ?_
  refine lv_iconst (v := 0) hx hb dX6_isTown_4 (by decide) ?_
  refine dk_ild (k := 346) hx hb hK (dk_at346 hW) (dkN_in (n := 54) (dkN_lit (x := 0) (0) rfl) rfl) dX6_isTown_5 ?_
  refine lv_topi (fun v1 ev1 => ?_)
  have ev1 : v1 = I0 346 0 := ev1
  have dv1 : dkN [(0, 9)] v1 := by rw [ev1]; exact (show dkN [(0, 9)] (I0 346 0) from (hO 346 0))
  refine lv_if_le (tgt := 13) hx hb dX6_isTown_6 (by decide) (fun c2 => ?_) (fun c2 => ?_)
  ·
    have d3 : dkN [(0, 0)] v1 := dkN_le1 0 dv1 (dkN_lit (x := 0) (0) rfl) (dkc_le c2) rfl
    have f4 : dkN [(0, 0)] (I0 346 0) := by rw [← ev1]; exact d3
    refine lv_iconst (v := 0) hx hb dX6_isTown_13 (by decide) ?_
    exact W.zret (v := 0) (ty := .boolean) hx hb hr rfl (fun t ht hW9 => ⟨⟨0, I0, rfl, ⟨hF, hO, Or.inl ⟨dkN_sub (dkN_lit (x := 0) (0) rfl) rfl, (show dkN [(0, 0)] (I0 346 0) from dkN_sub f4 rfl), trivial⟩⟩, dkW_eq ht hW⟩, hS.F ht⟩) hS.2.2 dX6_isTown_14
  ·
    have d5 : dkN [(1, 9)] v1 := dkN_le2 1 (dkN_lit (x := 0) (0) rfl) dv1 (dkc_nle c2) rfl
    have f6 : dkN [(1, 9)] (I0 346 0) := by rw [← ev1]; exact d5
    refine lv_iconst (v := 1) hx hb dX6_isTown_9 (by decide) ?_
    refine lv_goto (tgt := 14) hx hb dX6_isTown_10 (by decide) ?_
    exact W.zret (v := 1) (ty := .boolean) hx hb hr rfl (fun t ht hW9 => ⟨⟨1, I0, rfl, ⟨hF, hO, Or.inr (⟨dkN_sub (dkN_lit (x := 1) (1) rfl) rfl, (show dkN [(1, 9)] (I0 346 0) from dkN_sub f6 rfl), trivial⟩)⟩, dkW_eq ht hW⟩, hS.F ht⟩) hS.2.2 dX6_isTown_14
set_option maxHeartbeats 4000000 in
set_option maxRecDepth 100000 in
theorem c_X6_in_11 (l : Launch) (g : dkG) (z : Nat) (I0 : dkI) (p0 : Int32) (p1 : Int32) (p2 : Int32) (dp1 : dkN [(1, 1)] p1) (dp2 : dkN [(24, 24)] p2)  (hO : dkOk I0) : Met l yX6_in wsX6_in (dkR 0) (dkPc g z [.int p0, .int p1, .int p2] I0) (dkQi g z (fun r I1 => dkF [] I0 I1 ∧ dkOk I1 ∧ ((dkN [(0, 0)] r ∧ dkN [(-2147483648, 0), (25, 2147483647)] p0 ∧ True) ∨ (dkN [(1, 1)] r ∧ dkN [(1, 24)] p0 ∧ True)))) 0 0 (dkA z) := by
  refine Met.ofW (cc := cX6_in) (maxL := 3) (ret := (some .boolean)) (by decide) rfl ?_
  intro p e s m args below meth c s₁ B hml hv
  obtain ⟨ha, hW, hK, hT⟩ := hv
  have hx := B.exec
  have hb := B.bytes
  have hr := B.returns
  have hts := atoms_spec (ws := wsX6_in) B.pre
  have hown : s.vm.findClass RX6 = some m.cls := findClass_of_methodNamed B.named
  have hlocks := B.notSynchronized
  have hS : va_S (dkA z) s.heap s.heap [] := va_S.rf
  have hF : dkF [] I0 I0 := dkF_rf _ _
  have hl := lv_entry ([.int p0, .int p1, .int p2]) (n := 3) (Nat.le_of_ble_eq_true rfl)
  have hgo : entryFrame m args 3 = entryFrame m ([.int p0, .int p1, .int p2] : List Value).toArray 3 := by rw [ha]
  rw [hgo, lg_entry_eq]
  generalize (lg_sl ([.int p0, .int p1, .int p2]) ++ List.replicate (3 - (lg_sl ([.int p0, .int p1, .int p2])).length) Slot.unset).toArray = ls at hl ⊢
  have hl : lv_has ls 3 [(0, .int p0), (1, .int p1), (2, .int p2)] := hl
  refine lv_iload_n hx hb dX6_in_0 rfl (lv_at hl 0 rfl) ?_
  refine lv_iload_n hx hb dX6_in_1 rfl (lv_at hl 1 rfl) ?_
  refine lv_icmp_lt (tgt := 14) hx hb dX6_in_2 (by decide) (fun c1 => ?_) (fun c1 => ?_)
  ·
    have d2 : dkN [(-2147483648, 0)] p0 := dkN_le1 1 (dkN_top p0) dp1 (dkc_lt c1) rfl
    refine lv_iconst (v := 0) hx hb dX6_in_14 (by decide) ?_
    exact W.zret (v := 0) (ty := .boolean) hx hb hr rfl (fun t ht hW9 => ⟨⟨0, I0, rfl, ⟨hF, hO, Or.inl ⟨dkN_sub (dkN_lit (x := 0) (0) rfl) rfl, dkN_sub d2 rfl, trivial⟩⟩, dkW_eq ht hW⟩, hS.F ht⟩) hS.2.2 dX6_in_15
  ·
    have d3 : dkN [(1, 2147483647)] p0 := dkN_le2 0 dp1 (dkN_top p0) (dkc_nlt c1) rfl
    refine lv_iload_n hx hb dX6_in_5 rfl (lv_at hl 0 rfl) ?_
    refine lv_iload_n hx hb dX6_in_6 rfl (lv_at hl 2 rfl) ?_
    refine lv_icmp_gt (tgt := 14) hx hb dX6_in_7 (by decide) (fun c4 => ?_) (fun c4 => ?_)
    ·
      have d5 : dkN [(25, 2147483647)] p0 := dkN_le2 1 dp2 d3 (dkc_lt c4) rfl
      refine lv_iconst (v := 0) hx hb dX6_in_14 (by decide) ?_
      exact W.zret (v := 0) (ty := .boolean) hx hb hr rfl (fun t ht hW9 => ⟨⟨0, I0, rfl, ⟨hF, hO, Or.inl ⟨dkN_sub (dkN_lit (x := 0) (0) rfl) rfl, dkN_sub d5 rfl, trivial⟩⟩, dkW_eq ht hW⟩, hS.F ht⟩) hS.2.2 dX6_in_15
    ·
      have d6 : dkN [(1, 24)] p0 := dkN_le1 0 d3 dp2 (dkc_nlt c4) rfl
      refine lv_iconst (v := 1) hx hb dX6_in_10 (by decide) ?_
      refine lv_goto (tgt := 15) hx hb dX6_in_11 (by decide) ?_
      exact W.zret (v := 1) (ty := .boolean) hx hb hr rfl (fun t ht hW9 => ⟨⟨1, I0, rfl, ⟨hF, hO, Or.inr (⟨dkN_sub (dkN_lit (x := 1) (1) rfl) rfl, dkN_sub d6 rfl, trivial⟩)⟩, dkW_eq ht hW⟩, hS.F ht⟩) hS.2.2 dX6_in_15
set_option maxHeartbeats 4000000 in
set_option maxRecDepth 100000 in
theorem c_X6_goesOut_0 (l : Launch) (g : dkG) (z : Nat) (I0 : dkI) (p0 : Int32) (dp0 : dkN [(0, 4)] p0)  (hO : dkOk I0) : Met l yX6_goesOut wsX6_goesOut (dkR 0) (dkPc g z [.ref (z + 346), .int p0] I0) (dkQv g z (fun I1 => dkF [(346, 346, 8, 34)] I0 I1 ∧ dkOk I1 ∧ ((True)))) 0 0 (dkA z) := by
  refine Met.ofW (cc := cX6_goesOut) (maxL := 3) (ret := none) (by decide) rfl ?_
  intro p e s m args below meth c s₁ B hml hv
  obtain ⟨ha, hW, hK, hT⟩ := hv
  have hx := B.exec
  have hb := B.bytes
  have hr := B.returns
  have hts := atoms_spec (ws := wsX6_goesOut) B.pre
  have hown : s.vm.findClass RX6 = some m.cls := findClass_of_methodNamed B.named
  have hlocks := B.notSynchronized
  have hS : va_S (dkA z) s.heap s.heap [] := va_S.rf
  have hF : dkF [(346, 346, 8, 34)] I0 I0 := dkF_rf _ _
  have hl := lv_entry ([.ref (z + 346), .int p0]) (n := 3) (Nat.le_of_ble_eq_true rfl)
  have hgo : entryFrame m args 3 = entryFrame m ([.ref (z + 346), .int p0] : List Value).toArray 3 := by rw [ha]
  rw [hgo, lg_entry_eq]
  generalize (lg_sl ([.ref (z + 346), .int p0]) ++ List.replicate (3 - (lg_sl ([.ref (z + 346), .int p0])).length) Slot.unset).toArray = ls at hl ⊢
  have hl : lv_has ls 3 [(0, .ref (z + 346)), (1, .int p0)] := hl
  have C62 : ∀ (I : dkI) (H : Heap) (locs : List Loc) (ls : Array Slot) (x62_2 : Int32), dkW g z I H → va_S (dkA z) s.heap H locs → dkF [(346, 346, 8, 34)] I0 I → dkOk I → dkN [(6, 30)] x62_2 → lv_has ls 3 [(0, .ref (z + 346)), (1, .int p0), (2, .int x62_2)] → W p l e (headSpec wsX6_goesOut (dkR 0)).room s m args below meth c H locs 0 0 (MQ below (dkQv g z (fun I1 => dkF [(346, 346, 8, 34)] I0 I1 ∧ dkOk I1 ∧ ((True)))) args s 0 0 (dkA z)) (F0 m 62 ls []) := by
    intro I62_ H locs ls x62_2 hW hS hF_62 hO k62_0 hl
    have hF := hF_62
    refine lv_aload_n hx hb dX6_goesOut_62 rfl (lv_at hl 0 rfl) ?_
    refine lv_iload_n hx hb dX6_goesOut_63 rfl (lv_at hl 2 rfl) ?_
    refine lv_iconst (v := 4) hx hb dX6_goesOut_64 (by decide) ?_
    refine lv_iadd hx hb dX6_goesOut_65 ?_
    refine lv_topi (fun v1 ev1 => ?_)
    have dv1 : dkN [(10, 34)] v1 := by rw [ev1]; exact dkN_add k62_0 (dkN_lit (x := 4) (4) rfl) rfl
    refine lv_dup2_11 hx hb dX6_goesOut_66 rfl rfl ?_
    refine dk_ild (k := 346) hx hb hK (dk_at346 hW) (dkN_in (n := 54) dv1 rfl) dX6_goesOut_67 ?_
    refine lv_topi (fun v2 ev2 => ?_)
    refine lv_aload_n hx hb dX6_goesOut_68 rfl (lv_at hl 0 rfl) ?_
    refine lv_iload_n hx hb dX6_goesOut_69 rfl (lv_at hl 2 rfl) ?_
    refine lv_iconst (v := 2) hx hb dX6_goesOut_70 (by decide) ?_
    refine lv_iadd hx hb dX6_goesOut_71 ?_
    refine lv_topi (fun v3 ev3 => ?_)
    have dv3 : dkN [(8, 32)] v3 := by rw [ev3]; exact dkN_add k62_0 (dkN_lit (x := 2) (2) rfl) rfl
    refine dk_ild (k := 346) hx hb hK (dk_at346 hW) (dkN_in (n := 54) dv3 rfl) dX6_goesOut_72 ?_
    refine lv_topi (fun v4 ev4 => ?_)
    refine lv_iconst (v := 1) hx hb dX6_goesOut_73 (by decide) ?_
    refine lv_icmp_ne (tgt := 81) hx hb dX6_goesOut_74 (by decide) (fun c5 => ?_) (fun c5 => ?_)
    ·
      have d6 : dkN [(-2147483648, 0), (2, 2147483647)] v4 := dkN_ne1 (1) (dkN_top v4) (dkN_lit (x := 1) (1) rfl) (dk_ne c5) rfl
      refine lv_aload_n hx hb dX6_goesOut_81 rfl (lv_at hl 0 rfl) ?_
      refine lv_iload_n hx hb dX6_goesOut_82 rfl (lv_at hl 2 rfl) ?_
      refine lv_iconst (v := 2) hx hb dX6_goesOut_83 (by decide) ?_
      refine lv_iadd hx hb dX6_goesOut_84 ?_
      refine lv_topi (fun v7 ev7 => ?_)
      have dv7 : dkN [(8, 32)] v7 := by rw [ev7]; exact dkN_add k62_0 (dkN_lit (x := 2) (2) rfl) rfl
      refine dk_ild (k := 346) hx hb hK (dk_at346 hW) (dkN_in (n := 54) dv7 rfl) dX6_goesOut_85 ?_
      refine lv_topi (fun v8 ev8 => ?_)
      refine lv_iconst (v := 2) hx hb dX6_goesOut_86 (by decide) ?_
      refine lv_icmp_ne (tgt := 94) hx hb dX6_goesOut_87 (by decide) (fun c9 => ?_) (fun c9 => ?_)
      ·
        have d10 : dkN [(-2147483648, 1), (3, 2147483647)] v8 := dkN_ne1 (2) (dkN_top v8) (dkN_lit (x := 2) (2) rfl) (dk_ne c9) rfl
        refine lv_iconst (v := 0) hx hb dX6_goesOut_94 (by decide) ?_
        refine lv_iadd hx hb dX6_goesOut_95 ?_
        refine lv_topi (fun v11 ev11 => ?_)
        refine dk_ist (k := 346) hx hb hK hW (fun _ => rfl) (by decide) hS (dkN_in (n := 54) dv1 rfl) dX6_goesOut_96 (fun I12 H12 L12 eI12 hW hS => ?_)
        have hO := dkO_set hO eI12 (by rw [dkB_w (k := 346) (B := [(-2147483648, 2147483647)]) (by decide) dv1 rfl]; exact dkN_top _)
        have hF := dkF_set hF eI12 (dkIn_v dv1 rfl)
        exact W.vret hx hb hr (fun t ht hW9 => ⟨⟨I12, rfl, ⟨hF, hO, trivial⟩, dkW_eq ht hW⟩, hS.F ht⟩) hS.2.2 dX6_goesOut_97
      ·
        have d13 : dkN [(2, 2)] v8 := dkN_eq1 (dkN_top v8) (dkN_lit (x := 2) (2) rfl) (congrArg Int32.toInt c9) rfl
        refine lv_iconst (v := (-1)) hx hb dX6_goesOut_90 (by decide) ?_
        refine lv_goto (tgt := 95) hx hb dX6_goesOut_91 (by decide) ?_
        refine lv_iadd hx hb dX6_goesOut_95 ?_
        refine lv_topi (fun v14 ev14 => ?_)
        refine dk_ist (k := 346) hx hb hK hW (fun _ => rfl) (by decide) hS (dkN_in (n := 54) dv1 rfl) dX6_goesOut_96 (fun I15 H15 L15 eI15 hW hS => ?_)
        have hO := dkO_set hO eI15 (by rw [dkB_w (k := 346) (B := [(-2147483648, 2147483647)]) (by decide) dv1 rfl]; exact dkN_top _)
        have hF := dkF_set hF eI15 (dkIn_v dv1 rfl)
        exact W.vret hx hb hr (fun t ht hW9 => ⟨⟨I15, rfl, ⟨hF, hO, trivial⟩, dkW_eq ht hW⟩, hS.F ht⟩) hS.2.2 dX6_goesOut_97
    ·
      have d16 : dkN [(1, 1)] v4 := dkN_eq1 (dkN_top v4) (dkN_lit (x := 1) (1) rfl) (congrArg Int32.toInt c5) rfl
      refine lv_iconst (v := 1) hx hb dX6_goesOut_77 (by decide) ?_
      refine lv_goto (tgt := 95) hx hb dX6_goesOut_78 (by decide) ?_
      refine lv_iadd hx hb dX6_goesOut_95 ?_
      refine lv_topi (fun v17 ev17 => ?_)
      refine dk_ist (k := 346) hx hb hK hW (fun _ => rfl) (by decide) hS (dkN_in (n := 54) dv1 rfl) dX6_goesOut_96 (fun I18 H18 L18 eI18 hW hS => ?_)
      have hO := dkO_set hO eI18 (by rw [dkB_w (k := 346) (B := [(-2147483648, 2147483647)]) (by decide) dv1 rfl]; exact dkN_top _)
      have hF := dkF_set hF eI18 (dkIn_v dv1 rfl)
      exact W.vret hx hb hr (fun t ht hW9 => ⟨⟨I18, rfl, ⟨hF, hO, trivial⟩, dkW_eq ht hW⟩, hS.F ht⟩) hS.2.2 dX6_goesOut_97
  have C39 : ∀ (I : dkI) (H : Heap) (locs : List Loc) (ls : Array Slot) (x39_2 : Int32), dkW g z I H → va_S (dkA z) s.heap H locs → dkF [(346, 346, 8, 34)] I0 I → dkOk I → dkN [(6, 30)] x39_2 → lv_has ls 3 [(0, .ref (z + 346)), (1, .int p0), (2, .int x39_2)] → W p l e (headSpec wsX6_goesOut (dkR 0)).room s m args below meth c H locs 0 0 (MQ below (dkQv g z (fun I1 => dkF [(346, 346, 8, 34)] I0 I1 ∧ dkOk I1 ∧ ((True)))) args s 0 0 (dkA z)) (F0 m 39 ls []) := by
    intro I39_ H locs ls x39_2 hW hS hF_39 hO k39_0 hl
    have hF := hF_39
    refine lv_aload_n hx hb dX6_goesOut_39 rfl (lv_at hl 0 rfl) ?_
    refine lv_iload_n hx hb dX6_goesOut_40 rfl (lv_at hl 2 rfl) ?_
    refine lv_iconst (v := 2) hx hb dX6_goesOut_41 (by decide) ?_
    refine lv_iadd hx hb dX6_goesOut_42 ?_
    refine lv_topi (fun v19 ev19 => ?_)
    have dv19 : dkN [(8, 32)] v19 := by rw [ev19]; exact dkN_add k39_0 (dkN_lit (x := 2) (2) rfl) rfl
    refine dk_ild (k := 346) hx hb hK (dk_at346 hW) (dkN_in (n := 54) dv19 rfl) dX6_goesOut_43 ?_
    refine lv_topi (fun v20 ev20 => ?_)
    refine lv_iconst (v := 2) hx hb dX6_goesOut_44 (by decide) ?_
    refine lv_icmp_ne (tgt := 62) hx hb dX6_goesOut_45 (by decide) (fun c21 => ?_) (fun c21 => ?_)
    ·
      have d22 : dkN [(-2147483648, 1), (3, 2147483647)] v20 := dkN_ne1 (2) (dkN_top v20) (dkN_lit (x := 2) (2) rfl) (dk_ne c21) rfl
      exact C62 I39_ _ _ ls x39_2 hW hS hF hO (dkN_sub k39_0 rfl) (lv_sub hl [0, 1, 2] rfl)
    ·
      have d23 : dkN [(2, 2)] v20 := dkN_eq1 (dkN_top v20) (dkN_lit (x := 2) (2) rfl) (congrArg Int32.toInt c21) rfl
      refine lv_aload_n hx hb dX6_goesOut_48 rfl (lv_at hl 0 rfl) ?_
      refine lv_iload_n hx hb dX6_goesOut_49 rfl (lv_at hl 2 rfl) ?_
      refine lv_iconst (v := 4) hx hb dX6_goesOut_50 (by decide) ?_
      refine lv_iadd hx hb dX6_goesOut_51 ?_
      refine lv_topi (fun v24 ev24 => ?_)
      have dv24 : dkN [(10, 34)] v24 := by rw [ev24]; exact dkN_add k39_0 (dkN_lit (x := 4) (4) rfl) rfl
      refine dk_ild (k := 346) hx hb hK (dk_at346 hW) (dkN_in (n := 54) dv24 rfl) dX6_goesOut_52 ?_
      refine lv_topi (fun v25 ev25 => ?_)
      refine lv_if_ne (tgt := 62) hx hb dX6_goesOut_53 (by decide) (fun c26 => ?_) (fun c26 => ?_)
      ·
        have d27 : dkN [(-2147483648, -1), (1, 2147483647)] v25 := dkN_ne1 (0) (dkN_top v25) (dkN_lit (x := 0) (0) rfl) (dk_ne c26) rfl
        exact C62 I39_ _ _ ls x39_2 hW hS hF hO (dkN_sub k39_0 rfl) (lv_sub hl [0, 1, 2] rfl)
      ·
        have d28 : dkN [(0, 0)] v25 := dkN_eq1 (dkN_top v25) (dkN_lit (x := 0) (0) rfl) (congrArg Int32.toInt c26) rfl
        refine lv_aload_n hx hb dX6_goesOut_56 rfl (lv_at hl 0 rfl) ?_
        refine lv_iload_n hx hb dX6_goesOut_57 rfl (lv_at hl 2 rfl) ?_
        refine lv_iconst (v := 2) hx hb dX6_goesOut_58 (by decide) ?_
        refine lv_iadd hx hb dX6_goesOut_59 ?_
        refine lv_topi (fun v29 ev29 => ?_)
        have dv29 : dkN [(8, 32)] v29 := by rw [ev29]; exact dkN_add k39_0 (dkN_lit (x := 2) (2) rfl) rfl
        refine lv_iconst (v := 1) hx hb dX6_goesOut_60 (by decide) ?_
        refine dk_ist (k := 346) hx hb hK hW (fun _ => rfl) (by decide) hS (dkN_in (n := 54) dv29 rfl) dX6_goesOut_61 (fun I30 H30 L30 eI30 hW hS => ?_)
        have hO := dkO_set hO eI30 (by rw [dkB_w (k := 346) (B := [(-2147483648, 2147483647)]) (by decide) dv29 rfl]; exact dkN_top _)
        have hF := dkF_set hF eI30 (dkIn_v dv29 rfl)
        exact C62 I30 _ _ ls x39_2 hW hS hF hO (dkN_sub k39_0 rfl) (lv_sub hl [0, 1, 2] rfl)
  refine lv_bipush (v := 6) hx hb dX6_goesOut_0 (by decide) ?_
  refine lv_bipush (v := 6) hx hb dX6_goesOut_2 (by decide) ?_
  refine lv_iload_n hx hb dX6_goesOut_4 rfl (lv_at hl 1 rfl) ?_
  refine lv_imul hx hb dX6_goesOut_5 ?_
  refine lv_topi (fun v31 ev31 => ?_)
  have dv31 : dkN [(0, 24)] v31 := by rw [ev31]; exact dkN_mulL 6 (by decide) (dkN_lit (x := 6) (6) rfl) dp0 rfl
  refine lv_iadd hx hb dX6_goesOut_6 ?_
  refine lv_topi (fun v32 ev32 => ?_)
  have dv32 : dkN [(6, 30)] v32 := by rw [ev32]; exact dkN_add (dkN_lit (x := 6) (6) rfl) dv31 rfl
  refine lv_istore_n (lv' := [(2, .int v32), (0, .ref (z + 346)), (1, .int p0)]) hx hb dX6_goesOut_7 rfl hl (by decide) rfl (fun ls hl => ?_)
  refine lv_aload_n hx hb dX6_goesOut_8 rfl (lv_at hl 1 rfl) ?_
  refine lv_iload_n hx hb dX6_goesOut_9 rfl (lv_at hl 0 rfl) ?_
  refine lv_iconst (v := 2) hx hb dX6_goesOut_10 (by decide) ?_
  refine lv_iadd hx hb dX6_goesOut_11 ?_
  refine lv_topi (fun v33 ev33 => ?_)
  have dv33 : dkN [(8, 32)] v33 := by rw [ev33]; exact dkN_add dv32 (dkN_lit (x := 2) (2) rfl) rfl
  refine dk_ild (k := 346) hx hb hK (dk_at346 hW) (dkN_in (n := 54) dv33 rfl) dX6_goesOut_12 ?_
  refine lv_topi (fun v34 ev34 => ?_)
  refine lv_iconst (v := 1) hx hb dX6_goesOut_13 (by decide) ?_
  refine lv_icmp_ne (tgt := 39) hx hb dX6_goesOut_14 (by decide) (fun c35 => ?_) (fun c35 => ?_)
  ·
    have d36 : dkN [(-2147483648, 0), (2, 2147483647)] v34 := dkN_ne1 (1) (dkN_top v34) (dkN_lit (x := 1) (1) rfl) (dk_ne c35) rfl
    exact C39 I0 _ _ ls v32 hW hS hF hO (dkN_sub dv32 rfl) (lv_sub hl [1, 2, 0] rfl)
  ·
    have d37 : dkN [(1, 1)] v34 := dkN_eq1 (dkN_top v34) (dkN_lit (x := 1) (1) rfl) (congrArg Int32.toInt c35) rfl
    refine lv_aload_n hx hb dX6_goesOut_17 rfl (lv_at hl 1 rfl) ?_
    refine lv_iload_n hx hb dX6_goesOut_18 rfl (lv_at hl 0 rfl) ?_
    refine lv_iconst (v := 4) hx hb dX6_goesOut_19 (by decide) ?_
    refine lv_iadd hx hb dX6_goesOut_20 ?_
    refine lv_topi (fun v38 ev38 => ?_)
    have dv38 : dkN [(10, 34)] v38 := by rw [ev38]; exact dkN_add dv32 (dkN_lit (x := 4) (4) rfl) rfl
    refine dk_ild (k := 346) hx hb hK (dk_at346 hW) (dkN_in (n := 54) dv38 rfl) dX6_goesOut_21 ?_
    refine lv_topi (fun v39 ev39 => ?_)
    refine lv_aload_n hx hb dX6_goesOut_22 rfl (lv_at hl 1 rfl) ?_
    refine lv_iconst (v := 0) hx hb dX6_goesOut_23 (by decide) ?_
    refine dk_ild (k := 346) hx hb hK (dk_at346 hW) (dkN_in (n := 54) (dkN_lit (x := 0) (0) rfl) rfl) dX6_goesOut_24 ?_
    refine lv_topi (fun v40 ev40 => ?_)
    have ev40 : v40 = I0 346 0 := ev40
    have dv40 : dkN [(0, 9)] v40 := by rw [ev40]; exact (show dkN [(0, 9)] (I0 346 0) from (hO 346 0))
    refine lv_iconst (v := 1) hx hb dX6_goesOut_25 (by decide) ?_
    refine lv_isub hx hb dX6_goesOut_26 ?_
    refine lv_topi (fun v41 ev41 => ?_)
    have dv41 : dkN [(-1, 8)] v41 := by rw [ev41]; exact dkN_subt dv40 (dkN_lit (x := 1) (1) rfl) rfl
    refine lv_icmp_ne (tgt := 39) hx hb dX6_goesOut_27 (by decide) (fun c42 => ?_) (fun c42 => ?_)
    ·
      exact C39 I0 _ _ ls v32 hW hS hF hO (dkN_sub dv32 rfl) (lv_sub hl [1, 2, 0] rfl)
    ·
      have d43 : dkN [(-1, 8)] v39 := dkN_eq1 (dkN_top v39) dv41 (congrArg Int32.toInt c42) rfl
      refine lv_aload_n hx hb dX6_goesOut_30 rfl (lv_at hl 1 rfl) ?_
      refine lv_iload_n hx hb dX6_goesOut_31 rfl (lv_at hl 0 rfl) ?_
      refine lv_iconst (v := 2) hx hb dX6_goesOut_32 (by decide) ?_
      refine lv_iadd hx hb dX6_goesOut_33 ?_
      refine lv_topi (fun v44 ev44 => ?_)
      have dv44 : dkN [(8, 32)] v44 := by rw [ev44]; exact dkN_add dv32 (dkN_lit (x := 2) (2) rfl) rfl
      refine lv_iconst (v := 2) hx hb dX6_goesOut_34 (by decide) ?_
      refine dk_ist (k := 346) hx hb hK hW (fun _ => rfl) (by decide) hS (dkN_in (n := 54) dv44 rfl) dX6_goesOut_35 (fun I45 H45 L45 eI45 hW hS => ?_)
      have hO := dkO_set hO eI45 (by rw [dkB_w (k := 346) (B := [(-2147483648, 2147483647)]) (by decide) dv44 rfl]; exact dkN_top _)
      have hF := dkF_set hF eI45 (dkIn_v dv44 rfl)
      refine lv_goto (tgt := 62) hx hb dX6_goesOut_36 (by decide) ?_
      exact C62 I45 _ _ ls v32 hW hS hF hO (dkN_sub dv32 rfl) (lv_sub hl [1, 2, 0] rfl)
set_option maxHeartbeats 4000000 in
set_option maxRecDepth 100000 in
theorem c_X6_size_0 (l : Launch) (g : dkG) (z : Nat) (I0 : dkI) (p0 : Int32)  (hO : dkOk I0) : Met l yX6_size wsX6_size (dkR 0) (dkPc g z [.int p0] I0) (dkQi g z (fun r I1 => dkF [] I0 I1 ∧ dkOk I1 ∧ ((True ∧ True)))) 0 0 (dkA z) := by
  refine Met.ofW (cc := cX6_size) (maxL := 1) (ret := (some .int)) (by decide) rfl ?_
  intro p e s m args below meth c s₁ B hml hv
  obtain ⟨ha, hW, hK, hT⟩ := hv
  have hx := B.exec
  have hb := B.bytes
  have hr := B.returns
  have hts := atoms_spec (ws := wsX6_size) B.pre
  have hown : s.vm.findClass RX6 = some m.cls := findClass_of_methodNamed B.named
  have hlocks := B.notSynchronized
  have hS : va_S (dkA z) s.heap s.heap [] := va_S.rf
  have hF : dkF [] I0 I0 := dkF_rf _ _
  have hl := lv_entry ([.int p0]) (n := 1) (Nat.le_of_ble_eq_true rfl)
  have hgo : entryFrame m args 1 = entryFrame m ([.int p0] : List Value).toArray 1 := by rw [ha]
  rw [hgo, lg_entry_eq]
  generalize (lg_sl ([.int p0]) ++ List.replicate (1 - (lg_sl ([.int p0])).length) Slot.unset).toArray = ls at hl ⊢
  have hl : lv_has ls 1 [(0, .int p0)] := hl
  refine lv_iload_n hx hb dX6_size_0 rfl (lv_at hl 0 rfl) ?_
  refine lv_if_ge (tgt := 9) hx hb dX6_size_1 (by decide) (fun c1 => ?_) (fun c1 => ?_)
  ·
    have d2 : dkN [(0, 2147483647)] p0 := dkN_le2 0 (dkN_lit (x := 0) (0) rfl) (dkN_top p0) (dkc_le c1) rfl
    refine lv_iload_n hx hb dX6_size_9 rfl (lv_at hl 0 rfl) ?_
    exact W.iret (v := p0) hx hb hr (fun t ht hW9 => ⟨⟨p0, I0, rfl, ⟨hF, hO, ⟨trivial, trivial⟩⟩, dkW_eq ht hW⟩, hS.F ht⟩) hS.2.2 dX6_size_10
  ·
    have d3 : dkN [(-2147483648, -1)] p0 := dkN_le1 1 (dkN_top p0) (dkN_lit (x := 0) (0) rfl) (dkc_nle c1) rfl
    refine lv_iload_n hx hb dX6_size_4 rfl (lv_at hl 0 rfl) ?_
    refine lv_ineg hx hb dX6_size_5 ?_
    refine lv_topi (fun v4 ev4 => ?_)
    refine lv_goto (tgt := 10) hx hb dX6_size_6 (by decide) ?_
    exact W.iret (v := v4) hx hb hr (fun t ht hW9 => ⟨⟨v4, I0, rfl, ⟨hF, hO, ⟨trivial, trivial⟩⟩, dkW_eq ht hW⟩, hS.F ht⟩) hS.2.2 dX6_size_10
