set_option maxHeartbeats 4000000 in
set_option maxRecDepth 100000 in
theorem c_X6_kingOf_2 (l : Launch) (g : dkG) (z : Nat) (I0 : dkI) (p0 : Int32)  (hO : dkOk I0) : Met l yX6_kingOf wsX6_kingOf (dkR 2) (dkPc g z [.ref (z + 348), .int p0] I0) (dkQi g z (fun r I1 => dkF [] I0 I1 ∧ dkOk I1 ∧ ((dkN [(-1000000, -1000000), (0, 4)] r ∧ True)))) 0 0 (dkA z) := by
  refine Met.ofW (cc := cX6_kingOf) (maxL := 6) (ret := (some .int)) (by decide) rfl ?_
  intro p e s m args below meth c s₁ B hml hv
  obtain ⟨ha, hW, hK, hT⟩ := hv
  have hx := B.exec
  have hb := B.bytes
  have hr := B.returns
  have hts := atoms_spec (ws := wsX6_kingOf) B.pre
  have hown : s.vm.findClass RX6 = some m.cls := findClass_of_methodNamed B.named
  have hlocks := B.notSynchronized
  have hS : va_S (dkA z) s.heap s.heap [] := va_S.rf
  have hF : dkF [] I0 I0 := dkF_rf _ _
  have hl := lv_entry ([.ref (z + 348), .int p0]) (n := 6) (Nat.le_of_ble_eq_true rfl)
  have hgo : entryFrame m args 6 = entryFrame m ([.ref (z + 348), .int p0] : List Value).toArray 6 := by rw [ha]
  rw [hgo, lg_entry_eq]
  generalize (lg_sl ([.ref (z + 348), .int p0]) ++ List.replicate (6 - (lg_sl ([.ref (z + 348), .int p0])).length) Slot.unset).toArray = ls at hl ⊢
  have hl : lv_has ls 6 [(0, .ref (z + 348)), (1, .int p0)] := hl
  have C8 : ∀ (n : Nat), ∀ (I : dkI) (H : Heap) (locs : List Loc) (ls : Array Slot) (x8_2 : Int32) (x8_3 : Int32) (x8_4 : Int32), (5 - x8_4.toInt).toNat < n → dkW g z I H → va_S (dkA z) s.heap H locs → dkF [] I0 I → dkOk I → dkN [(-1000000, -1000000), (0, 4)] x8_2 → dkN [(0, 2147483647)] x8_3 → dkN [(0, 5)] x8_4 → lv_has ls 6 [(0, .ref (z + 348)), (1, .int p0), (2, .int x8_2), (3, .int x8_3), (4, .int x8_4)] → W p l e (headSpec wsX6_kingOf (dkR 2)).room s m args below meth c H locs 0 0 (MQ below (dkQi g z (fun r I1 => dkF [] I0 I1 ∧ dkOk I1 ∧ ((dkN [(-1000000, -1000000), (0, 4)] r ∧ True)))) args s 0 0 (dkA z)) (F0 m 8 ls []) := by
    intro n
    induction n with
    | zero => intro I H locs ls x8_2 x8_3 x8_4 hn; exact absurd hn (Nat.not_lt_zero _)
    | succ n ih8 =>
      intro I8_ H locs ls x8_2 x8_3 x8_4 hn8 hW hS hF_8 hO k8_0 k8_1 k8_2 hl
      have hF := hF_8
      have C62 : ∀ (I : dkI) (H : Heap) (locs : List Loc) (ls : Array Slot) (x62_2 : Int32) (x62_5 : Int32) (x62_s0 : Int32), dkW g z I H → va_S (dkA z) s.heap H locs → dkF [] I0 I → dkOk I → dkN [(-1000000, -1000000), (0, 4)] x62_2 → dkN [(0, 2147483647)] x62_s0 → dkN [(0, 2147483647)] x8_3 → dkN [(0, 4)] x8_4 → dkN [(1, 5)] (I 348 4) → lv_has ls 6 [(0, .ref (z + 348)), (1, .int p0), (2, .int x62_2), (3, .int x8_3), (4, .int x8_4), (5, .int x62_5)] → W p l e (headSpec wsX6_kingOf (dkR 2)).room s m args below meth c H locs 0 0 (MQ below (dkQi g z (fun r I1 => dkF [] I0 I1 ∧ dkOk I1 ∧ ((dkN [(-1000000, -1000000), (0, 4)] r ∧ True)))) args s 0 0 (dkA z)) (F0 m 62 ls [.int x62_s0]) := by
        intro I62_ H locs ls x62_2 x62_5 x62_s0 hW hS hF_62 hO k62_0 k62_2 r62_0 r62_1 f62_0 hl
        have hF := hF_62
        refine lv_istore_n (lv' := [(3, .int x62_s0), (0, .ref (z + 348)), (1, .int p0), (2, .int x62_2), (4, .int x8_4), (5, .int x62_5)]) hx hb dX6_kingOf_62 rfl hl (by decide) rfl (fun ls hl => ?_)
        obtain ⟨v1, ev1⟩ : ∃ y : Int32, y = x8_4 + 1 := ⟨_, rfl⟩
        have dv1 : dkN [(1, 5)] v1 := by rw [ev1]; exact dkN_add r62_1 (dkN_lit (x := 1) (1) rfl) rfl
        refine lv_iinc (v := v1) (lv' := [(4, .int v1), (3, .int x62_s0), (0, .ref (z + 348)), (1, .int p0), (2, .int x62_2), (5, .int x62_5)]) hx hb dX6_kingOf_63 hl (k := 4) rfl (by rw [ev1]; rfl) (by decide) rfl (fun ls hl => ?_)
        refine lv_goto (tgt := 8) hx hb dX6_kingOf_66 (by decide) ?_
        exact ih8 I62_ _ _ ls x62_2 x62_s0 v1 (dk_near hn8 (by rw [ev1]; exact dk_inc r62_1 rfl) (dkN_lt r62_1 rfl)) hW hS hF hO (dkN_sub k62_0 rfl) (dkN_sub k62_2 rfl) (dkN_sub dv1 rfl) (lv_sub hl [2, 3, 4, 1, 0] rfl)
      have C49 : ∀ (I : dkI) (H : Heap) (locs : List Loc) (ls : Array Slot) (x49_5 : Int32) (x49_s0 : Int32), dkW g z I H → va_S (dkA z) s.heap H locs → dkF [] I0 I → dkOk I → dkN [(-1000000, -1000000), (0, 4)] x49_s0 → dkN [(-1000000, -1000000), (0, 4)] x8_2 → dkN [(0, 2147483647)] x8_3 → dkN [(0, 4)] x8_4 → dkN [(1, 5)] (I 348 4) → lv_has ls 6 [(0, .ref (z + 348)), (1, .int p0), (2, .int x8_2), (3, .int x8_3), (4, .int x8_4), (5, .int x49_5)] → W p l e (headSpec wsX6_kingOf (dkR 2)).room s m args below meth c H locs 0 0 (MQ below (dkQi g z (fun r I1 => dkF [] I0 I1 ∧ dkOk I1 ∧ ((dkN [(-1000000, -1000000), (0, 4)] r ∧ True)))) args s 0 0 (dkA z)) (F0 m 49 ls [.int x49_s0]) := by
        intro I49_ H locs ls x49_5 x49_s0 hW hS hF_49 hO k49_1 r49_0 r49_1 r49_2 f49_0 hl
        have hF := hF_49
        refine lv_istore_n (lv' := [(2, .int x49_s0), (0, .ref (z + 348)), (1, .int p0), (3, .int x8_3), (4, .int x8_4), (5, .int x49_5)]) hx hb dX6_kingOf_49 rfl hl (by decide) rfl (fun ls hl => ?_)
        refine lv_iload hx hb dX6_kingOf_50 (lv_at hl 5 rfl) ?_
        refine lv_iload_n hx hb dX6_kingOf_52 rfl (lv_at hl 3 rfl) ?_
        refine lv_icmp_le (tgt := 61) hx hb dX6_kingOf_53 (by decide) (fun c2 => ?_) (fun c2 => ?_)
        ·
          refine lv_iload_n hx hb dX6_kingOf_61 rfl (lv_at hl 3 rfl) ?_
          exact C62 I49_ _ _ ls x49_s0 x49_5 x8_3 hW hS hF hO (dkN_sub k49_1 rfl) (dkN_sub r49_1 rfl) (dkN_sub r49_1 rfl) (dkN_sub r49_2 rfl) (show dkN [(1, 5)] (I49_ 348 4) from dkN_sub f49_0 rfl) (lv_sub hl [1, 2, 0, 3, 4, 5] rfl)
        ·
          have d3 : dkN [(1, 2147483647)] x49_5 := dkN_le2 1 r49_1 (dkN_top x49_5) (dkc_nle c2) rfl
          have d4 : dkN [(0, 2147483646)] x8_3 := dkN_le1 1 r49_1 (dkN_top x49_5) (dkc_nle c2) rfl
          refine lv_iload hx hb dX6_kingOf_56 (lv_at hl 5 rfl) ?_
          refine lv_goto (tgt := 62) hx hb dX6_kingOf_58 (by decide) ?_
          exact C62 I49_ _ _ ls x49_s0 x49_5 x49_5 hW hS hF hO (dkN_sub k49_1 rfl) (dkN_sub d3 rfl) (dkN_sub d4 rfl) (dkN_sub r49_2 rfl) (show dkN [(1, 5)] (I49_ 348 4) from dkN_sub f49_0 rfl) (lv_sub hl [1, 2, 0, 3, 4, 5] rfl)
      refine lv_iload hx hb dX6_kingOf_8 (lv_at hl 4 rfl) ?_
      refine lv_aload_n hx hb dX6_kingOf_10 rfl (lv_at hl 0 rfl) ?_
      refine lv_iconst (v := 4) hx hb dX6_kingOf_11 (by decide) ?_
      refine dk_ild (k := 348) hx hb hK (dk_at348 hW) (dkN_in (n := 54) (dkN_lit (x := 4) (4) rfl) rfl) dX6_kingOf_12 ?_
      refine lv_topi (fun v5 ev5 => ?_)
      have ev5 : v5 = I8_ 348 4 := ev5
      have dv5 : dkN [(0, 5)] v5 := by rw [ev5]; exact (show dkN [(0, 5)] (I8_ 348 4) from (hO 348 4))
      refine lv_icmp_ge (tgt := 69) hx hb dX6_kingOf_13 (by decide) (fun c6 => ?_) (fun c6 => ?_)
      ·
        refine lv_iload_n hx hb dX6_kingOf_69 rfl (lv_at hl 2 rfl) ?_
        exact W.iret (v := x8_2) hx hb hr (fun t ht hW9 => ⟨⟨x8_2, I8_, rfl, ⟨hF, hO, ⟨dkN_sub k8_0 rfl, trivial⟩⟩, dkW_eq ht hW⟩, hS.F ht⟩) hS.2.2 dX6_kingOf_70
      ·
        have d7 : dkN [(1, 5)] v5 := dkN_le2 1 k8_2 dv5 (dkc_nle c6) rfl
        have f8 : dkN [(1, 5)] (I8_ 348 4) := by rw [← ev5]; exact d7
        have d9 : dkN [(0, 4)] x8_4 := dkN_le1 1 k8_2 dv5 (dkc_nle c6) rfl
        refine lv_aload_n hx hb dX6_kingOf_16 rfl (lv_at hl 0 rfl) ?_
        refine lv_aload_n hx hb dX6_kingOf_17 rfl (lv_at hl 0 rfl) ?_
        refine lv_bipush (v := 6) hx hb dX6_kingOf_18 (by decide) ?_
        refine lv_bipush (v := 6) hx hb dX6_kingOf_20 (by decide) ?_
        refine lv_iload hx hb dX6_kingOf_22 (lv_at hl 4 rfl) ?_
        refine lv_imul hx hb dX6_kingOf_24 ?_
        refine lv_topi (fun v10 ev10 => ?_)
        have dv10 : dkN [(0, 24)] v10 := by rw [ev10]; exact dkN_mulL 6 (by decide) (dkN_lit (x := 6) (6) rfl) d9 rfl
        refine lv_iadd hx hb dX6_kingOf_25 ?_
        refine lv_topi (fun v11 ev11 => ?_)
        have dv11 : dkN [(6, 30)] v11 := by rw [ev11]; exact dkN_add (dkN_lit (x := 6) (6) rfl) dv10 rfl
        refine lv_iconst (v := 4) hx hb dX6_kingOf_26 (by decide) ?_
        refine lv_iadd hx hb dX6_kingOf_27 ?_
        refine lv_topi (fun v12 ev12 => ?_)
        have dv12 : dkN [(10, 34)] v12 := by rw [ev12]; exact dkN_add dv11 (dkN_lit (x := 4) (4) rfl) rfl
        refine dk_ild (k := 348) hx hb hK (dk_at348 hW) (dkN_in (n := 54) dv12 rfl) dX6_kingOf_28 ?_
        refine lv_topi (fun v13 ev13 => ?_)
        refine lv_ldc (v := (-1000000)) hx hb hown (hts (.constant RX6 50 (-1000000)) (List.mem_of_getElem? (i := 1) rfl)) dX6_kingOf_29 ?_
        refine lv_iload_n hx hb dX6_kingOf_31 rfl (lv_at hl 1 rfl) ?_
        refine dk_Si (As := [.ref (z + 348), .int v13, .int ((-1000000)), .int p0]) (rest := []) ⟨hx, hb, hml, hown, hts⟩ (c_X6_othersIn_1 l g z I8_ v13 ((-1000000)) p0 (dkN_sub (dkN_lit (x := (-1000000)) (-1000000) rfl) rfl) hO) (va_cwS 4 hts gX6_kingOf_X6_othersIn rfl rfl rfl (by decide +kernel) ⟨Nat.le_of_ble_eq_true rfl, Nat.le_of_ble_eq_true rfl⟩) hK hT hW hS rfl hl.1 rfl (Nat.le_of_ble_eq_true rfl) dX6_kingOf_32 ⟨Nat.zero_le _, Nat.zero_le _⟩ (fun v14 I14 H14 L14 hp14 hW hS => ?_)
        obtain ⟨hF14, hO, hc14⟩ := hp14
        have hF := dkF_call hF hF14 rfl
        obtain ⟨_, -⟩ := hc14
        refine lv_istore (lv' := [(5, .int v14), (0, .ref (z + 348)), (1, .int p0), (2, .int x8_2), (3, .int x8_3), (4, .int x8_4)]) hx hb dX6_kingOf_35 hl (by decide) rfl (fun ls hl => ?_)
        refine lv_iload hx hb dX6_kingOf_37 (lv_at hl 0 rfl) ?_
        refine lv_iload_n hx hb dX6_kingOf_39 rfl (lv_at hl 4 rfl) ?_
        refine lv_icmp_le (tgt := 48) hx hb dX6_kingOf_40 (by decide) (fun c15 => ?_) (fun c15 => ?_)
        ·
          refine lv_iload_n hx hb dX6_kingOf_48 rfl (lv_at hl 3 rfl) ?_
          exact C49 I14 _ _ ls v14 x8_2 hW hS hF hO (dkN_sub k8_0 rfl) (dkN_sub k8_0 rfl) (dkN_sub k8_1 rfl) (dkN_sub d9 rfl) (show dkN [(1, 5)] (I14 348 4) from dkN_sub (by rw [hF14 348 4 rfl]; exact f8) rfl) (lv_sub hl [1, 2, 3, 4, 5, 0] rfl)
        ·
          have d16 : dkN [(1, 2147483647)] v14 := dkN_le2 1 k8_1 (dkN_top v14) (dkc_nle c15) rfl
          have d17 : dkN [(0, 2147483646)] x8_3 := dkN_le1 1 k8_1 (dkN_top v14) (dkc_nle c15) rfl
          refine lv_iload hx hb dX6_kingOf_43 (lv_at hl 5 rfl) ?_
          refine lv_goto (tgt := 49) hx hb dX6_kingOf_45 (by decide) ?_
          exact C49 I14 _ _ ls v14 x8_4 hW hS hF hO (dkN_sub d9 rfl) (dkN_sub k8_0 rfl) (dkN_sub d17 rfl) (dkN_sub d9 rfl) (show dkN [(1, 5)] (I14 348 4) from dkN_sub (by rw [hF14 348 4 rfl]; exact f8) rfl) (lv_sub hl [1, 2, 3, 4, 5, 0] rfl)
  refine lv_ldc (v := (-1000000)) hx hb hown (hts (.constant RX6 50 (-1000000)) (List.mem_of_getElem? (i := 1) rfl)) dX6_kingOf_0 ?_
  refine lv_istore_n (lv' := [(2, .int ((-1000000))), (0, .ref (z + 348)), (1, .int p0)]) hx hb dX6_kingOf_2 rfl hl (by decide) rfl (fun ls hl => ?_)
  refine lv_iconst (v := 0) hx hb dX6_kingOf_3 (by decide) ?_
  refine lv_istore_n (lv' := [(3, .int 0), (2, .int ((-1000000))), (0, .ref (z + 348)), (1, .int p0)]) hx hb dX6_kingOf_4 rfl hl (by decide) rfl (fun ls hl => ?_)
  refine lv_iconst (v := 0) hx hb dX6_kingOf_5 (by decide) ?_
  refine lv_istore (lv' := [(4, .int 0), (3, .int 0), (2, .int ((-1000000))), (0, .ref (z + 348)), (1, .int p0)]) hx hb dX6_kingOf_6 hl (by decide) rfl (fun ls hl => ?_)
  exact C8 _ I0 _ _ ls ((-1000000)) 0 0 (Nat.lt_succ_self _) hW hS hF hO (dkN_sub (dkN_lit (x := (-1000000)) (-1000000) rfl) rfl) (dkN_sub (dkN_lit (x := 0) (0) rfl) rfl) (dkN_sub (dkN_lit (x := 0) (0) rfl) rfl) (lv_sub hl [3, 4, 2, 1, 0] rfl)
set_option maxHeartbeats 4000000 in
set_option maxRecDepth 100000 in
theorem c_X6_nextKing_0 (l : Launch) (g : dkG) (z : Nat) (I0 : dkI)  (hO : dkOk I0) : Met l yX6_nextKing wsX6_nextKing (dkR 6) (dkPc g z [.ref (z + 340)] I0) (dkQi g z (fun r I1 => dkF [(348, 348, 3, 3), (348, 348, 8, 34), (348, 348, 38, 38), (348, 348, 41, 41), (348, 348, 44, 44), (348, 348, 47, 47), (348, 348, 50, 50), (348, 348, 53, 53)] I0 I1 ∧ dkOk I1 ∧ ((dkN [(-1000000, -1000000), (0, 4)] r ∧ dkN [(0, 2147483647)] (I1 348 3) ∧ True)))) 0 0 (dkA z) := by
  refine Met.ofW (cc := cX6_nextKing) (maxL := 1) (ret := (some .int)) (by decide) rfl ?_
  intro p e s m args below meth c s₁ B hml hv
  obtain ⟨ha, hW, hK, hT⟩ := hv
  have hx := B.exec
  have hb := B.bytes
  have hr := B.returns
  have hts := atoms_spec (ws := wsX6_nextKing) B.pre
  have hown : s.vm.findClass RX6 = some m.cls := findClass_of_methodNamed B.named
  have hlocks := B.notSynchronized
  have hS : va_S (dkA z) s.heap s.heap [] := va_S.rf
  have hF : dkF [(348, 348, 3, 3), (348, 348, 8, 34), (348, 348, 38, 38), (348, 348, 41, 41), (348, 348, 44, 44), (348, 348, 47, 47), (348, 348, 50, 50), (348, 348, 53, 53)] I0 I0 := dkF_rf _ _
  have hl := lv_entry ([.ref (z + 340)]) (n := 1) (Nat.le_of_ble_eq_true rfl)
  have hgo : entryFrame m args 1 = entryFrame m ([.ref (z + 340)] : List Value).toArray 1 := by rw [ha]
  rw [hgo, lg_entry_eq]
  generalize (lg_sl ([.ref (z + 340)]) ++ List.replicate (1 - (lg_sl ([.ref (z + 340)])).length) Slot.unset).toArray = ls at hl ⊢
  have hl : lv_has ls 1 [(0, .ref (z + 340))] := hl
  refine lv_aload_n hx hb dX6_nextKing_0 rfl (lv_at hl 0 rfl) ?_
  refine dk_Vv (As := []) (rest := []) ⟨hx, hb, hml, hown, hts⟩ (c_X6_toBell_0 l g z I0 hO) (cwV 0 hts gX6_nextKing_X6_toBell rfl rfl rfl (by decide +kernel) ⟨Nat.le_of_ble_eq_true rfl, Nat.le_of_ble_eq_true rfl⟩) (dk_at340 hW) rfl hK hT hW hS rfl hl.1 rfl (Nat.le_of_ble_eq_true rfl) dX6_nextKing_1 ⟨Nat.zero_le _, Nat.zero_le _⟩ (fun I1 H1 L1 hp1 hW hS => ?_)
  obtain ⟨hF1, hO, hc1⟩ := hp1
  have hF := dkF_call hF hF1 rfl
  obtain ⟨f1_348_3, -⟩ := hc1
  refine lv_aload_n hx hb dX6_nextKing_4 rfl (lv_at hl 0 rfl) ?_
  refine dk_get (k := 340) hx hb hts iX6_nextKing_6 hown hK (dk_at340 hW) rfl 15 (by decide) (hts (.fieldLink RX6 31 "DogKingsModel" "tried" "[I") (List.mem_of_getElem? (i := 1) rfl)) rfl dX6_nextKing_5 ?_
  refine lv_aload_n hx hb dX6_nextKing_8 rfl (lv_at hl 0 rfl) ?_
  refine dk_get (k := 340) hx hb hts iX6_nextKing_6 hown hK (dk_at340 hW) rfl 20 (by decide) (hts (.fieldLink RX6 209 "DogKingsModel" "gone" "I") (List.mem_of_getElem? (i := 2) rfl)) rfl dX6_nextKing_9 ?_
  refine lv_topi (fun v2 ev2 => ?_)
  refine dk_Si (As := [.ref (z + 348), .int v2]) (rest := []) ⟨hx, hb, hml, hown, hts⟩ (c_X6_kingOf_2 l g z I1 v2 hO) (va_cwS 2 hts gX6_nextKing_X6_kingOf rfl rfl rfl (by decide +kernel) ⟨Nat.le_of_ble_eq_true rfl, Nat.le_of_ble_eq_true rfl⟩) hK hT hW hS rfl hl.1 rfl (Nat.le_of_ble_eq_true rfl) dX6_nextKing_12 ⟨Nat.zero_le _, Nat.zero_le _⟩ (fun v3 I3 H3 L3 hp3 hW hS => ?_)
  obtain ⟨hF3, hO, hc3⟩ := hp3
  have hF := dkF_call hF hF3 rfl
  obtain ⟨dv3, -⟩ := hc3
  exact W.iret (v := v3) hx hb hr (fun t ht hW9 => ⟨⟨v3, I3, rfl, ⟨hF, hO, ⟨dkN_sub dv3 rfl, (show dkN [(0, 2147483647)] (I3 348 3) from dkN_sub (by rw [hF3 348 3 rfl]; exact f1_348_3) rfl), trivial⟩⟩, dkW_eq ht hW⟩, hS.F ht⟩) hS.2.2 dX6_nextKing_15
set_option maxHeartbeats 4000000 in
set_option maxRecDepth 100000 in
theorem c_X6_least_0 (l : Launch) (g : dkG) (z : Nat) (I0 : dkI) (p0 : Int32)  (hO : dkOk I0) : Met l yX6_least wsX6_least (dkR 7) (dkPc g z [.ref (z + 340), .int p0] I0) (dkQi g z (fun r I1 => dkF [(340, 340, 20, 22), (348, 348, 0, 53)] I0 I1 ∧ dkOk I1 ∧ ((dkN [(-1000001, -1000001)] r ∧ True) ∨ (dkN [(-1000000, -1000000)] r ∧ dkN [(0, 4)] p0 ∧ True) ∨ (dkN [(0, 9)] r ∧ dkN [(0, 4)] p0 ∧ dkN [(0, 0)] (I1 340 20) ∧ dkN [(0, 0)] (I1 340 21) ∧ dkN [(0, 0)] (I1 340 22) ∧ dkN [(0, 2147483647)] (I1 348 3) ∧ True)))) 0 0 (dkA z) := by
  refine Met.ofW (cc := cX6_least) (maxL := 3) (ret := (some .int)) (by decide) rfl ?_
  intro p e s m args below meth c s₁ B hml hv
  obtain ⟨ha, hW, hK, hT⟩ := hv
  have hx := B.exec
  have hb := B.bytes
  have hr := B.returns
  have hts := atoms_spec (ws := wsX6_least) B.pre
  have hown : s.vm.findClass RX6 = some m.cls := findClass_of_methodNamed B.named
  have hlocks := B.notSynchronized
  have hS : va_S (dkA z) s.heap s.heap [] := va_S.rf
  have hF : dkF [(340, 340, 20, 22), (348, 348, 0, 53)] I0 I0 := dkF_rf _ _
  have hl := lv_entry ([.ref (z + 340), .int p0]) (n := 3) (Nat.le_of_ble_eq_true rfl)
  have hgo : entryFrame m args 3 = entryFrame m ([.ref (z + 340), .int p0] : List Value).toArray 3 := by rw [ha]
  rw [hgo, lg_entry_eq]
  generalize (lg_sl ([.ref (z + 340), .int p0]) ++ List.replicate (3 - (lg_sl ([.ref (z + 340), .int p0])).length) Slot.unset).toArray = ls at hl ⊢
  have hl : lv_has ls 3 [(0, .ref (z + 340)), (1, .int p0)] := hl
  have C13 : ∀ (n : Nat), ∀ (I : dkI) (H : Heap) (locs : List Loc) (ls : Array Slot) (x13_2 : Int32), (10 - x13_2.toInt).toNat < n → dkW g z I H → va_S (dkA z) s.heap H locs → dkF [(340, 340, 20, 22), (348, 348, 0, 53)] I0 I → dkOk I → dkN [(0, 10)] x13_2 → dkN [(0, 4)] p0 → lv_has ls 3 [(0, .ref (z + 340)), (1, .int p0), (2, .int x13_2)] → W p l e (headSpec wsX6_least (dkR 7)).room s m args below meth c H locs 0 0 (MQ below (dkQi g z (fun r I1 => dkF [(340, 340, 20, 22), (348, 348, 0, 53)] I0 I1 ∧ dkOk I1 ∧ ((dkN [(-1000001, -1000001)] r ∧ True) ∨ (dkN [(-1000000, -1000000)] r ∧ dkN [(0, 4)] p0 ∧ True) ∨ (dkN [(0, 9)] r ∧ dkN [(0, 4)] p0 ∧ dkN [(0, 0)] (I1 340 20) ∧ dkN [(0, 0)] (I1 340 21) ∧ dkN [(0, 0)] (I1 340 22) ∧ dkN [(0, 2147483647)] (I1 348 3) ∧ True)))) args s 0 0 (dkA z)) (F0 m 13 ls []) := by
    intro n
    induction n with
    | zero => intro I H locs ls x13_2 hn; exact absurd hn (Nat.not_lt_zero _)
    | succ n ih13 =>
      intro I13_ H locs ls x13_2 hn13 hW hS hF_13 hO k13_0 r13_0 hl
      have hF := hF_13
      refine lv_iload_n hx hb dX6_least_13 rfl (lv_at hl 2 rfl) ?_
      refine lv_bipush (v := 10) hx hb dX6_least_14 (by decide) ?_
      refine lv_icmp_ge (tgt := 54) hx hb dX6_least_16 (by decide) (fun c1 => ?_) (fun c1 => ?_)
      ·
        have d2 : dkN [(10, 10)] x13_2 := dkN_le2 0 (dkN_lit (x := 10) (10) rfl) k13_0 (dkc_le c1) rfl
        refine lv_ldc (v := (-1000000)) hx hb hown (hts (.constant RX6 50 (-1000000)) (List.mem_of_getElem? (i := 3) rfl)) dX6_least_54 ?_
        exact W.iret (v := (-1000000)) hx hb hr (fun t ht hW9 => ⟨⟨(-1000000), I13_, rfl, ⟨hF, hO, Or.inr (Or.inl ⟨dkN_sub (dkN_lit (x := (-1000000)) (-1000000) rfl) rfl, dkN_sub r13_0 rfl, trivial⟩)⟩, dkW_eq ht hW⟩, hS.F ht⟩) hS.2.2 dX6_least_56
      ·
        have d3 : dkN [(0, 9)] x13_2 := dkN_le1 1 k13_0 (dkN_lit (x := 10) (10) rfl) (dkc_nle c1) rfl
        refine lv_aload_n hx hb dX6_least_19 rfl (lv_at hl 0 rfl) ?_
        refine dk_Vv (As := []) (rest := []) ⟨hx, hb, hml, hown, hts⟩ (c_X6_tries_0 l g z I13_ hO) (cwV 0 hts gX6_least_X6_tries rfl rfl rfl (by decide +kernel) ⟨Nat.le_of_ble_eq_true rfl, Nat.le_of_ble_eq_true rfl⟩) (dk_at340 hW) rfl hK hT hW hS rfl hl.1 rfl (Nat.le_of_ble_eq_true rfl) dX6_least_20 ⟨Nat.zero_le _, Nat.zero_le _⟩ (fun I4 H4 L4 hp4 hW hS => ?_)
        obtain ⟨hF4, hO, hc4⟩ := hp4
        have hF := dkF_call hF hF4 rfl
        obtain ⟨f4_340_20, f4_340_21, f4_340_22, -⟩ := hc4
        refine lv_aload_n hx hb dX6_least_23 rfl (lv_at hl 0 rfl) ?_
        refine dk_get (k := 340) hx hb hts iX6_least_6 hown hK (dk_at340 hW) rfl 15 (by decide) (hts (.fieldLink RX6 31 "DogKingsModel" "tried" "[I") (List.mem_of_getElem? (i := 2) rfl)) rfl dX6_least_24 ?_
        refine lv_bipush (v := 6) hx hb dX6_least_27 (by decide) ?_
        refine lv_bipush (v := 6) hx hb dX6_least_29 (by decide) ?_
        refine lv_iload_n hx hb dX6_least_31 rfl (lv_at hl 1 rfl) ?_
        refine lv_imul hx hb dX6_least_32 ?_
        refine lv_topi (fun v5 ev5 => ?_)
        have dv5 : dkN [(0, 24)] v5 := by rw [ev5]; exact dkN_mulL 6 (by decide) (dkN_lit (x := 6) (6) rfl) r13_0 rfl
        refine lv_iadd hx hb dX6_least_33 ?_
        refine lv_topi (fun v6 ev6 => ?_)
        have dv6 : dkN [(6, 30)] v6 := by rw [ev6]; exact dkN_add (dkN_lit (x := 6) (6) rfl) dv5 rfl
        refine lv_iconst (v := 3) hx hb dX6_least_34 (by decide) ?_
        refine lv_iadd hx hb dX6_least_35 ?_
        refine lv_topi (fun v7 ev7 => ?_)
        have dv7 : dkN [(9, 33)] v7 := by rw [ev7]; exact dkN_add dv6 (dkN_lit (x := 3) (3) rfl) rfl
        refine lv_iload_n hx hb dX6_least_36 rfl (lv_at hl 2 rfl) ?_
        refine dk_ist (k := 348) hx hb hK hW (fun _ => rfl) (by decide) hS (dkN_in (n := 54) dv7 rfl) dX6_least_37 (fun I8 H8 L8 eI8 hW hS => ?_)
        have hO := dkO_set hO eI8 (by rw [dkB_w (k := 348) (B := [(-2147483648, 2147483647)]) (by decide) dv7 rfl]; exact dkN_top _)
        have hF := dkF_set hF eI8 (dkIn_v dv7 rfl)
        refine lv_aload_n hx hb dX6_least_38 rfl (lv_at hl 0 rfl) ?_
        refine dk_Vi (As := []) (rest := []) ⟨hx, hb, hml, hown, hts⟩ (c_X6_nextKing_0 l g z I8 hO) (cwV 0 hts gX6_least_X6_nextKing rfl rfl rfl (by decide +kernel) ⟨Nat.le_of_ble_eq_true rfl, Nat.le_of_ble_eq_true rfl⟩) (dk_at340 hW) rfl hK hT hW hS rfl hl.1 rfl (Nat.le_of_ble_eq_true rfl) dX6_least_39 ⟨Nat.zero_le _, Nat.zero_le _⟩ (fun v9 I9 H9 L9 hp9 hW hS => ?_)
        obtain ⟨hF9, hO, hc9⟩ := hp9
        have hF := dkF_call hF hF9 rfl
        obtain ⟨dv9, f9_348_3, -⟩ := hc9
        refine lv_iload_n hx hb dX6_least_42 rfl (lv_at hl 1 rfl) ?_
        refine lv_icmp_ne (tgt := 48) hx hb dX6_least_43 (by decide) (fun c10 => ?_) (fun c10 => ?_)
        ·
          obtain ⟨v11, ev11⟩ : ∃ y : Int32, y = x13_2 + 1 := ⟨_, rfl⟩
          have dv11 : dkN [(1, 10)] v11 := by rw [ev11]; exact dkN_add d3 (dkN_lit (x := 1) (1) rfl) rfl
          refine lv_iinc (v := v11) (lv' := [(2, .int v11), (0, .ref (z + 340)), (1, .int p0)]) hx hb dX6_least_48 hl (k := 2) rfl (by rw [ev11]; rfl) (by decide) rfl (fun ls hl => ?_)
          refine lv_goto (tgt := 13) hx hb dX6_least_51 (by decide) ?_
          exact ih13 I9 _ _ ls v11 (dk_near hn13 (by rw [ev11]; exact dk_inc d3 rfl) (dkN_lt d3 rfl)) hW hS hF hO (dkN_sub dv11 rfl) (dkN_sub r13_0 rfl) (lv_sub hl [1, 2, 0] rfl)
        ·
          have d12 : dkN [(0, 4)] v9 := dkN_eq1 dv9 r13_0 (congrArg Int32.toInt c10) rfl
          refine lv_iload_n hx hb dX6_least_46 rfl (lv_at hl 2 rfl) ?_
          exact W.iret (v := x13_2) hx hb hr (fun t ht hW9 => ⟨⟨x13_2, I9, rfl, ⟨hF, hO, Or.inr (Or.inr (⟨dkN_sub d3 rfl, dkN_sub r13_0 rfl, (show dkN [(0, 0)] (I9 340 20) from dkN_sub (by rw [hF9 340 20 rfl]; exact (by rw [eI8, dkU_n (by decide)]; exact f4_340_20)) rfl), (show dkN [(0, 0)] (I9 340 21) from dkN_sub (by rw [hF9 340 21 rfl]; exact (by rw [eI8, dkU_n (by decide)]; exact f4_340_21)) rfl), (show dkN [(0, 0)] (I9 340 22) from dkN_sub (by rw [hF9 340 22 rfl]; exact (by rw [eI8, dkU_n (by decide)]; exact f4_340_22)) rfl), (show dkN [(0, 2147483647)] (I9 348 3) from dkN_sub f9_348_3 rfl), trivial⟩))⟩, dkW_eq ht hW⟩, hS.F ht⟩) hS.2.2 dX6_least_47
  refine lv_aload_n hx hb dX6_least_0 rfl (lv_at hl 0 rfl) ?_
  refine lv_iload_n hx hb dX6_least_1 rfl (lv_at hl 1 rfl) ?_
  refine dk_Vi (As := [.int p0]) (rest := []) ⟨hx, hb, hml, hown, hts⟩ (c_X6_isPerson_0 l g z I0 p0 hO) (cwV 1 hts gX6_least_X6_isPerson rfl rfl rfl (by decide +kernel) ⟨Nat.le_of_ble_eq_true rfl, Nat.le_of_ble_eq_true rfl⟩) (dk_at340 hW) rfl hK hT hW hS rfl hl.1 rfl (Nat.le_of_ble_eq_true rfl) dX6_least_2 ⟨Nat.zero_le _, Nat.zero_le _⟩ (fun v13 I13 H13 L13 hp13 hW hS => ?_)
  obtain ⟨hF13, hO, hc13⟩ := hp13
  have hF := dkF_call hF hF13 rfl
  rcases hc13 with ⟨dv13, -⟩ | hc13
  ·
    refine lv_if_ne (tgt := 11) hx hb dX6_least_5 (by decide) (fun c14 => ?_) (fun c14 => ?_)
    ·
      exact (dkN_nil (show dkN [] v13 from dkN_ne1 (0) dv13 (dkN_lit (x := 0) (0) rfl) (dk_ne c14) rfl)).elim
    ·
      refine lv_ldc (v := (-1000001)) hx hb hown (hts (.constant RX6 64 (-1000001)) (List.mem_of_getElem? (i := 1) rfl)) dX6_least_8 ?_
      exact W.iret (v := (-1000001)) hx hb hr (fun t ht hW9 => ⟨⟨(-1000001), I13, rfl, ⟨hF, hO, Or.inl ⟨dkN_sub (dkN_lit (x := (-1000001)) (-1000001) rfl) rfl, trivial⟩⟩, dkW_eq ht hW⟩, hS.F ht⟩) hS.2.2 dX6_least_10
  ·
    obtain ⟨dv13, a13_0, -⟩ := hc13
    have d15 : dkN [(0, 4)] p0 := dkN_eq1 (dkN_top p0) a13_0 rfl rfl
    refine lv_if_ne (tgt := 11) hx hb dX6_least_5 (by decide) (fun c16 => ?_) (fun c16 => ?_)
    ·
      refine lv_iconst (v := 0) hx hb dX6_least_11 (by decide) ?_
      refine lv_istore_n (lv' := [(2, .int 0), (0, .ref (z + 340)), (1, .int p0)]) hx hb dX6_least_12 rfl hl (by decide) rfl (fun ls hl => ?_)
      exact C13 _ I13 _ _ ls 0 (Nat.lt_succ_self _) hW hS hF hO (dkN_sub (dkN_lit (x := 0) (0) rfl) rfl) (dkN_sub d15 rfl) (lv_sub hl [1, 2, 0] rfl)
    ·
      exact (dkN_nil (show dkN [] v13 from dkN_eq1 dv13 (dkN_lit (x := 0) (0) rfl) (congrArg Int32.toInt c16) rfl)).elim
set_option maxHeartbeats 4000000 in
set_option maxRecDepth 100000 in
theorem c_X4_take_1 (l : Launch) (g : dkG) (z : Nat) (I0 : dkI) (t0 : Nat) (ht0 : dkT t0) (p0 : Int32) (p1 : Int32) (p2 : Int32) (dp0 : dkN [(3, 3)] p0) (dp1 : dkN [(0, 4)] p1) (dp2 : dkN [(0, 9)] p2)  (hO : dkOk I0) : Met l yX4_take wsX4_take (dkR 0) (dkPc g z [.ref (z + t0), .int p0, .int p1, .int p2] I0) (dkQv g z (fun I1 => dkF [(t0 + 5, t0 + 5, 0, 4)] I0 I1 ∧ dkOk I1 ∧ ((True)))) 0 0 (dkA z) := by
  refine Met.ofW (cc := cX4_take) (maxL := 4) (ret := none) (by decide) rfl ?_
  intro p e s m args below meth c s₁ B hml hv
  obtain ⟨ha, hW, hK, hT⟩ := hv
  have hx := B.exec
  have hb := B.bytes
  have hr := B.returns
  have hts := atoms_spec (ws := wsX4_take) B.pre
  have hown : s.vm.findClass RX4 = some m.cls := findClass_of_methodNamed B.named
  have hlocks := B.notSynchronized
  have hS : va_S (dkA z) s.heap s.heap [] := va_S.rf
  have hF : dkF [(t0 + 5, t0 + 5, 0, 4)] I0 I0 := dkF_rf _ _
  have hl := lv_entry ([.ref (z + t0), .int p0, .int p1, .int p2]) (n := 4) (Nat.le_of_ble_eq_true rfl)
  have hgo : entryFrame m args 4 = entryFrame m ([.ref (z + t0), .int p0, .int p1, .int p2] : List Value).toArray 4 := by rw [ha]
  rw [hgo, lg_entry_eq]
  generalize (lg_sl ([.ref (z + t0), .int p0, .int p1, .int p2]) ++ List.replicate (4 - (lg_sl ([.ref (z + t0), .int p0, .int p1, .int p2])).length) Slot.unset).toArray = ls at hl ⊢
  have hl : lv_has ls 4 [(0, .ref (z + t0)), (1, .int p0), (2, .int p1), (3, .int p2)] := hl
  refine lv_iload_n hx hb dX4_take_0 rfl (lv_at hl 1 rfl) ?_
  by_cases c1 : p0 = 3
  ·
    have qc1 : p0.toInt = 3 := by rw [c1]; rfl
    have d2 : dkN [(3, 3)] p0 := dkN_lit (3) qc1
    refine lv_tableIn (tgt := 66) hx hb dX4_take_1 (by rw [qc1]; decide) (by rw [qc1]; decide) (by rw [qc1]; rfl) (by decide) ?_
    refine lv_aload_n hx hb dX4_take_66 rfl (lv_at hl 0 rfl) ?_
    refine dk_get (k := t0) hx hb hts iX4_take_4 hown hK (dk_aT0 ht0 hW) rfl 9 (by decide) (hts (.fieldLink RX4 24 "DogKings$Town" "gait" "[I") (List.mem_of_getElem? (i := 4) rfl)) rfl dX4_take_67 ?_
    refine lv_iload_n hx hb dX4_take_70 rfl (lv_at hl 2 rfl) ?_
    refine lv_iload_n hx hb dX4_take_71 rfl (lv_at hl 3 rfl) ?_
    refine dk_ist (k := (t0 + 5)) hx hb hK hW (fun _ => dkC_T g z ht0 (c := 5) (by decide) _) (by have := dkT_lt ht0; omega) hS (dkN_in (n := 5) dp1 rfl) dX4_take_72 (fun I3 H3 L3 eI3 hW hS => ?_)
    have hO := dkO_setT hO ht0 (c := 5) (by decide) eI3 (dkN_sub dp2 rfl)
    have hF := dkF_set hF eI3 (dkIn_atv (i := 0) rfl (Nat.le_refl _) (Nat.le_refl _) dp1 rfl)
    refine lv_goto (tgt := 86) hx hb dX4_take_73 (by decide) ?_
    exact W.vret hx hb hr (fun t ht hW9 => ⟨⟨I3, rfl, ⟨hF, hO, trivial⟩, dkW_eq ht hW⟩, hS.F ht⟩) hS.2.2 dX4_take_86
  ·
    exact (dkN_nil (show dkN [] p0 from dkN_ne1 (3) dp0 (dkN_lit (x := 3) (3) rfl) (dk_ne c1) rfl)).elim
set_option maxHeartbeats 4000000 in
set_option maxRecDepth 100000 in
theorem c_X3_reignsWith_12 (l : Launch) (g : dkG) (z : Nat) (I0 : dkI) (p0 : Int32) (p1 : Int32) (p2 : Int32) (dp0 : dkN [(3, 3)] p0) (dp1 : dkN [(0, 4)] p1) (dp2 : dkN [(0, 2)] p2)  (hO : dkOk I0) : Met l yX3_reignsWith wsX3_reignsWith (dkR 5) (dkPc g z [.ref (z + 325), .int p0, .int p1, .int p2] I0) (dkQi g z (fun r I1 => dkF [(326, 326, 0, 4), (326, 326, 11, 11), (326, 326, 15, 17), (327, 327, 0, 4), (328, 328, 0, 4), (329, 329, 0, 4), (330, 330, 0, 4), (331, 331, 0, 4), (332, 332, 0, 4), (333, 333, 0, 5), (334, 334, 0, 5), (335, 335, 0, 5), (336, 336, 0, 8)] I0 I1 ∧ dkOk I1 ∧ ((dkN [(0, 1)] r ∧ True)))) 0 0 (dkA z) := by
  refine Met.ofW (cc := cX3_reignsWith) (maxL := 4) (ret := (some .boolean)) (by decide) rfl ?_
  intro p e s m args below meth c s₁ B hml hv
  obtain ⟨ha, hW, hK, hT⟩ := hv
  have hx := B.exec
  have hb := B.bytes
  have hr := B.returns
  have hts := atoms_spec (ws := wsX3_reignsWith) B.pre
  have hown : s.vm.findClass RX3 = some m.cls := findClass_of_methodNamed B.named
  have hlocks := B.notSynchronized
  have hS : va_S (dkA z) s.heap s.heap [] := va_S.rf
  have hF : dkF [(326, 326, 0, 4), (326, 326, 11, 11), (326, 326, 15, 17), (327, 327, 0, 4), (328, 328, 0, 4), (329, 329, 0, 4), (330, 330, 0, 4), (331, 331, 0, 4), (332, 332, 0, 4), (333, 333, 0, 5), (334, 334, 0, 5), (335, 335, 0, 5), (336, 336, 0, 8)] I0 I0 := dkF_rf _ _
  have hl := lv_entry ([.ref (z + 325), .int p0, .int p1, .int p2]) (n := 4) (Nat.le_of_ble_eq_true rfl)
  have hgo : entryFrame m args 4 = entryFrame m ([.ref (z + 325), .int p0, .int p1, .int p2] : List Value).toArray 4 := by rw [ha]
  rw [hgo, lg_entry_eq]
  generalize (lg_sl ([.ref (z + 325), .int p0, .int p1, .int p2]) ++ List.replicate (4 - (lg_sl ([.ref (z + 325), .int p0, .int p1, .int p2])).length) Slot.unset).toArray = ls at hl ⊢
  have hl : lv_has ls 4 [(0, .ref (z + 325)), (1, .int p0), (2, .int p1), (3, .int p2)] := hl
  refine lv_aload_n hx hb dX3_reignsWith_0 rfl (lv_at hl 0 rfl) ?_
  refine dk_get (k := 325) hx hb hts iX3_reignsWith_3 hown hK (dk_at325 hW) rfl 1 (by decide) (hts (.fieldLink RX3 12 "DogKings$Seer" "then" "LDogKings$Town;") (List.mem_of_getElem? (i := 1) rfl)) rfl dX3_reignsWith_1 ?_
  refine lv_aload_n hx hb dX3_reignsWith_4 rfl (lv_at hl 0 rfl) ?_
  refine dk_get (k := 325) hx hb hts iX3_reignsWith_3 hown hK (dk_at325 hW) rfl 0 (by decide) (hts (.fieldLink RX3 22 "DogKings$Seer" "now" "LDogKings$Town;") (List.mem_of_getElem? (i := 2) rfl)) rfl dX3_reignsWith_5 ?_
  refine dk_Vv (As := [.ref (z + 25)]) (rest := []) ⟨hx, hb, hml, hown, hts⟩ (c_X4_become_0 l g z I0 (326) (by unfold dkT; omega) (25) (by unfold dkT; omega) hO) (cwV 1 hts gX3_reignsWith_X4_become rfl rfl rfl (by decide +kernel) ⟨Nat.le_of_ble_eq_true rfl, Nat.le_of_ble_eq_true rfl⟩) (dk_at326 hW) rfl hK hT hW hS rfl hl.1 rfl (Nat.le_of_ble_eq_true rfl) dX3_reignsWith_8 ⟨Nat.zero_le _, Nat.zero_le _⟩ (fun I1 H1 L1 hp1 hW hS => ?_)
  obtain ⟨hF1, hO, hc1⟩ := hp1
  have hF := dkF_call hF hF1 rfl
  refine lv_aload_n hx hb dX3_reignsWith_11 rfl (lv_at hl 0 rfl) ?_
  refine dk_get (k := 325) hx hb hts iX3_reignsWith_3 hown hK (dk_at325 hW) rfl 1 (by decide) (hts (.fieldLink RX3 12 "DogKings$Seer" "then" "LDogKings$Town;") (List.mem_of_getElem? (i := 1) rfl)) rfl dX3_reignsWith_12 ?_
  refine lv_iload_n hx hb dX3_reignsWith_15 rfl (lv_at hl 1 rfl) ?_
  refine lv_iload_n hx hb dX3_reignsWith_16 rfl (lv_at hl 2 rfl) ?_
  refine lv_iload_n hx hb dX3_reignsWith_17 rfl (lv_at hl 3 rfl) ?_
  refine dk_Vv (As := [.int p0, .int p1, .int p2]) (rest := []) ⟨hx, hb, hml, hown, hts⟩ (c_X4_take_1 l g z I1 (326) (by unfold dkT; omega) p0 p1 p2 dp0 dp1 (dkN_sub dp2 rfl) hO) (cwV 3 hts gX3_reignsWith_X4_take rfl rfl rfl (by decide +kernel) ⟨Nat.le_of_ble_eq_true rfl, Nat.le_of_ble_eq_true rfl⟩) (dk_at326 hW) rfl hK hT hW hS rfl hl.1 rfl (Nat.le_of_ble_eq_true rfl) dX3_reignsWith_18 ⟨Nat.zero_le _, Nat.zero_le _⟩ (fun I2 H2 L2 hp2 hW hS => ?_)
  obtain ⟨hF2, hO, hc2⟩ := hp2
  have hF := dkF_call hF hF2 rfl
  refine lv_aload_n hx hb dX3_reignsWith_21 rfl (lv_at hl 0 rfl) ?_
  refine dk_get (k := 325) hx hb hts iX3_reignsWith_3 hown hK (dk_at325 hW) rfl 1 (by decide) (hts (.fieldLink RX3 12 "DogKings$Seer" "then" "LDogKings$Town;") (List.mem_of_getElem? (i := 1) rfl)) rfl dX3_reignsWith_22 ?_
  refine dk_Vv (As := []) (rest := []) ⟨hx, hb, hml, hown, hts⟩ (c_X4_runToBell_0 l g z I2 (326) (by unfold dkT; omega) hO) (cwV 0 hts gX3_reignsWith_X4_runToBell rfl rfl rfl (by decide +kernel) ⟨Nat.le_of_ble_eq_true rfl, Nat.le_of_ble_eq_true rfl⟩) (dk_at326 hW) rfl hK hT hW hS rfl hl.1 rfl (Nat.le_of_ble_eq_true rfl) dX3_reignsWith_25 ⟨Nat.zero_le _, Nat.zero_le _⟩ (fun I3 H3 L3 hp3 hW hS => ?_)
  obtain ⟨hF3, hO, hc3⟩ := hp3
  have hF := dkF_call hF hF3 rfl
  refine lv_aload_n hx hb dX3_reignsWith_28 rfl (lv_at hl 0 rfl) ?_
  refine dk_get (k := 325) hx hb hts iX3_reignsWith_3 hown hK (dk_at325 hW) rfl 1 (by decide) (hts (.fieldLink RX3 12 "DogKings$Seer" "then" "LDogKings$Town;") (List.mem_of_getElem? (i := 1) rfl)) rfl dX3_reignsWith_29 ?_
  refine dk_Vi (As := []) (rest := []) ⟨hx, hb, hml, hown, hts⟩ (c_X4_kingAtBell_0 l g z I3 (326) (by unfold dkT; omega) hO) (cwV 0 hts gX3_reignsWith_X4_kingAtBell rfl rfl rfl (by decide +kernel) ⟨Nat.le_of_ble_eq_true rfl, Nat.le_of_ble_eq_true rfl⟩) (dk_at326 hW) rfl hK hT hW hS rfl hl.1 rfl (Nat.le_of_ble_eq_true rfl) dX3_reignsWith_32 ⟨Nat.zero_le _, Nat.zero_le _⟩ (fun v4 I4 H4 L4 hp4 hW hS => ?_)
  obtain ⟨hF4, hO, hc4⟩ := hp4
  have hF := dkF_call hF hF4 rfl
  obtain ⟨dv4, -⟩ := hc4
  refine lv_iload_n hx hb dX3_reignsWith_35 rfl (lv_at hl 2 rfl) ?_
  refine lv_icmp_ne (tgt := 43) hx hb dX3_reignsWith_36 (by decide) (fun c5 => ?_) (fun c5 => ?_)
  ·
    refine lv_iconst (v := 0) hx hb dX3_reignsWith_43 (by decide) ?_
    exact W.zret (v := 0) (ty := .boolean) hx hb hr rfl (fun t ht hW9 => ⟨⟨0, I4, rfl, ⟨hF, hO, ⟨dkN_sub (dkN_lit (x := 0) (0) rfl) rfl, trivial⟩⟩, dkW_eq ht hW⟩, hS.F ht⟩) hS.2.2 dX3_reignsWith_44
  ·
    have d6 : dkN [(0, 4)] v4 := dkN_eq1 dv4 dp1 (congrArg Int32.toInt c5) rfl
    refine lv_iconst (v := 1) hx hb dX3_reignsWith_39 (by decide) ?_
    refine lv_goto (tgt := 44) hx hb dX3_reignsWith_40 (by decide) ?_
    exact W.zret (v := 1) (ty := .boolean) hx hb hr rfl (fun t ht hW9 => ⟨⟨1, I4, rfl, ⟨hF, hO, ⟨dkN_sub (dkN_lit (x := 1) (1) rfl) rfl, trivial⟩⟩, dkW_eq ht hW⟩, hS.F ht⟩) hS.2.2 dX3_reignsWith_44
set_option maxHeartbeats 4000000 in
set_option maxRecDepth 100000 in
theorem c_X3_gaitsOfAKing_0 (l : Launch) (g : dkG) (z : Nat) (I0 : dkI) (p0 : Int32) (dp0 : dkN [(0, 4)] p0)  (hO : dkOk I0) : Met l yX3_gaitsOfAKing wsX3_gaitsOfAKing (dkR 6) (dkPc g z [.ref (z + 325), .int p0] I0) (dkQi g z (fun r I1 => dkF [(326, 326, 0, 4), (326, 326, 11, 11), (326, 326, 15, 17), (327, 327, 0, 4), (328, 328, 0, 4), (329, 329, 0, 4), (330, 330, 0, 4), (331, 331, 0, 4), (332, 332, 0, 4), (333, 333, 0, 5), (334, 334, 0, 5), (335, 335, 0, 5), (336, 336, 0, 8)] I0 I1 ∧ dkOk I1 ∧ ((True ∧ True)))) 0 0 (dkA z) := by
  refine Met.ofW (cc := cX3_gaitsOfAKing) (maxL := 4) (ret := (some .int)) (by decide) rfl ?_
  intro p e s m args below meth c s₁ B hml hv
  obtain ⟨ha, hW, hK, hT⟩ := hv
  have hx := B.exec
  have hb := B.bytes
  have hr := B.returns
  have hts := atoms_spec (ws := wsX3_gaitsOfAKing) B.pre
  have hown : s.vm.findClass RX3 = some m.cls := findClass_of_methodNamed B.named
  have hlocks := B.notSynchronized
  have hS : va_S (dkA z) s.heap s.heap [] := va_S.rf
  have hF : dkF [(326, 326, 0, 4), (326, 326, 11, 11), (326, 326, 15, 17), (327, 327, 0, 4), (328, 328, 0, 4), (329, 329, 0, 4), (330, 330, 0, 4), (331, 331, 0, 4), (332, 332, 0, 4), (333, 333, 0, 5), (334, 334, 0, 5), (335, 335, 0, 5), (336, 336, 0, 8)] I0 I0 := dkF_rf _ _
  have hl := lv_entry ([.ref (z + 325), .int p0]) (n := 4) (Nat.le_of_ble_eq_true rfl)
  have hgo : entryFrame m args 4 = entryFrame m ([.ref (z + 325), .int p0] : List Value).toArray 4 := by rw [ha]
  rw [hgo, lg_entry_eq]
  generalize (lg_sl ([.ref (z + 325), .int p0]) ++ List.replicate (4 - (lg_sl ([.ref (z + 325), .int p0])).length) Slot.unset).toArray = ls at hl ⊢
  have hl : lv_has ls 4 [(0, .ref (z + 325)), (1, .int p0)] := hl
  have C4 : ∀ (n : Nat), ∀ (I : dkI) (H : Heap) (locs : List Loc) (ls : Array Slot) (x4_2 : Int32) (x4_3 : Int32), (3 - x4_3.toInt).toNat < n → dkW g z I H → va_S (dkA z) s.heap H locs → dkF [(326, 326, 0, 4), (326, 326, 11, 11), (326, 326, 15, 17), (327, 327, 0, 4), (328, 328, 0, 4), (329, 329, 0, 4), (330, 330, 0, 4), (331, 331, 0, 4), (332, 332, 0, 4), (333, 333, 0, 5), (334, 334, 0, 5), (335, 335, 0, 5), (336, 336, 0, 8)] I0 I → dkOk I → dkN [(0, 3)] x4_3 → lv_has ls 4 [(0, .ref (z + 325)), (1, .int p0), (2, .int x4_2), (3, .int x4_3)] → W p l e (headSpec wsX3_gaitsOfAKing (dkR 6)).room s m args below meth c H locs 0 0 (MQ below (dkQi g z (fun r I1 => dkF [(326, 326, 0, 4), (326, 326, 11, 11), (326, 326, 15, 17), (327, 327, 0, 4), (328, 328, 0, 4), (329, 329, 0, 4), (330, 330, 0, 4), (331, 331, 0, 4), (332, 332, 0, 4), (333, 333, 0, 5), (334, 334, 0, 5), (335, 335, 0, 5), (336, 336, 0, 8)] I0 I1 ∧ dkOk I1 ∧ ((True ∧ True)))) args s 0 0 (dkA z)) (F0 m 4 ls []) := by
    intro n
    induction n with
    | zero => intro I H locs ls x4_2 x4_3 hn; exact absurd hn (Nat.not_lt_zero _)
    | succ n ih4 =>
      intro I4_ H locs ls x4_2 x4_3 hn4 hW hS hF_4 hO k4_1 hl
      have hF := hF_4
      have C25 : ∀ (I : dkI) (H : Heap) (locs : List Loc) (ls : Array Slot) (x25_2 : Int32), dkW g z I H → va_S (dkA z) s.heap H locs → dkF [(326, 326, 0, 4), (326, 326, 11, 11), (326, 326, 15, 17), (327, 327, 0, 4), (328, 328, 0, 4), (329, 329, 0, 4), (330, 330, 0, 4), (331, 331, 0, 4), (332, 332, 0, 4), (333, 333, 0, 5), (334, 334, 0, 5), (335, 335, 0, 5), (336, 336, 0, 8)] I0 I → dkOk I → dkN [(0, 2)] x4_3 → lv_has ls 4 [(0, .ref (z + 325)), (1, .int p0), (2, .int x25_2), (3, .int x4_3)] → W p l e (headSpec wsX3_gaitsOfAKing (dkR 6)).room s m args below meth c H locs 0 0 (MQ below (dkQi g z (fun r I1 => dkF [(326, 326, 0, 4), (326, 326, 11, 11), (326, 326, 15, 17), (327, 327, 0, 4), (328, 328, 0, 4), (329, 329, 0, 4), (330, 330, 0, 4), (331, 331, 0, 4), (332, 332, 0, 4), (333, 333, 0, 5), (334, 334, 0, 5), (335, 335, 0, 5), (336, 336, 0, 8)] I0 I1 ∧ dkOk I1 ∧ ((True ∧ True)))) args s 0 0 (dkA z)) (F0 m 25 ls []) := by
        intro I25_ H locs ls x25_2 hW hS hF_25 hO r25_0 hl
        have hF := hF_25
        obtain ⟨v1, ev1⟩ : ∃ y : Int32, y = x4_3 + 1 := ⟨_, rfl⟩
        have dv1 : dkN [(1, 3)] v1 := by rw [ev1]; exact dkN_add r25_0 (dkN_lit (x := 1) (1) rfl) rfl
        refine lv_iinc (v := v1) (lv' := [(3, .int v1), (0, .ref (z + 325)), (1, .int p0), (2, .int x25_2)]) hx hb dX3_gaitsOfAKing_25 hl (k := 3) rfl (by rw [ev1]; rfl) (by decide) rfl (fun ls hl => ?_)
        refine lv_goto (tgt := 4) hx hb dX3_gaitsOfAKing_28 (by decide) ?_
        exact ih4 I25_ _ _ ls x25_2 v1 (dk_near hn4 (by rw [ev1]; exact dk_inc r25_0 rfl) (dkN_lt r25_0 rfl)) hW hS hF hO (dkN_sub dv1 rfl) (lv_sub hl [1, 2, 3, 0] rfl)
      refine lv_iload_n hx hb dX3_gaitsOfAKing_4 rfl (lv_at hl 3 rfl) ?_
      refine lv_iconst (v := 2) hx hb dX3_gaitsOfAKing_5 (by decide) ?_
      refine lv_icmp_gt (tgt := 31) hx hb dX3_gaitsOfAKing_6 (by decide) (fun c2 => ?_) (fun c2 => ?_)
      ·
        have d3 : dkN [(3, 3)] x4_3 := dkN_le2 1 (dkN_lit (x := 2) (2) rfl) k4_1 (dkc_lt c2) rfl
        refine lv_iload_n hx hb dX3_gaitsOfAKing_31 rfl (lv_at hl 2 rfl) ?_
        exact W.iret (v := x4_2) hx hb hr (fun t ht hW9 => ⟨⟨x4_2, I4_, rfl, ⟨hF, hO, ⟨trivial, trivial⟩⟩, dkW_eq ht hW⟩, hS.F ht⟩) hS.2.2 dX3_gaitsOfAKing_32
      ·
        have d4 : dkN [(0, 2)] x4_3 := dkN_le1 0 k4_1 (dkN_lit (x := 2) (2) rfl) (dkc_nlt c2) rfl
        refine lv_aload_n hx hb dX3_gaitsOfAKing_9 rfl (lv_at hl 0 rfl) ?_
        refine lv_iconst (v := 3) hx hb dX3_gaitsOfAKing_10 (by decide) ?_
        refine lv_iload_n hx hb dX3_gaitsOfAKing_11 rfl (lv_at hl 1 rfl) ?_
        refine lv_iload_n hx hb dX3_gaitsOfAKing_12 rfl (lv_at hl 3 rfl) ?_
        refine dk_Vi (As := [.int 3, .int p0, .int x4_3]) (rest := []) ⟨hx, hb, hml, hown, hts⟩ (c_X3_reignsWith_12 l g z I4_ 3 p0 x4_3 (dkN_lit (x := 3) (3) rfl) dp0 d4 hO) (cwV 3 hts gX3_gaitsOfAKing_X3_reignsWith rfl rfl rfl (by decide +kernel) ⟨Nat.le_of_ble_eq_true rfl, Nat.le_of_ble_eq_true rfl⟩) (dk_at325 hW) rfl hK hT hW hS rfl hl.1 rfl (Nat.le_of_ble_eq_true rfl) dX3_gaitsOfAKing_13 ⟨Nat.zero_le _, Nat.zero_le _⟩ (fun v5 I5 H5 L5 hp5 hW hS => ?_)
        obtain ⟨hF5, hO, hc5⟩ := hp5
        have hF := dkF_call hF hF5 rfl
        obtain ⟨dv5, -⟩ := hc5
        refine lv_if_eq (tgt := 25) hx hb dX3_gaitsOfAKing_16 (by decide) (fun c6 => ?_) (fun c6 => ?_)
        ·
          have d7 : dkN [(0, 0)] v5 := dkN_eq1 dv5 (dkN_lit (x := 0) (0) rfl) (congrArg Int32.toInt c6) rfl
          exact C25 I5 _ _ ls x4_2 hW hS hF hO (dkN_sub d4 rfl) (lv_sub hl [0, 1, 2, 3] rfl)
        ·
          have d8 : dkN [(1, 1)] v5 := dkN_ne1 (0) dv5 (dkN_lit (x := 0) (0) rfl) (dk_ne c6) rfl
          refine lv_iload_n hx hb dX3_gaitsOfAKing_19 rfl (lv_at hl 2 rfl) ?_
          refine lv_iconst (v := 1) hx hb dX3_gaitsOfAKing_20 (by decide) ?_
          refine lv_iload_n hx hb dX3_gaitsOfAKing_21 rfl (lv_at hl 3 rfl) ?_
          refine lv_ishl hx hb dX3_gaitsOfAKing_22 ?_
          refine lv_topi (fun v9 ev9 => ?_)
          have dv9 : dkN [(1, 4)] v9 := by rw [ev9]; exact dkN_shl1 0 2 (by decide) d4 rfl
          refine lv_ior hx hb dX3_gaitsOfAKing_23 ?_
          refine lv_topi (fun v10 ev10 => ?_)
          refine lv_istore_n (lv' := [(2, .int v10), (0, .ref (z + 325)), (1, .int p0), (3, .int x4_3)]) hx hb dX3_gaitsOfAKing_24 rfl hl (by decide) rfl (fun ls hl => ?_)
          exact C25 I5 _ _ ls v10 hW hS hF hO (dkN_sub d4 rfl) (lv_sub hl [1, 2, 0, 3] rfl)
  refine lv_iconst (v := 0) hx hb dX3_gaitsOfAKing_0 (by decide) ?_
  refine lv_istore_n (lv' := [(2, .int 0), (0, .ref (z + 325)), (1, .int p0)]) hx hb dX3_gaitsOfAKing_1 rfl hl (by decide) rfl (fun ls hl => ?_)
  refine lv_iconst (v := 0) hx hb dX3_gaitsOfAKing_2 (by decide) ?_
  refine lv_istore_n (lv' := [(3, .int 0), (2, .int 0), (0, .ref (z + 325)), (1, .int p0)]) hx hb dX3_gaitsOfAKing_3 rfl hl (by decide) rfl (fun ls hl => ?_)
  exact C4 _ I0 _ _ ls 0 0 (Nat.lt_succ_self _) hW hS hF hO (dkN_sub (dkN_lit (x := 0) (0) rfl) rfl) (lv_sub hl [2, 3, 1, 0] rfl)
set_option maxHeartbeats 4000000 in
set_option maxRecDepth 100000 in
theorem c_X5_walks_0 (l : Launch) (g : dkG) (z : Nat) (I0 : dkI) (p0 : Int32)  (hO : dkOk I0) : Met l yX5_walks wsX5_walks (dkR 7) (dkPc g z [.ref (z + 0), .int p0] I0) (dkQi g z (fun r I1 => dkF [(326, 326, 0, 4), (326, 326, 11, 11), (326, 326, 15, 17), (327, 327, 0, 4), (328, 328, 0, 4), (329, 329, 0, 4), (330, 330, 0, 4), (331, 331, 0, 4), (332, 332, 0, 4), (333, 333, 0, 5), (334, 334, 0, 5), (335, 335, 0, 5), (336, 336, 0, 8)] I0 I1 ∧ dkOk I1 ∧ ((True ∧ True)))) 0 0 (dkA z) := by
  refine Met.ofW (cc := cX5_walks) (maxL := 2) (ret := (some .int)) (by decide) rfl ?_
  intro p e s m args below meth c s₁ B hml hv
  obtain ⟨ha, hW, hK, hT⟩ := hv
  have hx := B.exec
  have hb := B.bytes
  have hr := B.returns
  have hts := atoms_spec (ws := wsX5_walks) B.pre
  have hown : s.vm.findClass RX5 = some m.cls := findClass_of_methodNamed B.named
  have hlocks := B.notSynchronized
  have hS : va_S (dkA z) s.heap s.heap [] := va_S.rf
  have hF : dkF [(326, 326, 0, 4), (326, 326, 11, 11), (326, 326, 15, 17), (327, 327, 0, 4), (328, 328, 0, 4), (329, 329, 0, 4), (330, 330, 0, 4), (331, 331, 0, 4), (332, 332, 0, 4), (333, 333, 0, 5), (334, 334, 0, 5), (335, 335, 0, 5), (336, 336, 0, 8)] I0 I0 := dkF_rf _ _
  have hl := lv_entry ([.ref (z + 0), .int p0]) (n := 2) (Nat.le_of_ble_eq_true rfl)
  have hgo : entryFrame m args 2 = entryFrame m ([.ref (z + 0), .int p0] : List Value).toArray 2 := by rw [ha]
  rw [hgo, lg_entry_eq]
  generalize (lg_sl ([.ref (z + 0), .int p0]) ++ List.replicate (2 - (lg_sl ([.ref (z + 0), .int p0])).length) Slot.unset).toArray = ls at hl ⊢
  have hl : lv_has ls 2 [(0, .ref (z + 0)), (1, .int p0)] := hl
  refine lv_aload_n hx hb dX5_walks_0 rfl (lv_at hl 0 rfl) ?_
  refine lv_iload_n hx hb dX5_walks_1 rfl (lv_at hl 1 rfl) ?_
  refine dk_Vi (As := [.int p0]) (rest := []) ⟨hx, hb, hml, hown, hts⟩ (c_X5_isPerson_0 l g z I0 p0 hO) (cwV 1 hts gX5_walks_X5_isPerson rfl rfl rfl (by decide +kernel) ⟨Nat.le_of_ble_eq_true rfl, Nat.le_of_ble_eq_true rfl⟩) (dk_at0 hW) rfl hK hT hW hS rfl hl.1 rfl (Nat.le_of_ble_eq_true rfl) dX5_walks_2 ⟨Nat.zero_le _, Nat.zero_le _⟩ (fun v1 I1 H1 L1 hp1 hW hS => ?_)
  obtain ⟨hF1, hO, hc1⟩ := hp1
  have hF := dkF_call hF hF1 rfl
  rcases hc1 with ⟨dv1, -⟩ | hc1
  ·
    refine lv_if_eq (tgt := 19) hx hb dX5_walks_5 (by decide) (fun c2 => ?_) (fun c2 => ?_)
    ·
      refine lv_ldc (v := (-1000001)) hx hb hown (hts (.constant RX5 70 (-1000001)) (List.mem_of_getElem? (i := 2) rfl)) dX5_walks_19 ?_
      exact W.iret (v := (-1000001)) hx hb hr (fun t ht hW9 => ⟨⟨(-1000001), I1, rfl, ⟨hF, hO, ⟨trivial, trivial⟩⟩, dkW_eq ht hW⟩, hS.F ht⟩) hS.2.2 dX5_walks_21
    ·
      exact (dkN_nil (show dkN [] v1 from dkN_ne1 (0) dv1 (dkN_lit (x := 0) (0) rfl) (dk_ne c2) rfl)).elim
  ·
    obtain ⟨dv1, a1_0, f1_25_4, -⟩ := hc1
    have d3 : dkN [(0, 4)] p0 := dkN_eq1 (dkN_top p0) a1_0 rfl rfl
    refine lv_if_eq (tgt := 19) hx hb dX5_walks_5 (by decide) (fun c4 => ?_) (fun c4 => ?_)
    ·
      exact (dkN_nil (show dkN [] v1 from dkN_eq1 dv1 (dkN_lit (x := 0) (0) rfl) (congrArg Int32.toInt c4) rfl)).elim
    ·
      refine lv_aload_n hx hb dX5_walks_8 rfl (lv_at hl 0 rfl) ?_
      refine dk_get (k := 0) hx hb hts iX5_walks_5 hown hK (dk_at0 hW) rfl 8 (by decide) (hts (.fieldLink RX5 51 "DogKings" "seer" "LDogKings$Seer;") (List.mem_of_getElem? (i := 1) rfl)) rfl dX5_walks_9 ?_
      refine lv_iload_n hx hb dX5_walks_12 rfl (lv_at hl 1 rfl) ?_
      refine dk_Vi (As := [.int p0]) (rest := []) ⟨hx, hb, hml, hown, hts⟩ (c_X3_gaitsOfAKing_0 l g z I1 p0 d3 hO) (cwV 1 hts gX5_walks_X3_gaitsOfAKing rfl rfl rfl (by decide +kernel) ⟨Nat.le_of_ble_eq_true rfl, Nat.le_of_ble_eq_true rfl⟩) (dk_at325 hW) rfl hK hT hW hS rfl hl.1 rfl (Nat.le_of_ble_eq_true rfl) dX5_walks_13 ⟨Nat.zero_le _, Nat.zero_le _⟩ (fun v5 I5 H5 L5 hp5 hW hS => ?_)
      obtain ⟨hF5, hO, hc5⟩ := hp5
      have hF := dkF_call hF hF5 rfl
      obtain ⟨_, -⟩ := hc5
      refine lv_goto (tgt := 21) hx hb dX5_walks_16 (by decide) ?_
      exact W.iret (v := v5) hx hb hr (fun t ht hW9 => ⟨⟨v5, I5, rfl, ⟨hF, hO, ⟨trivial, trivial⟩⟩, dkW_eq ht hW⟩, hS.F ht⟩) hS.2.2 dX5_walks_21
set_option maxHeartbeats 4000000 in
set_option maxRecDepth 100000 in
theorem c_X6_walks_0 (l : Launch) (g : dkG) (z : Nat) (I0 : dkI) (p0 : Int32)  (hO : dkOk I0) : Met l yX6_walks wsX6_walks (dkR 7) (dkPc g z [.ref (z + 340), .int p0] I0) (dkQi g z (fun r I1 => dkF [(340, 340, 20, 22), (348, 348, 0, 53)] I0 I1 ∧ dkOk I1 ∧ ((True ∧ True)))) 0 0 (dkA z) := by
  refine Met.ofW (cc := cX6_walks) (maxL := 4) (ret := (some .int)) (by decide) rfl ?_
  intro p e s m args below meth c s₁ B hml hv
  obtain ⟨ha, hW, hK, hT⟩ := hv
  have hx := B.exec
  have hb := B.bytes
  have hr := B.returns
  have hts := atoms_spec (ws := wsX6_walks) B.pre
  have hown : s.vm.findClass RX6 = some m.cls := findClass_of_methodNamed B.named
  have hlocks := B.notSynchronized
  have hS : va_S (dkA z) s.heap s.heap [] := va_S.rf
  have hF : dkF [(340, 340, 20, 22), (348, 348, 0, 53)] I0 I0 := dkF_rf _ _
  have hl := lv_entry ([.ref (z + 340), .int p0]) (n := 4) (Nat.le_of_ble_eq_true rfl)
  have hgo : entryFrame m args 4 = entryFrame m ([.ref (z + 340), .int p0] : List Value).toArray 4 := by rw [ha]
  rw [hgo, lg_entry_eq]
  generalize (lg_sl ([.ref (z + 340), .int p0]) ++ List.replicate (4 - (lg_sl ([.ref (z + 340), .int p0])).length) Slot.unset).toArray = ls at hl ⊢
  have hl : lv_has ls 4 [(0, .ref (z + 340)), (1, .int p0)] := hl
  have C15 : ∀ (n : Nat), ∀ (I : dkI) (H : Heap) (locs : List Loc) (ls : Array Slot) (x15_2 : Int32) (x15_3 : Int32), (3 - x15_3.toInt).toNat < n → dkW g z I H → va_S (dkA z) s.heap H locs → dkF [(340, 340, 20, 22), (348, 348, 0, 53)] I0 I → dkOk I → dkN [(0, 3)] x15_3 → dkN [(0, 4)] p0 → lv_has ls 4 [(0, .ref (z + 340)), (1, .int p0), (2, .int x15_2), (3, .int x15_3)] → W p l e (headSpec wsX6_walks (dkR 7)).room s m args below meth c H locs 0 0 (MQ below (dkQi g z (fun r I1 => dkF [(340, 340, 20, 22), (348, 348, 0, 53)] I0 I1 ∧ dkOk I1 ∧ ((True ∧ True)))) args s 0 0 (dkA z)) (F0 m 15 ls []) := by
    intro n
    induction n with
    | zero => intro I H locs ls x15_2 x15_3 hn; exact absurd hn (Nat.not_lt_zero _)
    | succ n ih15 =>
      intro I15_ H locs ls x15_2 x15_3 hn15 hW hS hF_15 hO k15_1 r15_0 hl
      have hF := hF_15
      have C55 : ∀ (I : dkI) (H : Heap) (locs : List Loc) (ls : Array Slot) (x55_s0 : Int32), dkW g z I H → va_S (dkA z) s.heap H locs → dkF [(340, 340, 20, 22), (348, 348, 0, 53)] I0 I → dkOk I → dkN [(0, 4)] x55_s0 → dkN [(0, 4)] p0 → dkN [(0, 2)] x15_3 → dkN [(0, 0)] (I 340 20) → dkN [(0, 0)] (I 340 21) → dkN [(0, 0)] (I 340 22) → dkN [(0, 2147483647)] (I 348 3) → lv_has ls 4 [(0, .ref (z + 340)), (1, .int p0), (2, .int x15_2), (3, .int x15_3)] → W p l e (headSpec wsX6_walks (dkR 7)).room s m args below meth c H locs 0 0 (MQ below (dkQi g z (fun r I1 => dkF [(340, 340, 20, 22), (348, 348, 0, 53)] I0 I1 ∧ dkOk I1 ∧ ((True ∧ True)))) args s 0 0 (dkA z)) (F0 m 55 ls [.int x55_s0, .int x15_2]) := by
        intro I55_ H locs ls x55_s0 hW hS hF_55 hO k55_0 r55_0 r55_1 f55_0 f55_1 f55_2 f55_3 hl
        have hF := hF_55
        refine lv_ior hx hb dX6_walks_55 ?_
        refine lv_topi (fun v1 ev1 => ?_)
        refine lv_istore_n (lv' := [(2, .int v1), (0, .ref (z + 340)), (1, .int p0), (3, .int x15_3)]) hx hb dX6_walks_56 rfl hl (by decide) rfl (fun ls hl => ?_)
        obtain ⟨v2, ev2⟩ : ∃ y : Int32, y = x15_3 + 1 := ⟨_, rfl⟩
        have dv2 : dkN [(1, 3)] v2 := by rw [ev2]; exact dkN_add r55_1 (dkN_lit (x := 1) (1) rfl) rfl
        refine lv_iinc (v := v2) (lv' := [(3, .int v2), (2, .int v1), (0, .ref (z + 340)), (1, .int p0)]) hx hb dX6_walks_57 hl (k := 3) rfl (by rw [ev2]; rfl) (by decide) rfl (fun ls hl => ?_)
        refine lv_goto (tgt := 15) hx hb dX6_walks_60 (by decide) ?_
        exact ih15 I55_ _ _ ls v1 v2 (dk_near hn15 (by rw [ev2]; exact dk_inc r55_1 rfl) (dkN_lt r55_1 rfl)) hW hS hF hO (dkN_sub dv2 rfl) (dkN_sub r55_0 rfl) (lv_sub hl [2, 3, 1, 0] rfl)
      refine lv_iload_n hx hb dX6_walks_15 rfl (lv_at hl 3 rfl) ?_
      refine lv_iconst (v := 3) hx hb dX6_walks_16 (by decide) ?_
      refine lv_icmp_ge (tgt := 63) hx hb dX6_walks_17 (by decide) (fun c3 => ?_) (fun c3 => ?_)
      ·
        have d4 : dkN [(3, 3)] x15_3 := dkN_le2 0 (dkN_lit (x := 3) (3) rfl) k15_1 (dkc_le c3) rfl
        refine lv_iload_n hx hb dX6_walks_63 rfl (lv_at hl 2 rfl) ?_
        exact W.iret (v := x15_2) hx hb hr (fun t ht hW9 => ⟨⟨x15_2, I15_, rfl, ⟨hF, hO, ⟨trivial, trivial⟩⟩, dkW_eq ht hW⟩, hS.F ht⟩) hS.2.2 dX6_walks_64
      ·
        have d5 : dkN [(0, 2)] x15_3 := dkN_le1 1 k15_1 (dkN_lit (x := 3) (3) rfl) (dkc_nle c3) rfl
        refine lv_aload_n hx hb dX6_walks_20 rfl (lv_at hl 0 rfl) ?_
        refine dk_Vv (As := []) (rest := []) ⟨hx, hb, hml, hown, hts⟩ (c_X6_tries_0 l g z I15_ hO) (cwV 0 hts gX6_walks_X6_tries rfl rfl rfl (by decide +kernel) ⟨Nat.le_of_ble_eq_true rfl, Nat.le_of_ble_eq_true rfl⟩) (dk_at340 hW) rfl hK hT hW hS rfl hl.1 rfl (Nat.le_of_ble_eq_true rfl) dX6_walks_21 ⟨Nat.zero_le _, Nat.zero_le _⟩ (fun I6 H6 L6 hp6 hW hS => ?_)
        obtain ⟨hF6, hO, hc6⟩ := hp6
        have hF := dkF_call hF hF6 rfl
        obtain ⟨f6_340_20, f6_340_21, f6_340_22, -⟩ := hc6
        refine lv_aload_n hx hb dX6_walks_24 rfl (lv_at hl 0 rfl) ?_
        refine dk_get (k := 340) hx hb hts iX6_walks_6 hown hK (dk_at340 hW) rfl 15 (by decide) (hts (.fieldLink RX6 31 "DogKingsModel" "tried" "[I") (List.mem_of_getElem? (i := 2) rfl)) rfl dX6_walks_25 ?_
        refine lv_bipush (v := 6) hx hb dX6_walks_28 (by decide) ?_
        refine lv_bipush (v := 6) hx hb dX6_walks_30 (by decide) ?_
        refine lv_iload_n hx hb dX6_walks_32 rfl (lv_at hl 1 rfl) ?_
        refine lv_imul hx hb dX6_walks_33 ?_
        refine lv_topi (fun v7 ev7 => ?_)
        have dv7 : dkN [(0, 24)] v7 := by rw [ev7]; exact dkN_mulL 6 (by decide) (dkN_lit (x := 6) (6) rfl) r15_0 rfl
        refine lv_iadd hx hb dX6_walks_34 ?_
        refine lv_topi (fun v8 ev8 => ?_)
        have dv8 : dkN [(6, 30)] v8 := by rw [ev8]; exact dkN_add (dkN_lit (x := 6) (6) rfl) dv7 rfl
        refine lv_iconst (v := 2) hx hb dX6_walks_35 (by decide) ?_
        refine lv_iadd hx hb dX6_walks_36 ?_
        refine lv_topi (fun v9 ev9 => ?_)
        have dv9 : dkN [(8, 32)] v9 := by rw [ev9]; exact dkN_add dv8 (dkN_lit (x := 2) (2) rfl) rfl
        refine lv_iload_n hx hb dX6_walks_37 rfl (lv_at hl 3 rfl) ?_
        refine dk_ist (k := 348) hx hb hK hW (fun _ => rfl) (by decide) hS (dkN_in (n := 54) dv9 rfl) dX6_walks_38 (fun I10 H10 L10 eI10 hW hS => ?_)
        have hO := dkO_set hO eI10 (by rw [dkB_w (k := 348) (B := [(-2147483648, 2147483647)]) (by decide) dv9 rfl]; exact dkN_top _)
        have hF := dkF_set hF eI10 (dkIn_v dv9 rfl)
        refine lv_iload_n hx hb dX6_walks_39 rfl (lv_at hl 2 rfl) ?_
        refine lv_aload_n hx hb dX6_walks_40 rfl (lv_at hl 0 rfl) ?_
        refine dk_Vi (As := []) (rest := [.int x15_2]) ⟨hx, hb, hml, hown, hts⟩ (c_X6_nextKing_0 l g z I10 hO) (cwV 0 hts gX6_walks_X6_nextKing rfl rfl rfl (by decide +kernel) ⟨Nat.le_of_ble_eq_true rfl, Nat.le_of_ble_eq_true rfl⟩) (dk_at340 hW) rfl hK hT hW hS rfl hl.1 rfl (Nat.le_of_ble_eq_true rfl) dX6_walks_41 ⟨Nat.zero_le _, Nat.zero_le _⟩ (fun v11 I11 H11 L11 hp11 hW hS => ?_)
        obtain ⟨hF11, hO, hc11⟩ := hp11
        have hF := dkF_call hF hF11 rfl
        obtain ⟨dv11, f11_348_3, -⟩ := hc11
        refine lv_iload_n hx hb dX6_walks_44 rfl (lv_at hl 1 rfl) ?_
        refine lv_icmp_ne (tgt := 54) hx hb dX6_walks_45 (by decide) (fun c12 => ?_) (fun c12 => ?_)
        ·
          refine lv_iconst (v := 0) hx hb dX6_walks_54 (by decide) ?_
          exact C55 I11 _ _ ls 0 hW hS hF hO (dkN_sub (dkN_lit (x := 0) (0) rfl) rfl) (dkN_sub r15_0 rfl) (dkN_sub d5 rfl) (show dkN [(0, 0)] (I11 340 20) from dkN_sub (by rw [hF11 340 20 rfl]; exact (by rw [eI10, dkU_n (by decide)]; exact f6_340_20)) rfl) (show dkN [(0, 0)] (I11 340 21) from dkN_sub (by rw [hF11 340 21 rfl]; exact (by rw [eI10, dkU_n (by decide)]; exact f6_340_21)) rfl) (show dkN [(0, 0)] (I11 340 22) from dkN_sub (by rw [hF11 340 22 rfl]; exact (by rw [eI10, dkU_n (by decide)]; exact f6_340_22)) rfl) (show dkN [(0, 2147483647)] (I11 348 3) from dkN_sub f11_348_3 rfl) (lv_sub hl [0, 1, 2, 3] rfl)
        ·
          have d13 : dkN [(0, 4)] v11 := dkN_eq1 dv11 r15_0 (congrArg Int32.toInt c12) rfl
          refine lv_iconst (v := 1) hx hb dX6_walks_48 (by decide) ?_
          refine lv_iload_n hx hb dX6_walks_49 rfl (lv_at hl 3 rfl) ?_
          refine lv_ishl hx hb dX6_walks_50 ?_
          refine lv_topi (fun v14 ev14 => ?_)
          have dv14 : dkN [(1, 4)] v14 := by rw [ev14]; exact dkN_shl1 0 2 (by decide) d5 rfl
          refine lv_goto (tgt := 55) hx hb dX6_walks_51 (by decide) ?_
          exact C55 I11 _ _ ls v14 hW hS hF hO (dkN_sub dv14 rfl) (dkN_sub r15_0 rfl) (dkN_sub d5 rfl) (show dkN [(0, 0)] (I11 340 20) from dkN_sub (by rw [hF11 340 20 rfl]; exact (by rw [eI10, dkU_n (by decide)]; exact f6_340_20)) rfl) (show dkN [(0, 0)] (I11 340 21) from dkN_sub (by rw [hF11 340 21 rfl]; exact (by rw [eI10, dkU_n (by decide)]; exact f6_340_21)) rfl) (show dkN [(0, 0)] (I11 340 22) from dkN_sub (by rw [hF11 340 22 rfl]; exact (by rw [eI10, dkU_n (by decide)]; exact f6_340_22)) rfl) (show dkN [(0, 2147483647)] (I11 348 3) from dkN_sub f11_348_3 rfl) (lv_sub hl [0, 1, 2, 3] rfl)
  refine lv_aload_n hx hb dX6_walks_0 rfl (lv_at hl 0 rfl) ?_
  refine lv_iload_n hx hb dX6_walks_1 rfl (lv_at hl 1 rfl) ?_
  refine dk_Vi (As := [.int p0]) (rest := []) ⟨hx, hb, hml, hown, hts⟩ (c_X6_isPerson_0 l g z I0 p0 hO) (cwV 1 hts gX6_walks_X6_isPerson rfl rfl rfl (by decide +kernel) ⟨Nat.le_of_ble_eq_true rfl, Nat.le_of_ble_eq_true rfl⟩) (dk_at340 hW) rfl hK hT hW hS rfl hl.1 rfl (Nat.le_of_ble_eq_true rfl) dX6_walks_2 ⟨Nat.zero_le _, Nat.zero_le _⟩ (fun v15 I15 H15 L15 hp15 hW hS => ?_)
  obtain ⟨hF15, hO, hc15⟩ := hp15
  have hF := dkF_call hF hF15 rfl
  rcases hc15 with ⟨dv15, -⟩ | hc15
  ·
    refine lv_if_ne (tgt := 11) hx hb dX6_walks_5 (by decide) (fun c16 => ?_) (fun c16 => ?_)
    ·
      exact (dkN_nil (show dkN [] v15 from dkN_ne1 (0) dv15 (dkN_lit (x := 0) (0) rfl) (dk_ne c16) rfl)).elim
    ·
      refine lv_ldc (v := (-1000001)) hx hb hown (hts (.constant RX6 64 (-1000001)) (List.mem_of_getElem? (i := 1) rfl)) dX6_walks_8 ?_
      exact W.iret (v := (-1000001)) hx hb hr (fun t ht hW9 => ⟨⟨(-1000001), I15, rfl, ⟨hF, hO, ⟨trivial, trivial⟩⟩, dkW_eq ht hW⟩, hS.F ht⟩) hS.2.2 dX6_walks_10
  ·
    obtain ⟨dv15, a15_0, -⟩ := hc15
    have d17 : dkN [(0, 4)] p0 := dkN_eq1 (dkN_top p0) a15_0 rfl rfl
    refine lv_if_ne (tgt := 11) hx hb dX6_walks_5 (by decide) (fun c18 => ?_) (fun c18 => ?_)
    ·
      refine lv_iconst (v := 0) hx hb dX6_walks_11 (by decide) ?_
      refine lv_istore_n (lv' := [(2, .int 0), (0, .ref (z + 340)), (1, .int p0)]) hx hb dX6_walks_12 rfl hl (by decide) rfl (fun ls hl => ?_)
      refine lv_iconst (v := 0) hx hb dX6_walks_13 (by decide) ?_
      refine lv_istore_n (lv' := [(3, .int 0), (2, .int 0), (0, .ref (z + 340)), (1, .int p0)]) hx hb dX6_walks_14 rfl hl (by decide) rfl (fun ls hl => ?_)
      exact C15 _ I15 _ _ ls 0 0 (Nat.lt_succ_self _) hW hS hF hO (dkN_sub (dkN_lit (x := 0) (0) rfl) rfl) (dkN_sub d17 rfl) (lv_sub hl [2, 3, 1, 0] rfl)
    ·
      exact (dkN_nil (show dkN [] v15 from dkN_eq1 dv15 (dkN_lit (x := 0) (0) rfl) (congrArg Int32.toInt c18) rfl)).elim
set_option maxHeartbeats 4000000 in
set_option maxRecDepth 100000 in
theorem c_X5_isUpTo_5 (l : Launch) (g : dkG) (z : Nat) (I0 : dkI) (p0 : Int32) (p1 : Int32) (dp1 : dkN [(1, 1)] p1)  (hO : dkOk I0) : Met l yX5_isUpTo wsX5_isUpTo (dkR 0) (dkPc g z [.int p0, .int p1] I0) (dkQi g z (fun r I1 => dkF [] I0 I1 ∧ dkOk I1 ∧ ((dkN [(0, 0)] r ∧ dkN [(-2147483648, -1), (2, 2147483647)] p0 ∧ True) ∨ (dkN [(1, 1)] r ∧ dkN [(0, 1)] p0 ∧ True)))) 0 0 (dkA z) := by
  refine Met.ofW (cc := cX5_isUpTo) (maxL := 2) (ret := (some .boolean)) (by decide) rfl ?_
  intro p e s m args below meth c s₁ B hml hv
  obtain ⟨ha, hW, hK, hT⟩ := hv
  have hx := B.exec
  have hb := B.bytes
  have hr := B.returns
  have hts := atoms_spec (ws := wsX5_isUpTo) B.pre
  have hown : s.vm.findClass RX5 = some m.cls := findClass_of_methodNamed B.named
  have hlocks := B.notSynchronized
  have hS : va_S (dkA z) s.heap s.heap [] := va_S.rf
  have hF : dkF [] I0 I0 := dkF_rf _ _
  have hl := lv_entry ([.int p0, .int p1]) (n := 2) (Nat.le_of_ble_eq_true rfl)
  have hgo : entryFrame m args 2 = entryFrame m ([.int p0, .int p1] : List Value).toArray 2 := by rw [ha]
  rw [hgo, lg_entry_eq]
  generalize (lg_sl ([.int p0, .int p1]) ++ List.replicate (2 - (lg_sl ([.int p0, .int p1])).length) Slot.unset).toArray = ls at hl ⊢
  have hl : lv_has ls 2 [(0, .int p0), (1, .int p1)] := hl
  refine lv_iload_n hx hb dX5_isUpTo_0 rfl (lv_at hl 0 rfl) ?_
  refine lv_if_lt (tgt := 13) hx hb dX5_isUpTo_1 (by decide) (fun c1 => ?_) (fun c1 => ?_)
  ·
    have d2 : dkN [(-2147483648, -1)] p0 := dkN_le1 1 (dkN_top p0) (dkN_lit (x := 0) (0) rfl) (dkc_lt c1) rfl
    refine lv_iconst (v := 0) hx hb dX5_isUpTo_13 (by decide) ?_
    exact W.zret (v := 0) (ty := .boolean) hx hb hr rfl (fun t ht hW9 => ⟨⟨0, I0, rfl, ⟨hF, hO, Or.inl ⟨dkN_sub (dkN_lit (x := 0) (0) rfl) rfl, dkN_sub d2 rfl, trivial⟩⟩, dkW_eq ht hW⟩, hS.F ht⟩) hS.2.2 dX5_isUpTo_14
  ·
    have d3 : dkN [(0, 2147483647)] p0 := dkN_le2 0 (dkN_lit (x := 0) (0) rfl) (dkN_top p0) (dkc_nlt c1) rfl
    refine lv_iload_n hx hb dX5_isUpTo_4 rfl (lv_at hl 0 rfl) ?_
    refine lv_iload_n hx hb dX5_isUpTo_5 rfl (lv_at hl 1 rfl) ?_
    refine lv_icmp_gt (tgt := 13) hx hb dX5_isUpTo_6 (by decide) (fun c4 => ?_) (fun c4 => ?_)
    ·
      have d5 : dkN [(2, 2147483647)] p0 := dkN_le2 1 dp1 d3 (dkc_lt c4) rfl
      refine lv_iconst (v := 0) hx hb dX5_isUpTo_13 (by decide) ?_
      exact W.zret (v := 0) (ty := .boolean) hx hb hr rfl (fun t ht hW9 => ⟨⟨0, I0, rfl, ⟨hF, hO, Or.inl ⟨dkN_sub (dkN_lit (x := 0) (0) rfl) rfl, dkN_sub d5 rfl, trivial⟩⟩, dkW_eq ht hW⟩, hS.F ht⟩) hS.2.2 dX5_isUpTo_14
    ·
      have d6 : dkN [(0, 1)] p0 := dkN_le1 0 d3 dp1 (dkc_nlt c4) rfl
      refine lv_iconst (v := 1) hx hb dX5_isUpTo_9 (by decide) ?_
      refine lv_goto (tgt := 14) hx hb dX5_isUpTo_10 (by decide) ?_
      exact W.zret (v := 1) (ty := .boolean) hx hb hr rfl (fun t ht hW9 => ⟨⟨1, I0, rfl, ⟨hF, hO, Or.inr (⟨dkN_sub (dkN_lit (x := 1) (1) rfl) rfl, dkN_sub d6 rfl, trivial⟩)⟩, dkW_eq ht hW⟩, hS.F ht⟩) hS.2.2 dX5_isUpTo_14
set_option maxHeartbeats 4000000 in
set_option maxRecDepth 100000 in
theorem c_X5_setOfAll_1 (l : Launch) (g : dkG) (z : Nat) (I0 : dkI) (p0 : Int32) (dp0 : dkN [(1, 9)] p0)  (hO : dkOk I0) : Met l yX5_setOfAll wsX5_setOfAll (dkR 0) (dkPc g z [.int p0] I0) (dkQi g z (fun r I1 => dkF [] I0 I1 ∧ dkOk I1 ∧ ((dkN [(1, 511)] r ∧ True)))) 0 0 (dkA z) := by
  refine Met.ofW (cc := cX5_setOfAll) (maxL := 1) (ret := (some .int)) (by decide) rfl ?_
  intro p e s m args below meth c s₁ B hml hv
  obtain ⟨ha, hW, hK, hT⟩ := hv
  have hx := B.exec
  have hb := B.bytes
  have hr := B.returns
  have hts := atoms_spec (ws := wsX5_setOfAll) B.pre
  have hown : s.vm.findClass RX5 = some m.cls := findClass_of_methodNamed B.named
  have hlocks := B.notSynchronized
  have hS : va_S (dkA z) s.heap s.heap [] := va_S.rf
  have hF : dkF [] I0 I0 := dkF_rf _ _
  have hl := lv_entry ([.int p0]) (n := 1) (Nat.le_of_ble_eq_true rfl)
  have hgo : entryFrame m args 1 = entryFrame m ([.int p0] : List Value).toArray 1 := by rw [ha]
  rw [hgo, lg_entry_eq]
  generalize (lg_sl ([.int p0]) ++ List.replicate (1 - (lg_sl ([.int p0])).length) Slot.unset).toArray = ls at hl ⊢
  have hl : lv_has ls 1 [(0, .int p0)] := hl
  refine lv_iconst (v := 1) hx hb dX5_setOfAll_0 (by decide) ?_
  refine lv_iload_n hx hb dX5_setOfAll_1 rfl (lv_at hl 0 rfl) ?_
  refine lv_ishl hx hb dX5_setOfAll_2 ?_
  refine lv_topi (fun v1 ev1 => ?_)
  have dv1 : dkN [(2, 512)] v1 := by rw [ev1]; exact dkN_shl1 1 9 (by decide) dp0 rfl
  refine lv_iconst (v := 1) hx hb dX5_setOfAll_3 (by decide) ?_
  refine lv_isub hx hb dX5_setOfAll_4 ?_
  refine lv_topi (fun v2 ev2 => ?_)
  have dv2 : dkN [(1, 511)] v2 := by rw [ev2]; exact dkN_subt dv1 (dkN_lit (x := 1) (1) rfl) rfl
  exact W.iret (v := v2) hx hb hr (fun t ht hW9 => ⟨⟨v2, I0, rfl, ⟨hF, hO, ⟨dkN_sub dv2 rfl, trivial⟩⟩, dkW_eq ht hW⟩, hS.F ht⟩) hS.2.2 dX5_setOfAll_5
set_option maxHeartbeats 4000000 in
set_option maxRecDepth 100000 in
theorem c_X3_keepsDogsOut_0 (l : Launch) (g : dkG) (z : Nat) (I0 : dkI) (p0 : Int32) (p1 : Int32)  (hO : dkOk I0) : Met l yX3_keepsDogsOut wsX3_keepsDogsOut (dkR 5) (dkPc g z [.ref (z + 325), .int p0, .int p1] I0) (dkQi g z (fun r I1 => dkF [(326, 326, 0, 4), (326, 326, 11, 11), (326, 326, 15, 17), (327, 327, 0, 4), (328, 328, 0, 4), (329, 329, 0, 4), (330, 330, 0, 4), (331, 331, 0, 4), (332, 332, 0, 4), (333, 333, 0, 5), (334, 334, 0, 5), (335, 335, 0, 5), (336, 336, 0, 8)] I0 I1 ∧ dkOk I1 ∧ ((dkN [(0, 1)] r ∧ True)))) 0 0 (dkA z) := by
  refine Met.ofW (cc := cX3_keepsDogsOut) (maxL := 3) (ret := (some .boolean)) (by decide) rfl ?_
  intro p e s m args below meth c s₁ B hml hv
  obtain ⟨ha, hW, hK, hT⟩ := hv
  have hx := B.exec
  have hb := B.bytes
  have hr := B.returns
  have hts := atoms_spec (ws := wsX3_keepsDogsOut) B.pre
  have hown : s.vm.findClass RX3 = some m.cls := findClass_of_methodNamed B.named
  have hlocks := B.notSynchronized
  have hS : va_S (dkA z) s.heap s.heap [] := va_S.rf
  have hF : dkF [(326, 326, 0, 4), (326, 326, 11, 11), (326, 326, 15, 17), (327, 327, 0, 4), (328, 328, 0, 4), (329, 329, 0, 4), (330, 330, 0, 4), (331, 331, 0, 4), (332, 332, 0, 4), (333, 333, 0, 5), (334, 334, 0, 5), (335, 335, 0, 5), (336, 336, 0, 8)] I0 I0 := dkF_rf _ _
  have hl := lv_entry ([.ref (z + 325), .int p0, .int p1]) (n := 3) (Nat.le_of_ble_eq_true rfl)
  have hgo : entryFrame m args 3 = entryFrame m ([.ref (z + 325), .int p0, .int p1] : List Value).toArray 3 := by rw [ha]
  rw [hgo, lg_entry_eq]
  generalize (lg_sl ([.ref (z + 325), .int p0, .int p1]) ++ List.replicate (3 - (lg_sl ([.ref (z + 325), .int p0, .int p1])).length) Slot.unset).toArray = ls at hl ⊢
  have hl : lv_has ls 3 [(0, .ref (z + 325)), (1, .int p0), (2, .int p1)] := hl
  refine lv_aload_n hx hb dX3_keepsDogsOut_0 rfl (lv_at hl 0 rfl) ?_
  refine dk_get (k := 325) hx hb hts iX3_keepsDogsOut_3 hown hK (dk_at325 hW) rfl 1 (by decide) (hts (.fieldLink RX3 12 "DogKings$Seer" "then" "LDogKings$Town;") (List.mem_of_getElem? (i := 1) rfl)) rfl dX3_keepsDogsOut_1 ?_
  refine lv_aload_n hx hb dX3_keepsDogsOut_4 rfl (lv_at hl 0 rfl) ?_
  refine dk_get (k := 325) hx hb hts iX3_keepsDogsOut_3 hown hK (dk_at325 hW) rfl 0 (by decide) (hts (.fieldLink RX3 22 "DogKings$Seer" "now" "LDogKings$Town;") (List.mem_of_getElem? (i := 2) rfl)) rfl dX3_keepsDogsOut_5 ?_
  refine dk_Vv (As := [.ref (z + 25)]) (rest := []) ⟨hx, hb, hml, hown, hts⟩ (c_X4_become_0 l g z I0 (326) (by unfold dkT; omega) (25) (by unfold dkT; omega) hO) (cwV 1 hts gX3_keepsDogsOut_X4_become rfl rfl rfl (by decide +kernel) ⟨Nat.le_of_ble_eq_true rfl, Nat.le_of_ble_eq_true rfl⟩) (dk_at326 hW) rfl hK hT hW hS rfl hl.1 rfl (Nat.le_of_ble_eq_true rfl) dX3_keepsDogsOut_8 ⟨Nat.zero_le _, Nat.zero_le _⟩ (fun I1 H1 L1 hp1 hW hS => ?_)
  obtain ⟨hF1, hO, hc1⟩ := hp1
  have hF := dkF_call hF hF1 rfl
  refine lv_aload_n hx hb dX3_keepsDogsOut_11 rfl (lv_at hl 0 rfl) ?_
  refine dk_get (k := 325) hx hb hts iX3_keepsDogsOut_3 hown hK (dk_at325 hW) rfl 1 (by decide) (hts (.fieldLink RX3 12 "DogKings$Seer" "then" "LDogKings$Town;") (List.mem_of_getElem? (i := 1) rfl)) rfl dX3_keepsDogsOut_12 ?_
  refine lv_iload_n hx hb dX3_keepsDogsOut_15 rfl (lv_at hl 1 rfl) ?_
  refine dk_put (k := 326) hx hb hts iX3_keepsDogsOut_4 tyX4 tyX4_ok nmX4 hown hK hW (dk_at326 hW) hS rfl 17 (by decide) (hts (.fieldLink RX3 81 "DogKings$Town" "cats" "I") (List.mem_of_getElem? (i := 3) rfl)) rfl rfl (Nat.le_of_ble_eq_true rfl) rfl dX3_keepsDogsOut_16 (fun I2 H2 L2 eI2 hW hS => ?_)
  have eI2 : I2 = dkU I1 326 17 p0 := eI2
  have hO := dkO_set hO eI2 (dkN_sub (dkN_top p0) rfl)
  have hF := dkF_set hF eI2 rfl
  refine lv_aload_n hx hb dX3_keepsDogsOut_19 rfl (lv_at hl 0 rfl) ?_
  refine dk_get (k := 325) hx hb hts iX3_keepsDogsOut_3 hown hK (dk_at325 hW) rfl 1 (by decide) (hts (.fieldLink RX3 12 "DogKings$Seer" "then" "LDogKings$Town;") (List.mem_of_getElem? (i := 1) rfl)) rfl dX3_keepsDogsOut_20 ?_
  refine dk_Vv (As := []) (rest := []) ⟨hx, hb, hml, hown, hts⟩ (c_X4_runToBell_0 l g z I2 (326) (by unfold dkT; omega) hO) (cwV 0 hts gX3_keepsDogsOut_X4_runToBell rfl rfl rfl (by decide +kernel) ⟨Nat.le_of_ble_eq_true rfl, Nat.le_of_ble_eq_true rfl⟩) (dk_at326 hW) rfl hK hT hW hS rfl hl.1 rfl (Nat.le_of_ble_eq_true rfl) dX3_keepsDogsOut_23 ⟨Nat.zero_le _, Nat.zero_le _⟩ (fun I3 H3 L3 hp3 hW hS => ?_)
  obtain ⟨hF3, hO, hc3⟩ := hp3
  have hF := dkF_call hF hF3 rfl
  refine lv_aload_n hx hb dX3_keepsDogsOut_26 rfl (lv_at hl 0 rfl) ?_
  refine dk_get (k := 325) hx hb hts iX3_keepsDogsOut_3 hown hK (dk_at325 hW) rfl 1 (by decide) (hts (.fieldLink RX3 12 "DogKings$Seer" "then" "LDogKings$Town;") (List.mem_of_getElem? (i := 1) rfl)) rfl dX3_keepsDogsOut_27 ?_
  refine lv_iload_n hx hb dX3_keepsDogsOut_30 rfl (lv_at hl 2 rfl) ?_
  refine dk_Vi (As := [.int p1]) (rest := []) ⟨hx, hb, hml, hown, hts⟩ (c_X4_dogsIn_0 l g z I3 (326) (by unfold dkT; omega) p1 hO) (cwV 1 hts gX3_keepsDogsOut_X4_dogsIn rfl rfl rfl (by decide +kernel) ⟨Nat.le_of_ble_eq_true rfl, Nat.le_of_ble_eq_true rfl⟩) (dk_at326 hW) rfl hK hT hW hS rfl hl.1 rfl (Nat.le_of_ble_eq_true rfl) dX3_keepsDogsOut_31 ⟨Nat.zero_le _, Nat.zero_le _⟩ (fun v4 I4 H4 L4 hp4 hW hS => ?_)
  obtain ⟨hF4, hO, hc4⟩ := hp4
  have hF := dkF_call hF hF4 rfl
  obtain ⟨_, -⟩ := hc4
  refine lv_if_ne (tgt := 41) hx hb dX3_keepsDogsOut_34 (by decide) (fun c5 => ?_) (fun c5 => ?_)
  ·
    have d6 : dkN [(-2147483648, -1), (1, 2147483647)] v4 := dkN_ne1 (0) (dkN_top v4) (dkN_lit (x := 0) (0) rfl) (dk_ne c5) rfl
    refine lv_iconst (v := 0) hx hb dX3_keepsDogsOut_41 (by decide) ?_
    exact W.zret (v := 0) (ty := .boolean) hx hb hr rfl (fun t ht hW9 => ⟨⟨0, I4, rfl, ⟨hF, hO, ⟨dkN_sub (dkN_lit (x := 0) (0) rfl) rfl, trivial⟩⟩, dkW_eq ht hW⟩, hS.F ht⟩) hS.2.2 dX3_keepsDogsOut_42
  ·
    have d7 : dkN [(0, 0)] v4 := dkN_eq1 (dkN_top v4) (dkN_lit (x := 0) (0) rfl) (congrArg Int32.toInt c5) rfl
    refine lv_iconst (v := 1) hx hb dX3_keepsDogsOut_37 (by decide) ?_
    refine lv_goto (tgt := 42) hx hb dX3_keepsDogsOut_38 (by decide) ?_
    exact W.zret (v := 1) (ty := .boolean) hx hb hr rfl (fun t ht hW9 => ⟨⟨1, I4, rfl, ⟨hF, hO, ⟨dkN_sub (dkN_lit (x := 1) (1) rfl) rfl, trivial⟩⟩, dkW_eq ht hW⟩, hS.F ht⟩) hS.2.2 dX3_keepsDogsOut_42
set_option maxHeartbeats 4000000 in
set_option maxRecDepth 100000 in
theorem c_X3_fewestCats_0 (l : Launch) (g : dkG) (z : Nat) (I0 : dkI) (p0 : Int32) (dp0 : dkN [(0, 8)] p0)  (hO : dkOk I0) : Met l yX3_fewestCats wsX3_fewestCats (dkR 6) (dkPc g z [.ref (z + 325), .int p0] I0) (dkQi g z (fun r I1 => dkF [(326, 326, 0, 4), (326, 326, 11, 11), (326, 326, 15, 17), (327, 327, 0, 4), (328, 328, 0, 4), (329, 329, 0, 4), (330, 330, 0, 4), (331, 331, 0, 4), (332, 332, 0, 4), (333, 333, 0, 5), (334, 334, 0, 5), (335, 335, 0, 5), (336, 336, 0, 8)] I0 I1 ∧ dkOk I1 ∧ ((dkN [(-1000000, -1000000)] r ∧ True) ∨ (dkN [(0, 511)] r ∧ dkN [(1, 9)] (I1 25 0) ∧ True)))) 0 0 (dkA z) := by
  refine Met.ofW (cc := cX3_fewestCats) (maxL := 4) (ret := (some .int)) (by decide) rfl ?_
  intro p e s m args below meth c s₁ B hml hv
  obtain ⟨ha, hW, hK, hT⟩ := hv
  have hx := B.exec
  have hb := B.bytes
  have hr := B.returns
  have hts := atoms_spec (ws := wsX3_fewestCats) B.pre
  have hown : s.vm.findClass RX3 = some m.cls := findClass_of_methodNamed B.named
  have hlocks := B.notSynchronized
  have hS : va_S (dkA z) s.heap s.heap [] := va_S.rf
  have hF : dkF [(326, 326, 0, 4), (326, 326, 11, 11), (326, 326, 15, 17), (327, 327, 0, 4), (328, 328, 0, 4), (329, 329, 0, 4), (330, 330, 0, 4), (331, 331, 0, 4), (332, 332, 0, 4), (333, 333, 0, 5), (334, 334, 0, 5), (335, 335, 0, 5), (336, 336, 0, 8)] I0 I0 := dkF_rf _ _
  have hl := lv_entry ([.ref (z + 325), .int p0]) (n := 4) (Nat.le_of_ble_eq_true rfl)
  have hgo : entryFrame m args 4 = entryFrame m ([.ref (z + 325), .int p0] : List Value).toArray 4 := by rw [ha]
  rw [hgo, lg_entry_eq]
  generalize (lg_sl ([.ref (z + 325), .int p0]) ++ List.replicate (4 - (lg_sl ([.ref (z + 325), .int p0])).length) Slot.unset).toArray = ls at hl ⊢
  have hl : lv_has ls 4 [(0, .ref (z + 325)), (1, .int p0)] := hl
  have C2 : ∀ (n : Nat), ∀ (I : dkI) (H : Heap) (locs : List Loc) (ls : Array Slot) (x2_2 : Int32), (9 - x2_2.toInt).toNat < n → dkW g z I H → va_S (dkA z) s.heap H locs → dkF [(326, 326, 0, 4), (326, 326, 11, 11), (326, 326, 15, 17), (327, 327, 0, 4), (328, 328, 0, 4), (329, 329, 0, 4), (330, 330, 0, 4), (331, 331, 0, 4), (332, 332, 0, 4), (333, 333, 0, 5), (334, 334, 0, 5), (335, 335, 0, 5), (336, 336, 0, 8)] I0 I → dkOk I → dkN [(0, 9)] x2_2 → lv_has ls 4 [(0, .ref (z + 325)), (1, .int p0), (2, .int x2_2)] → W p l e (headSpec wsX3_fewestCats (dkR 6)).room s m args below meth c H locs 0 0 (MQ below (dkQi g z (fun r I1 => dkF [(326, 326, 0, 4), (326, 326, 11, 11), (326, 326, 15, 17), (327, 327, 0, 4), (328, 328, 0, 4), (329, 329, 0, 4), (330, 330, 0, 4), (331, 331, 0, 4), (332, 332, 0, 4), (333, 333, 0, 5), (334, 334, 0, 5), (335, 335, 0, 5), (336, 336, 0, 8)] I0 I1 ∧ dkOk I1 ∧ ((dkN [(-1000000, -1000000)] r ∧ True) ∨ (dkN [(0, 511)] r ∧ dkN [(1, 9)] (I1 25 0) ∧ True)))) args s 0 0 (dkA z)) (F0 m 2 ls []) := by
    intro n
    induction n with
    | zero => intro I H locs ls x2_2 hn; exact absurd hn (Nat.not_lt_zero _)
    | succ n ih2 =>
      intro I2_ H locs ls x2_2 hn2 hW hS hF_2 hO k2_0 hl
      have hF := hF_2
      have C15 : ∀ (n : Nat), ∀ (I : dkI) (H : Heap) (locs : List Loc) (ls : Array Slot) (x15_3 : Int32), (2147483647 - x15_3.toInt).toNat < n → dkW g z I H → va_S (dkA z) s.heap H locs → dkF [(326, 326, 0, 4), (326, 326, 11, 11), (326, 326, 15, 17), (327, 327, 0, 4), (328, 328, 0, 4), (329, 329, 0, 4), (330, 330, 0, 4), (331, 331, 0, 4), (332, 332, 0, 4), (333, 333, 0, 5), (334, 334, 0, 5), (335, 335, 0, 5), (336, 336, 0, 8)] I0 I → dkOk I → dkN [(0, 2147483647)] x15_3 → dkN [(0, 8)] x2_2 → dkN [(1, 9)] (I 25 0) → lv_has ls 4 [(0, .ref (z + 325)), (1, .int p0), (2, .int x2_2), (3, .int x15_3)] → W p l e (headSpec wsX3_fewestCats (dkR 6)).room s m args below meth c H locs 0 0 (MQ below (dkQi g z (fun r I1 => dkF [(326, 326, 0, 4), (326, 326, 11, 11), (326, 326, 15, 17), (327, 327, 0, 4), (328, 328, 0, 4), (329, 329, 0, 4), (330, 330, 0, 4), (331, 331, 0, 4), (332, 332, 0, 4), (333, 333, 0, 5), (334, 334, 0, 5), (335, 335, 0, 5), (336, 336, 0, 8)] I0 I1 ∧ dkOk I1 ∧ ((dkN [(-1000000, -1000000)] r ∧ True) ∨ (dkN [(0, 511)] r ∧ dkN [(1, 9)] (I1 25 0) ∧ True)))) args s 0 0 (dkA z)) (F0 m 15 ls []) := by
        intro n
        induction n with
        | zero => intro I H locs ls x15_3 hn; exact absurd hn (Nat.not_lt_zero _)
        | succ n ih15 =>
          intro I15_ H locs ls x15_3 hn15 hW hS hF_15 hO k15_0 r15_0 f15_0 hl
          have hF := hF_15
          have C56 : ∀ (I : dkI) (H : Heap) (locs : List Loc) (ls : Array Slot), dkW g z I H → va_S (dkA z) s.heap H locs → dkF [(326, 326, 0, 4), (326, 326, 11, 11), (326, 326, 15, 17), (327, 327, 0, 4), (328, 328, 0, 4), (329, 329, 0, 4), (330, 330, 0, 4), (331, 331, 0, 4), (332, 332, 0, 4), (333, 333, 0, 5), (334, 334, 0, 5), (335, 335, 0, 5), (336, 336, 0, 8)] I0 I → dkOk I → dkN [(0, 8)] x2_2 → dkN [(0, 511)] x15_3 → dkN [(1, 9)] (I 25 0) → lv_has ls 4 [(0, .ref (z + 325)), (1, .int p0), (2, .int x2_2), (3, .int x15_3)] → W p l e (headSpec wsX3_fewestCats (dkR 6)).room s m args below meth c H locs 0 0 (MQ below (dkQi g z (fun r I1 => dkF [(326, 326, 0, 4), (326, 326, 11, 11), (326, 326, 15, 17), (327, 327, 0, 4), (328, 328, 0, 4), (329, 329, 0, 4), (330, 330, 0, 4), (331, 331, 0, 4), (332, 332, 0, 4), (333, 333, 0, 5), (334, 334, 0, 5), (335, 335, 0, 5), (336, 336, 0, 8)] I0 I1 ∧ dkOk I1 ∧ ((dkN [(-1000000, -1000000)] r ∧ True) ∨ (dkN [(0, 511)] r ∧ dkN [(1, 9)] (I1 25 0) ∧ True)))) args s 0 0 (dkA z)) (F0 m 56 ls []) := by
            intro I56_ H locs ls hW hS hF_56 hO r56_0 r56_1 f56_0 hl
            have hF := hF_56
            obtain ⟨v1, ev1⟩ : ∃ y : Int32, y = x15_3 + 1 := ⟨_, rfl⟩
            have dv1 : dkN [(1, 512)] v1 := by rw [ev1]; exact dkN_add r56_1 (dkN_lit (x := 1) (1) rfl) rfl
            refine lv_iinc (v := v1) (lv' := [(3, .int v1), (0, .ref (z + 325)), (1, .int p0), (2, .int x2_2)]) hx hb dX3_fewestCats_56 hl (k := 3) rfl (by rw [ev1]; rfl) (by decide) rfl (fun ls hl => ?_)
            refine lv_goto (tgt := 15) hx hb dX3_fewestCats_59 (by decide) ?_
            exact ih15 I56_ _ _ ls v1 (dk_near hn15 (by rw [ev1]; exact dk_inc r56_1 rfl) (dkN_lt r56_1 rfl)) hW hS hF hO (dkN_sub dv1 rfl) (dkN_sub r56_0 rfl) (show dkN [(1, 9)] (I56_ 25 0) from dkN_sub f56_0 rfl) (lv_sub hl [1, 2, 3, 0] rfl)
          refine lv_iload_n hx hb dX3_fewestCats_15 rfl (lv_at hl 3 rfl) ?_
          refine lv_aload_n hx hb dX3_fewestCats_16 rfl (lv_at hl 0 rfl) ?_
          refine dk_get (k := 325) hx hb hts iX3_fewestCats_3 hown hK (dk_at325 hW) rfl 0 (by decide) (hts (.fieldLink RX3 22 "DogKings$Seer" "now" "LDogKings$Town;") (List.mem_of_getElem? (i := 1) rfl)) rfl dX3_fewestCats_17 ?_
          refine dk_get (k := 25) hx hb hts iX3_fewestCats_4 hown hK (dk_at25 hW) rfl 0 (by decide) (hts (.fieldLink RX3 61 "DogKings$Town" "places" "I") (List.mem_of_getElem? (i := 2) rfl)) rfl dX3_fewestCats_20 ?_
          refine lv_topi (fun v2 ev2 => ?_)
          have dv2 : dkN [(1, 9)] v2 := by rw [ev2]; exact f15_0
          refine dk_SiN (As := [.int v2]) (rest := [.int x15_3]) ⟨hx, hb, hml, hown, hts⟩ (c_X5_setOfAll_1 l g z I15_ v2 dv2 hO) ⟨va_cnB 1 hts gX3_fewestCats_X5_setOfAll_n65 rfl rfl rfl (hK.2.1 (RX3, 65, yX5_setOfAll) (by decide)) (hts (.initialized RX5) (List.mem_of_getElem? (i := 5) rfl)) (by decide +kernel) ⟨Nat.le_of_ble_eq_true rfl, Nat.le_of_ble_eq_true rfl⟩, (hts (.static yX5_setOfAll) (List.mem_of_getElem? (i := 4) rfl)), trivial⟩ hK hT hW hS rfl hl.1 rfl (Nat.le_of_ble_eq_true rfl) dX3_fewestCats_23 ⟨Nat.zero_le _, Nat.zero_le _⟩ (fun v3 I3 H3 L3 hp3 hW hS => ?_)
          obtain ⟨hF3, hO, hc3⟩ := hp3
          have hF := dkF_call hF hF3 rfl
          obtain ⟨dv3, -⟩ := hc3
          refine lv_icmp_gt (tgt := 62) hx hb dX3_fewestCats_26 (by decide) (fun c4 => ?_) (fun c4 => ?_)
          ·
            have d5 : dkN [(2, 2147483647)] x15_3 := dkN_le2 1 dv3 k15_0 (dkc_lt c4) rfl
            obtain ⟨v6, ev6⟩ : ∃ y : Int32, y = x2_2 + 1 := ⟨_, rfl⟩
            have dv6 : dkN [(1, 9)] v6 := by rw [ev6]; exact dkN_add r15_0 (dkN_lit (x := 1) (1) rfl) rfl
            refine lv_iinc (v := v6) (lv' := [(2, .int v6), (0, .ref (z + 325)), (1, .int p0), (3, .int x15_3)]) hx hb dX3_fewestCats_62 hl (k := 2) rfl (by rw [ev6]; rfl) (by decide) rfl (fun ls hl => ?_)
            refine lv_goto (tgt := 2) hx hb dX3_fewestCats_65 (by decide) ?_
            exact ih2 I3 _ _ ls v6 (dk_near hn2 (by rw [ev6]; exact dk_inc r15_0 rfl) (dkN_lt r15_0 rfl)) hW hS hF hO (dkN_sub dv6 rfl) (lv_sub hl [1, 2, 0] rfl)
          ·
            have d7 : dkN [(0, 511)] x15_3 := dkN_le1 0 k15_0 dv3 (dkc_nlt c4) rfl
            refine lv_iload_n hx hb dX3_fewestCats_29 rfl (lv_at hl 3 rfl) ?_
            refine dk_Si (As := [.int x15_3]) (rest := []) ⟨hx, hb, hml, hown, hts⟩ (c_J6_bitCount_0f7a4_0 l g z I3 x15_3 hO) (va_cwS 1 hts gX3_fewestCats_J6_bitCount_0f7a4 rfl rfl rfl (by decide +kernel) ⟨Nat.le_of_ble_eq_true rfl, Nat.le_of_ble_eq_true rfl⟩) hK hT hW hS rfl hl.1 rfl (Nat.le_of_ble_eq_true rfl) dX3_fewestCats_30 ⟨Nat.zero_le _, Nat.zero_le _⟩ (fun v8 I8 H8 L8 hp8 hW hS => ?_)
            obtain ⟨hF8, hO, hc8⟩ := hp8
            have hF := dkF_call hF hF8 rfl
            obtain ⟨dv8, -⟩ := hc8
            refine lv_iload_n hx hb dX3_fewestCats_33 rfl (lv_at hl 2 rfl) ?_
            refine lv_icmp_ne (tgt := 56) hx hb dX3_fewestCats_34 (by decide) (fun c9 => ?_) (fun c9 => ?_)
            ·
              exact C56 I8 _ _ ls  hW hS hF hO (dkN_sub r15_0 rfl) (dkN_sub d7 rfl) (show dkN [(1, 9)] (I8 25 0) from dkN_sub (by rw [hF8 25 0 rfl]; exact (by rw [hF3 25 0 rfl]; exact f15_0)) rfl) (lv_sub hl [0, 1, 2, 3] rfl)
            ·
              have d10 : dkN [(0, 8)] v8 := dkN_eq1 dv8 r15_0 (congrArg Int32.toInt c9) rfl
              refine lv_iload_n hx hb dX3_fewestCats_37 rfl (lv_at hl 3 rfl) ?_
              refine lv_iload_n hx hb dX3_fewestCats_38 rfl (lv_at hl 1 rfl) ?_
              refine dk_SiN (As := [.int x15_3, .int p0]) (rest := []) ⟨hx, hb, hml, hown, hts⟩ (c_X5_holds_0 l g z I8 x15_3 p0 hO) ⟨va_cnB 2 hts gX3_fewestCats_X5_holds_n74 rfl rfl rfl (hK.2.1 (RX3, 74, yX5_holds) (by decide)) (hts (.initialized RX5) (List.mem_of_getElem? (i := 5) rfl)) (by decide +kernel) ⟨Nat.le_of_ble_eq_true rfl, Nat.le_of_ble_eq_true rfl⟩, (hts (.static yX5_holds) (List.mem_of_getElem? (i := 14) rfl)), trivial⟩ hK hT hW hS rfl hl.1 rfl (Nat.le_of_ble_eq_true rfl) dX3_fewestCats_39 ⟨Nat.zero_le _, Nat.zero_le _⟩ (fun v11 I11 H11 L11 hp11 hW hS => ?_)
              obtain ⟨hF11, hO, hc11⟩ := hp11
              have hF := dkF_call hF hF11 rfl
              obtain ⟨dv11, -⟩ := hc11
              refine lv_if_ne (tgt := 56) hx hb dX3_fewestCats_42 (by decide) (fun c12 => ?_) (fun c12 => ?_)
              ·
                have d13 : dkN [(1, 1)] v11 := dkN_ne1 (0) dv11 (dkN_lit (x := 0) (0) rfl) (dk_ne c12) rfl
                exact C56 I11 _ _ ls  hW hS hF hO (dkN_sub r15_0 rfl) (dkN_sub d7 rfl) (show dkN [(1, 9)] (I11 25 0) from dkN_sub (by rw [hF11 25 0 rfl]; exact (by rw [hF8 25 0 rfl]; exact (by rw [hF3 25 0 rfl]; exact f15_0))) rfl) (lv_sub hl [0, 1, 2, 3] rfl)
              ·
                have d14 : dkN [(0, 0)] v11 := dkN_eq1 dv11 (dkN_lit (x := 0) (0) rfl) (congrArg Int32.toInt c12) rfl
                refine lv_aload_n hx hb dX3_fewestCats_45 rfl (lv_at hl 0 rfl) ?_
                refine lv_iload_n hx hb dX3_fewestCats_46 rfl (lv_at hl 3 rfl) ?_
                refine lv_iload_n hx hb dX3_fewestCats_47 rfl (lv_at hl 1 rfl) ?_
                refine dk_Vi (As := [.int x15_3, .int p0]) (rest := []) ⟨hx, hb, hml, hown, hts⟩ (c_X3_keepsDogsOut_0 l g z I11 x15_3 p0 hO) (cwV 2 hts gX3_fewestCats_X3_keepsDogsOut rfl rfl rfl (by decide +kernel) ⟨Nat.le_of_ble_eq_true rfl, Nat.le_of_ble_eq_true rfl⟩) (dk_at325 hW) rfl hK hT hW hS rfl hl.1 rfl (Nat.le_of_ble_eq_true rfl) dX3_fewestCats_48 ⟨Nat.zero_le _, Nat.zero_le _⟩ (fun v15 I15 H15 L15 hp15 hW hS => ?_)
                obtain ⟨hF15, hO, hc15⟩ := hp15
                have hF := dkF_call hF hF15 rfl
                obtain ⟨dv15, -⟩ := hc15
                refine lv_if_eq (tgt := 56) hx hb dX3_fewestCats_51 (by decide) (fun c16 => ?_) (fun c16 => ?_)
                ·
                  have d17 : dkN [(0, 0)] v15 := dkN_eq1 dv15 (dkN_lit (x := 0) (0) rfl) (congrArg Int32.toInt c16) rfl
                  exact C56 I15 _ _ ls  hW hS hF hO (dkN_sub r15_0 rfl) (dkN_sub d7 rfl) (show dkN [(1, 9)] (I15 25 0) from dkN_sub (by rw [hF15 25 0 rfl]; exact (by rw [hF11 25 0 rfl]; exact (by rw [hF8 25 0 rfl]; exact (by rw [hF3 25 0 rfl]; exact f15_0)))) rfl) (lv_sub hl [0, 1, 2, 3] rfl)
                ·
                  have d18 : dkN [(1, 1)] v15 := dkN_ne1 (0) dv15 (dkN_lit (x := 0) (0) rfl) (dk_ne c16) rfl
                  refine lv_iload_n hx hb dX3_fewestCats_54 rfl (lv_at hl 3 rfl) ?_
                  exact W.iret (v := x15_3) hx hb hr (fun t ht hW9 => ⟨⟨x15_3, I15, rfl, ⟨hF, hO, Or.inr (⟨dkN_sub d7 rfl, (show dkN [(1, 9)] (I15 25 0) from dkN_sub (by rw [hF15 25 0 rfl]; exact (by rw [hF11 25 0 rfl]; exact (by rw [hF8 25 0 rfl]; exact (by rw [hF3 25 0 rfl]; exact f15_0)))) rfl), trivial⟩)⟩, dkW_eq ht hW⟩, hS.F ht⟩) hS.2.2 dX3_fewestCats_55
      refine lv_iload_n hx hb dX3_fewestCats_2 rfl (lv_at hl 2 rfl) ?_
      refine lv_aload_n hx hb dX3_fewestCats_3 rfl (lv_at hl 0 rfl) ?_
      refine dk_get (k := 325) hx hb hts iX3_fewestCats_3 hown hK (dk_at325 hW) rfl 0 (by decide) (hts (.fieldLink RX3 22 "DogKings$Seer" "now" "LDogKings$Town;") (List.mem_of_getElem? (i := 1) rfl)) rfl dX3_fewestCats_4 ?_
      refine dk_get (k := 25) hx hb hts iX3_fewestCats_4 hown hK (dk_at25 hW) rfl 0 (by decide) (hts (.fieldLink RX3 61 "DogKings$Town" "places" "I") (List.mem_of_getElem? (i := 2) rfl)) rfl dX3_fewestCats_7 ?_
      refine lv_topi (fun v19 ev19 => ?_)
      have dv19 : dkN [(0, 9)] v19 := by rw [ev19]; exact (hO 25 0)
      refine lv_icmp_ge (tgt := 68) hx hb dX3_fewestCats_10 (by decide) (fun c20 => ?_) (fun c20 => ?_)
      ·
        refine lv_ldc (v := (-1000000)) hx hb hown (hts (.constant RX3 43 (-1000000)) (List.mem_of_getElem? (i := 3) rfl)) dX3_fewestCats_68 ?_
        exact W.iret (v := (-1000000)) hx hb hr (fun t ht hW9 => ⟨⟨(-1000000), I2_, rfl, ⟨hF, hO, Or.inl ⟨dkN_sub (dkN_lit (x := (-1000000)) (-1000000) rfl) rfl, trivial⟩⟩, dkW_eq ht hW⟩, hS.F ht⟩) hS.2.2 dX3_fewestCats_70
      ·
        have d21 : dkN [(1, 9)] v19 := dkN_le2 1 k2_0 dv19 (dkc_nle c20) rfl
        have f22 : dkN [(1, 9)] (I2_ 25 0) := by rw [← ev19]; exact d21
        have d23 : dkN [(0, 8)] x2_2 := dkN_le1 1 k2_0 dv19 (dkc_nle c20) rfl
        refine lv_iconst (v := 0) hx hb dX3_fewestCats_13 (by decide) ?_
        refine lv_istore_n (lv' := [(3, .int 0), (0, .ref (z + 325)), (1, .int p0), (2, .int x2_2)]) hx hb dX3_fewestCats_14 rfl hl (by decide) rfl (fun ls hl => ?_)
        exact C15 _ I2_ _ _ ls 0 (Nat.lt_succ_self _) hW hS hF hO (dkN_sub (dkN_lit (x := 0) (0) rfl) rfl) (dkN_sub d23 rfl) (show dkN [(1, 9)] (I2_ 25 0) from dkN_sub f22 rfl) (lv_sub hl [1, 2, 3, 0] rfl)
  refine lv_iconst (v := 0) hx hb dX3_fewestCats_0 (by decide) ?_
  refine lv_istore_n (lv' := [(2, .int 0), (0, .ref (z + 325)), (1, .int p0)]) hx hb dX3_fewestCats_1 rfl hl (by decide) rfl (fun ls hl => ?_)
  exact C2 _ I0 _ _ ls 0 (Nat.lt_succ_self _) hW hS hF hO (dkN_sub (dkN_lit (x := 0) (0) rfl) rfl) (lv_sub hl [1, 2, 0] rfl)
set_option maxHeartbeats 4000000 in
set_option maxRecDepth 100000 in
theorem c_X5_cats_0 (l : Launch) (g : dkG) (z : Nat) (I0 : dkI) (p0 : Int32) (p1 : Int32)  (hO : dkOk I0) : Met l yX5_cats wsX5_cats (dkR 7) (dkPc g z [.ref (z + 0), .int p0, .int p1] I0) (dkQi g z (fun r I1 => dkF [(326, 326, 0, 4), (326, 326, 11, 11), (326, 326, 15, 17), (327, 327, 0, 4), (328, 328, 0, 4), (329, 329, 0, 4), (330, 330, 0, 4), (331, 331, 0, 4), (332, 332, 0, 4), (333, 333, 0, 5), (334, 334, 0, 5), (335, 335, 0, 5), (336, 336, 0, 8)] I0 I1 ∧ dkOk I1 ∧ ((dkN [(-1000001, -1000001)] r ∧ True) ∨ (dkN [(-1000000, -1000000)] r ∧ dkN [(0, 8)] p0 ∧ dkN [(0, 1)] p1 ∧ dkN [(1, 9)] (I1 25 0) ∧ True) ∨ (dkN [(0, 511)] r ∧ dkN [(0, 8)] p0 ∧ dkN [(0, 1)] p1 ∧ dkN [(1, 9)] (I1 25 0) ∧ True)))) 0 0 (dkA z) := by
  refine Met.ofW (cc := cX5_cats) (maxL := 4) (ret := (some .int)) (by decide) rfl ?_
  intro p e s m args below meth c s₁ B hml hv
  obtain ⟨ha, hW, hK, hT⟩ := hv
  have hx := B.exec
  have hb := B.bytes
  have hr := B.returns
  have hts := atoms_spec (ws := wsX5_cats) B.pre
  have hown : s.vm.findClass RX5 = some m.cls := findClass_of_methodNamed B.named
  have hlocks := B.notSynchronized
  have hS : va_S (dkA z) s.heap s.heap [] := va_S.rf
  have hF : dkF [(326, 326, 0, 4), (326, 326, 11, 11), (326, 326, 15, 17), (327, 327, 0, 4), (328, 328, 0, 4), (329, 329, 0, 4), (330, 330, 0, 4), (331, 331, 0, 4), (332, 332, 0, 4), (333, 333, 0, 5), (334, 334, 0, 5), (335, 335, 0, 5), (336, 336, 0, 8)] I0 I0 := dkF_rf _ _
  have hl := lv_entry ([.ref (z + 0), .int p0, .int p1]) (n := 4) (Nat.le_of_ble_eq_true rfl)
  have hgo : entryFrame m args 4 = entryFrame m ([.ref (z + 0), .int p0, .int p1] : List Value).toArray 4 := by rw [ha]
  rw [hgo, lg_entry_eq]
  generalize (lg_sl ([.ref (z + 0), .int p0, .int p1]) ++ List.replicate (4 - (lg_sl ([.ref (z + 0), .int p0, .int p1])).length) Slot.unset).toArray = ls at hl ⊢
  have hl : lv_has ls 4 [(0, .ref (z + 0)), (1, .int p0), (2, .int p1)] := hl
  refine lv_aload_n hx hb dX5_cats_0 rfl (lv_at hl 0 rfl) ?_
  refine lv_iload_n hx hb dX5_cats_1 rfl (lv_at hl 1 rfl) ?_
  refine dk_Vi (As := [.int p0]) (rest := []) ⟨hx, hb, hml, hown, hts⟩ (c_X5_isPlace_0 l g z I0 p0 hO) (cwV 1 hts gX5_cats_X5_isPlace rfl rfl rfl (by decide +kernel) ⟨Nat.le_of_ble_eq_true rfl, Nat.le_of_ble_eq_true rfl⟩) (dk_at0 hW) rfl hK hT hW hS rfl hl.1 rfl (Nat.le_of_ble_eq_true rfl) dX5_cats_2 ⟨Nat.zero_le _, Nat.zero_le _⟩ (fun v1 I1 H1 L1 hp1 hW hS => ?_)
  obtain ⟨hF1, hO, hc1⟩ := hp1
  have hF := dkF_call hF hF1 rfl
  rcases hc1 with ⟨dv1, -⟩ | hc1
  ·
    refine lv_if_eq (tgt := 16) hx hb dX5_cats_5 (by decide) (fun c2 => ?_) (fun c2 => ?_)
    ·
      refine lv_ldc (v := (-1000001)) hx hb hown (hts (.constant RX5 70 (-1000001)) (List.mem_of_getElem? (i := 1) rfl)) dX5_cats_16 ?_
      exact W.iret (v := (-1000001)) hx hb hr (fun t ht hW9 => ⟨⟨(-1000001), I1, rfl, ⟨hF, hO, Or.inl ⟨dkN_sub (dkN_lit (x := (-1000001)) (-1000001) rfl) rfl, trivial⟩⟩, dkW_eq ht hW⟩, hS.F ht⟩) hS.2.2 dX5_cats_18
    ·
      exact (dkN_nil (show dkN [] v1 from dkN_ne1 (0) dv1 (dkN_lit (x := 0) (0) rfl) (dk_ne c2) rfl)).elim
  ·
    obtain ⟨dv1, a1_0, f1_25_0, -⟩ := hc1
    have d3 : dkN [(0, 8)] p0 := dkN_eq1 (dkN_top p0) a1_0 rfl rfl
    refine lv_if_eq (tgt := 16) hx hb dX5_cats_5 (by decide) (fun c4 => ?_) (fun c4 => ?_)
    ·
      exact (dkN_nil (show dkN [] v1 from dkN_eq1 dv1 (dkN_lit (x := 0) (0) rfl) (congrArg Int32.toInt c4) rfl)).elim
    ·
      refine lv_iload_n hx hb dX5_cats_8 rfl (lv_at hl 2 rfl) ?_
      refine lv_iconst (v := 1) hx hb dX5_cats_9 (by decide) ?_
      refine dk_Si (As := [.int p1, .int 1]) (rest := []) ⟨hx, hb, hml, hown, hts⟩ (c_X5_isUpTo_5 l g z I1 p1 1 (dkN_lit (x := 1) (1) rfl) hO) (va_cwS 2 hts gX5_cats_X5_isUpTo rfl rfl rfl (by decide +kernel) ⟨Nat.le_of_ble_eq_true rfl, Nat.le_of_ble_eq_true rfl⟩) hK hT hW hS rfl hl.1 rfl (Nat.le_of_ble_eq_true rfl) dX5_cats_10 ⟨Nat.zero_le _, Nat.zero_le _⟩ (fun v5 I5 H5 L5 hp5 hW hS => ?_)
      obtain ⟨hF5, hO, hc5⟩ := hp5
      have hF := dkF_call hF hF5 rfl
      rcases hc5 with ⟨dv5, a5_0, -⟩ | hc5
      ·
        have d6 : dkN [(-2147483648, -1), (2, 2147483647)] p1 := dkN_eq1 (dkN_top p1) a5_0 rfl rfl
        refine lv_if_ne (tgt := 19) hx hb dX5_cats_13 (by decide) (fun c7 => ?_) (fun c7 => ?_)
        ·
          exact (dkN_nil (show dkN [] v5 from dkN_ne1 (0) dv5 (dkN_lit (x := 0) (0) rfl) (dk_ne c7) rfl)).elim
        ·
          refine lv_ldc (v := (-1000001)) hx hb hown (hts (.constant RX5 70 (-1000001)) (List.mem_of_getElem? (i := 1) rfl)) dX5_cats_16 ?_
          exact W.iret (v := (-1000001)) hx hb hr (fun t ht hW9 => ⟨⟨(-1000001), I5, rfl, ⟨hF, hO, Or.inl ⟨dkN_sub (dkN_lit (x := (-1000001)) (-1000001) rfl) rfl, trivial⟩⟩, dkW_eq ht hW⟩, hS.F ht⟩) hS.2.2 dX5_cats_18
      ·
        obtain ⟨dv5, a5_0, -⟩ := hc5
        have d8 : dkN [(0, 1)] p1 := dkN_eq1 (dkN_top p1) a5_0 rfl rfl
        refine lv_if_ne (tgt := 19) hx hb dX5_cats_13 (by decide) (fun c9 => ?_) (fun c9 => ?_)
        ·
          refine lv_aload_n hx hb dX5_cats_19 rfl (lv_at hl 0 rfl) ?_
          refine dk_get (k := 0) hx hb hts iX5_cats_5 hown hK (dk_at0 hW) rfl 8 (by decide) (hts (.fieldLink RX5 51 "DogKings" "seer" "LDogKings$Seer;") (List.mem_of_getElem? (i := 2) rfl)) rfl dX5_cats_20 ?_
          refine lv_iload_n hx hb dX5_cats_23 rfl (lv_at hl 1 rfl) ?_
          refine dk_Vi (As := [.int p0]) (rest := []) ⟨hx, hb, hml, hown, hts⟩ (c_X3_fewestCats_0 l g z I5 p0 d3 hO) (cwV 1 hts gX5_cats_X3_fewestCats rfl rfl rfl (by decide +kernel) ⟨Nat.le_of_ble_eq_true rfl, Nat.le_of_ble_eq_true rfl⟩) (dk_at325 hW) rfl hK hT hW hS rfl hl.1 rfl (Nat.le_of_ble_eq_true rfl) dX5_cats_24 ⟨Nat.zero_le _, Nat.zero_le _⟩ (fun v10 I10 H10 L10 hp10 hW hS => ?_)
          obtain ⟨hF10, hO, hc10⟩ := hp10
          have hF := dkF_call hF hF10 rfl
          rcases hc10 with ⟨dv10, -⟩ | hc10
          ·
            refine lv_istore_n (lv' := [(3, .int v10), (0, .ref (z + 0)), (1, .int p0), (2, .int p1)]) hx hb dX5_cats_27 rfl hl (by decide) rfl (fun ls hl => ?_)
            refine lv_iload_n hx hb dX5_cats_28 rfl (lv_at hl 3 rfl) ?_
            refine lv_if_ne (tgt := 45) hx hb dX5_cats_29 (by decide) (fun c11 => ?_) (fun c11 => ?_)
            ·
              have d12 : dkN [(1, 1)] p1 := dkN_ne1 (0) d8 (dkN_lit (x := 0) (0) rfl) (dk_ne c11) rfl
              refine lv_iload_n hx hb dX5_cats_45 rfl (lv_at hl 0 rfl) ?_
              exact W.iret (v := v10) hx hb hr (fun t ht hW9 => ⟨⟨v10, I10, rfl, ⟨hF, hO, Or.inr (Or.inl ⟨dkN_sub dv10 rfl, dkN_sub d3 rfl, dkN_sub d12 rfl, (show dkN [(1, 9)] (I10 25 0) from dkN_sub (by rw [hF10 25 0 rfl]; exact (by rw [hF5 25 0 rfl]; exact f1_25_0)) rfl), trivial⟩)⟩, dkW_eq ht hW⟩, hS.F ht⟩) hS.2.2 dX5_cats_46
            ·
              have d13 : dkN [(0, 0)] p1 := dkN_eq1 d8 (dkN_lit (x := 0) (0) rfl) (congrArg Int32.toInt c11) rfl
              refine lv_iload_n hx hb dX5_cats_32 rfl (lv_at hl 0 rfl) ?_
              refine lv_ldc (v := (-1000000)) hx hb hown (hts (.constant RX5 210 (-1000000)) (List.mem_of_getElem? (i := 3) rfl)) dX5_cats_33 ?_
              refine lv_icmp_eq (tgt := 45) hx hb dX5_cats_35 (by decide) (fun c14 => ?_) (fun c14 => ?_)
              ·
                refine lv_iload_n hx hb dX5_cats_45 rfl (lv_at hl 0 rfl) ?_
                exact W.iret (v := v10) hx hb hr (fun t ht hW9 => ⟨⟨v10, I10, rfl, ⟨hF, hO, Or.inr (Or.inl ⟨dkN_sub dv10 rfl, dkN_sub d3 rfl, dkN_sub d13 rfl, (show dkN [(1, 9)] (I10 25 0) from dkN_sub (by rw [hF10 25 0 rfl]; exact (by rw [hF5 25 0 rfl]; exact f1_25_0)) rfl), trivial⟩)⟩, dkW_eq ht hW⟩, hS.F ht⟩) hS.2.2 dX5_cats_46
              ·
                exact (dkN_nil (show dkN [] v10 from dkN_ne1 (-1000000) dv10 (dkN_lit (x := (-1000000)) (-1000000) rfl) (dk_ne c14) rfl)).elim
          ·
            obtain ⟨dv10, f10_25_0, -⟩ := hc10
            refine lv_istore_n (lv' := [(3, .int v10), (0, .ref (z + 0)), (1, .int p0), (2, .int p1)]) hx hb dX5_cats_27 rfl hl (by decide) rfl (fun ls hl => ?_)
            refine lv_iload_n hx hb dX5_cats_28 rfl (lv_at hl 3 rfl) ?_
            refine lv_if_ne (tgt := 45) hx hb dX5_cats_29 (by decide) (fun c15 => ?_) (fun c15 => ?_)
            ·
              have d16 : dkN [(1, 1)] p1 := dkN_ne1 (0) d8 (dkN_lit (x := 0) (0) rfl) (dk_ne c15) rfl
              refine lv_iload_n hx hb dX5_cats_45 rfl (lv_at hl 0 rfl) ?_
              exact W.iret (v := v10) hx hb hr (fun t ht hW9 => ⟨⟨v10, I10, rfl, ⟨hF, hO, Or.inr (Or.inr (⟨dkN_sub dv10 rfl, dkN_sub d3 rfl, dkN_sub d16 rfl, (show dkN [(1, 9)] (I10 25 0) from dkN_sub f10_25_0 rfl), trivial⟩))⟩, dkW_eq ht hW⟩, hS.F ht⟩) hS.2.2 dX5_cats_46
            ·
              have d17 : dkN [(0, 0)] p1 := dkN_eq1 d8 (dkN_lit (x := 0) (0) rfl) (congrArg Int32.toInt c15) rfl
              refine lv_iload_n hx hb dX5_cats_32 rfl (lv_at hl 0 rfl) ?_
              refine lv_ldc (v := (-1000000)) hx hb hown (hts (.constant RX5 210 (-1000000)) (List.mem_of_getElem? (i := 3) rfl)) dX5_cats_33 ?_
              refine lv_icmp_eq (tgt := 45) hx hb dX5_cats_35 (by decide) (fun c18 => ?_) (fun c18 => ?_)
              ·
                exact (dkN_nil (show dkN [] v10 from dkN_eq1 dv10 (dkN_lit (x := (-1000000)) (-1000000) rfl) (congrArg Int32.toInt c18) rfl)).elim
              ·
                refine lv_iload_n hx hb dX5_cats_38 rfl (lv_at hl 0 rfl) ?_
                refine dk_Si (As := [.int v10]) (rest := []) ⟨hx, hb, hml, hown, hts⟩ (c_J6_bitCount_0f7a4_0 l g z I10 v10 hO) (va_cwS 1 hts gX5_cats_J6_bitCount_0f7a4 rfl rfl rfl (by decide +kernel) ⟨Nat.le_of_ble_eq_true rfl, Nat.le_of_ble_eq_true rfl⟩) hK hT hW hS rfl hl.1 rfl (Nat.le_of_ble_eq_true rfl) dX5_cats_39 ⟨Nat.zero_le _, Nat.zero_le _⟩ (fun v19 I19 H19 L19 hp19 hW hS => ?_)
                obtain ⟨hF19, hO, hc19⟩ := hp19
                have hF := dkF_call hF hF19 rfl
                obtain ⟨dv19, -⟩ := hc19
                refine lv_goto (tgt := 46) hx hb dX5_cats_42 (by decide) ?_
                exact W.iret (v := v19) hx hb hr (fun t ht hW9 => ⟨⟨v19, I19, rfl, ⟨hF, hO, Or.inr (Or.inr (⟨dkN_sub dv19 rfl, dkN_sub d3 rfl, dkN_sub d17 rfl, (show dkN [(1, 9)] (I19 25 0) from dkN_sub (by rw [hF19 25 0 rfl]; exact f10_25_0) rfl), trivial⟩))⟩, dkW_eq ht hW⟩, hS.F ht⟩) hS.2.2 dX5_cats_46
        ·
          exact (dkN_nil (show dkN [] v5 from dkN_eq1 dv5 (dkN_lit (x := 0) (0) rfl) (congrArg Int32.toInt c9) rfl)).elim
set_option maxHeartbeats 4000000 in
set_option maxRecDepth 100000 in
theorem c_X6_in_16 (l : Launch) (g : dkG) (z : Nat) (I0 : dkI) (p0 : Int32) (p1 : Int32) (p2 : Int32) (dp1 : dkN [(0, 0)] p1) (dp2 : dkN [(1, 1)] p2)  (hO : dkOk I0) : Met l yX6_in wsX6_in (dkR 0) (dkPc g z [.int p0, .int p1, .int p2] I0) (dkQi g z (fun r I1 => dkF [] I0 I1 ∧ dkOk I1 ∧ ((dkN [(0, 0)] r ∧ dkN [(-2147483648, -1), (2, 2147483647)] p0 ∧ True) ∨ (dkN [(1, 1)] r ∧ dkN [(0, 1)] p0 ∧ True)))) 0 0 (dkA z) := by
  refine Met.ofW (cc := cX6_in) (maxL := 3) (ret := (some .boolean)) (by decide) rfl ?_
  intro p e s m args below meth c s₁ B hml hv
  obtain ⟨ha, hW, hK, hT⟩ := hv
  have hx := B.exec
  have hb := B.bytes
  have hr := B.returns
  have hts := atoms_spec (ws := wsX6_in) B.pre
  have hown : s.vm.findClass RX6 = some m.cls := findClass_of_methodNamed B.named
  have hlocks := B.notSynchronized
  have hS : va_S (dkA z) s.heap s.heap [] := va_S.rf
  have hF : dkF [] I0 I0 := dkF_rf _ _
  have hl := lv_entry ([.int p0, .int p1, .int p2]) (n := 3) (Nat.le_of_ble_eq_true rfl)
  have hgo : entryFrame m args 3 = entryFrame m ([.int p0, .int p1, .int p2] : List Value).toArray 3 := by rw [ha]
  rw [hgo, lg_entry_eq]
  generalize (lg_sl ([.int p0, .int p1, .int p2]) ++ List.replicate (3 - (lg_sl ([.int p0, .int p1, .int p2])).length) Slot.unset).toArray = ls at hl ⊢
  have hl : lv_has ls 3 [(0, .int p0), (1, .int p1), (2, .int p2)] := hl
  refine lv_iload_n hx hb dX6_in_0 rfl (lv_at hl 0 rfl) ?_
  refine lv_iload_n hx hb dX6_in_1 rfl (lv_at hl 1 rfl) ?_
  refine lv_icmp_lt (tgt := 14) hx hb dX6_in_2 (by decide) (fun c1 => ?_) (fun c1 => ?_)
  ·
    have d2 : dkN [(-2147483648, -1)] p0 := dkN_le1 1 (dkN_top p0) dp1 (dkc_lt c1) rfl
    refine lv_iconst (v := 0) hx hb dX6_in_14 (by decide) ?_
    exact W.zret (v := 0) (ty := .boolean) hx hb hr rfl (fun t ht hW9 => ⟨⟨0, I0, rfl, ⟨hF, hO, Or.inl ⟨dkN_sub (dkN_lit (x := 0) (0) rfl) rfl, dkN_sub d2 rfl, trivial⟩⟩, dkW_eq ht hW⟩, hS.F ht⟩) hS.2.2 dX6_in_15
  ·
    have d3 : dkN [(0, 2147483647)] p0 := dkN_le2 0 dp1 (dkN_top p0) (dkc_nlt c1) rfl
    refine lv_iload_n hx hb dX6_in_5 rfl (lv_at hl 0 rfl) ?_
    refine lv_iload_n hx hb dX6_in_6 rfl (lv_at hl 2 rfl) ?_
    refine lv_icmp_gt (tgt := 14) hx hb dX6_in_7 (by decide) (fun c4 => ?_) (fun c4 => ?_)
    ·
      have d5 : dkN [(2, 2147483647)] p0 := dkN_le2 1 dp2 d3 (dkc_lt c4) rfl
      refine lv_iconst (v := 0) hx hb dX6_in_14 (by decide) ?_
      exact W.zret (v := 0) (ty := .boolean) hx hb hr rfl (fun t ht hW9 => ⟨⟨0, I0, rfl, ⟨hF, hO, Or.inl ⟨dkN_sub (dkN_lit (x := 0) (0) rfl) rfl, dkN_sub d5 rfl, trivial⟩⟩, dkW_eq ht hW⟩, hS.F ht⟩) hS.2.2 dX6_in_15
    ·
      have d6 : dkN [(0, 1)] p0 := dkN_le1 0 d3 dp2 (dkc_nlt c4) rfl
      refine lv_iconst (v := 1) hx hb dX6_in_10 (by decide) ?_
      refine lv_goto (tgt := 15) hx hb dX6_in_11 (by decide) ?_
      exact W.zret (v := 1) (ty := .boolean) hx hb hr rfl (fun t ht hW9 => ⟨⟨1, I0, rfl, ⟨hF, hO, Or.inr (⟨dkN_sub (dkN_lit (x := 1) (1) rfl) rfl, dkN_sub d6 rfl, trivial⟩)⟩, dkW_eq ht hW⟩, hS.F ht⟩) hS.2.2 dX6_in_15
set_option maxHeartbeats 4000000 in
set_option maxRecDepth 100000 in
theorem c_X6_ones_19 (l : Launch) (g : dkG) (z : Nat) (I0 : dkI) (p0 : Int32) (dp0 : dkN [(0, 511)] p0)  (hO : dkOk I0) : Met l yX6_ones wsX6_ones (dkR 0) (dkPc g z [.int p0] I0) (dkQi g z (fun r I1 => dkF [] I0 I1 ∧ dkOk I1 ∧ ((True ∧ True)))) 0 0 (dkA z) := by
  refine Met.ofW (cc := cX6_ones) (maxL := 3) (ret := (some .int)) (by decide) rfl ?_
  intro p e s m args below meth c s₁ B hml hv
  obtain ⟨ha, hW, hK, hT⟩ := hv
  have hx := B.exec
  have hb := B.bytes
  have hr := B.returns
  have hts := atoms_spec (ws := wsX6_ones) B.pre
  have hown : s.vm.findClass RX6 = some m.cls := findClass_of_methodNamed B.named
  have hlocks := B.notSynchronized
  have hS : va_S (dkA z) s.heap s.heap [] := va_S.rf
  have hF : dkF [] I0 I0 := dkF_rf _ _
  have hl := lv_entry ([.int p0]) (n := 3) (Nat.le_of_ble_eq_true rfl)
  have hgo : entryFrame m args 3 = entryFrame m ([.int p0] : List Value).toArray 3 := by rw [ha]
  rw [hgo, lg_entry_eq]
  generalize (lg_sl ([.int p0]) ++ List.replicate (3 - (lg_sl ([.int p0])).length) Slot.unset).toArray = ls at hl ⊢
  have hl : lv_has ls 3 [(0, .int p0)] := hl
  have C4 : ∀ (n : Nat), ∀ (I : dkI) (H : Heap) (locs : List Loc) (ls : Array Slot) (x4_1 : Int32) (x4_2 : Int32), (9 - x4_2.toInt).toNat < n → dkW g z I H → va_S (dkA z) s.heap H locs → dkF [] I0 I → dkOk I → dkN [(0, 9)] x4_2 → lv_has ls 3 [(0, .int p0), (1, .int x4_1), (2, .int x4_2)] → W p l e (headSpec wsX6_ones (dkR 0)).room s m args below meth c H locs 0 0 (MQ below (dkQi g z (fun r I1 => dkF [] I0 I1 ∧ dkOk I1 ∧ ((True ∧ True)))) args s 0 0 (dkA z)) (F0 m 4 ls []) := by
    intro n
    induction n with
    | zero => intro I H locs ls x4_1 x4_2 hn; exact absurd hn (Nat.not_lt_zero _)
    | succ n ih4 =>
      intro I4_ H locs ls x4_1 x4_2 hn4 hW hS hF_4 hO k4_1 hl
      have hF := hF_4
      refine lv_iload_n hx hb dX6_ones_4 rfl (lv_at hl 2 rfl) ?_
      refine lv_bipush (v := 9) hx hb dX6_ones_5 (by decide) ?_
      refine lv_icmp_ge (tgt := 24) hx hb dX6_ones_7 (by decide) (fun c1 => ?_) (fun c1 => ?_)
      ·
        have d2 : dkN [(9, 9)] x4_2 := dkN_le2 0 (dkN_lit (x := 9) (9) rfl) k4_1 (dkc_le c1) rfl
        refine lv_iload_n hx hb dX6_ones_24 rfl (lv_at hl 1 rfl) ?_
        exact W.iret (v := x4_1) hx hb hr (fun t ht hW9 => ⟨⟨x4_1, I4_, rfl, ⟨hF, hO, ⟨trivial, trivial⟩⟩, dkW_eq ht hW⟩, hS.F ht⟩) hS.2.2 dX6_ones_25
      ·
        have d3 : dkN [(0, 8)] x4_2 := dkN_le1 1 k4_1 (dkN_lit (x := 9) (9) rfl) (dkc_nle c1) rfl
        refine lv_iload_n hx hb dX6_ones_10 rfl (lv_at hl 1 rfl) ?_
        refine lv_iload_n hx hb dX6_ones_11 rfl (lv_at hl 0 rfl) ?_
        refine lv_iload_n hx hb dX6_ones_12 rfl (lv_at hl 2 rfl) ?_
        refine lv_ishr hx hb dX6_ones_13 ?_
        refine lv_topi (fun v4 ev4 => ?_)
        refine lv_iconst (v := 1) hx hb dX6_ones_14 (by decide) ?_
        refine lv_iand hx hb dX6_ones_15 ?_
        refine lv_topi (fun v5 ev5 => ?_)
        have dv5 : dkN [(0, 1)] v5 := by rw [ev5]; exact dkN_and (dkN_lit (x := 1) (1) rfl) rfl
        refine lv_iadd hx hb dX6_ones_16 ?_
        refine lv_topi (fun v6 ev6 => ?_)
        refine lv_istore_n (lv' := [(1, .int v6), (0, .int p0), (2, .int x4_2)]) hx hb dX6_ones_17 rfl hl (by decide) rfl (fun ls hl => ?_)
        obtain ⟨v7, ev7⟩ : ∃ y : Int32, y = x4_2 + 1 := ⟨_, rfl⟩
        have dv7 : dkN [(1, 9)] v7 := by rw [ev7]; exact dkN_add d3 (dkN_lit (x := 1) (1) rfl) rfl
        refine lv_iinc (v := v7) (lv' := [(2, .int v7), (1, .int v6), (0, .int p0)]) hx hb dX6_ones_18 hl (k := 2) rfl (by rw [ev7]; rfl) (by decide) rfl (fun ls hl => ?_)
        refine lv_goto (tgt := 4) hx hb dX6_ones_21 (by decide) ?_
        exact ih4 I4_ _ _ ls v6 v7 (dk_near hn4 (by rw [ev7]; exact dk_inc d3 rfl) (dkN_lt d3 rfl)) hW hS hF hO (dkN_sub dv7 rfl) (lv_sub hl [2, 1, 0] rfl)
  refine lv_iconst (v := 0) hx hb dX6_ones_0 (by decide) ?_
  refine lv_istore_n (lv' := [(1, .int 0), (0, .int p0)]) hx hb dX6_ones_1 rfl hl (by decide) rfl (fun ls hl => ?_)
  refine lv_iconst (v := 0) hx hb dX6_ones_2 (by decide) ?_
  refine lv_istore_n (lv' := [(2, .int 0), (1, .int 0), (0, .int p0)]) hx hb dX6_ones_3 rfl hl (by decide) rfl (fun ls hl => ?_)
  exact C4 _ I0 _ _ ls 0 0 (Nat.lt_succ_self _) hW hS hF hO (dkN_sub (dkN_lit (x := 0) (0) rfl) rfl) (lv_sub hl [2, 1, 0] rfl)
set_option maxHeartbeats 4000000 in
set_option maxRecDepth 100000 in
theorem c_X6_ones_20 (l : Launch) (g : dkG) (z : Nat) (I0 : dkI) (p0 : Int32) (dp0 : dkN [(0, 2147483647)] p0)  (hO : dkOk I0) : Met l yX6_ones wsX6_ones (dkR 0) (dkPc g z [.int p0] I0) (dkQi g z (fun r I1 => dkF [] I0 I1 ∧ dkOk I1 ∧ ((True ∧ True)))) 0 0 (dkA z) := by
  refine Met.ofW (cc := cX6_ones) (maxL := 3) (ret := (some .int)) (by decide) rfl ?_
  intro p e s m args below meth c s₁ B hml hv
  obtain ⟨ha, hW, hK, hT⟩ := hv
  have hx := B.exec
  have hb := B.bytes
  have hr := B.returns
  have hts := atoms_spec (ws := wsX6_ones) B.pre
  have hown : s.vm.findClass RX6 = some m.cls := findClass_of_methodNamed B.named
  have hlocks := B.notSynchronized
  have hS : va_S (dkA z) s.heap s.heap [] := va_S.rf
  have hF : dkF [] I0 I0 := dkF_rf _ _
  have hl := lv_entry ([.int p0]) (n := 3) (Nat.le_of_ble_eq_true rfl)
  have hgo : entryFrame m args 3 = entryFrame m ([.int p0] : List Value).toArray 3 := by rw [ha]
  rw [hgo, lg_entry_eq]
  generalize (lg_sl ([.int p0]) ++ List.replicate (3 - (lg_sl ([.int p0])).length) Slot.unset).toArray = ls at hl ⊢
  have hl : lv_has ls 3 [(0, .int p0)] := hl
  have C4 : ∀ (n : Nat), ∀ (I : dkI) (H : Heap) (locs : List Loc) (ls : Array Slot) (x4_1 : Int32) (x4_2 : Int32), (9 - x4_2.toInt).toNat < n → dkW g z I H → va_S (dkA z) s.heap H locs → dkF [] I0 I → dkOk I → dkN [(0, 9)] x4_2 → lv_has ls 3 [(0, .int p0), (1, .int x4_1), (2, .int x4_2)] → W p l e (headSpec wsX6_ones (dkR 0)).room s m args below meth c H locs 0 0 (MQ below (dkQi g z (fun r I1 => dkF [] I0 I1 ∧ dkOk I1 ∧ ((True ∧ True)))) args s 0 0 (dkA z)) (F0 m 4 ls []) := by
    intro n
    induction n with
    | zero => intro I H locs ls x4_1 x4_2 hn; exact absurd hn (Nat.not_lt_zero _)
    | succ n ih4 =>
      intro I4_ H locs ls x4_1 x4_2 hn4 hW hS hF_4 hO k4_1 hl
      have hF := hF_4
      refine lv_iload_n hx hb dX6_ones_4 rfl (lv_at hl 2 rfl) ?_
      refine lv_bipush (v := 9) hx hb dX6_ones_5 (by decide) ?_
      refine lv_icmp_ge (tgt := 24) hx hb dX6_ones_7 (by decide) (fun c1 => ?_) (fun c1 => ?_)
      ·
        have d2 : dkN [(9, 9)] x4_2 := dkN_le2 0 (dkN_lit (x := 9) (9) rfl) k4_1 (dkc_le c1) rfl
        refine lv_iload_n hx hb dX6_ones_24 rfl (lv_at hl 1 rfl) ?_
        exact W.iret (v := x4_1) hx hb hr (fun t ht hW9 => ⟨⟨x4_1, I4_, rfl, ⟨hF, hO, ⟨trivial, trivial⟩⟩, dkW_eq ht hW⟩, hS.F ht⟩) hS.2.2 dX6_ones_25
      ·
        have d3 : dkN [(0, 8)] x4_2 := dkN_le1 1 k4_1 (dkN_lit (x := 9) (9) rfl) (dkc_nle c1) rfl
        refine lv_iload_n hx hb dX6_ones_10 rfl (lv_at hl 1 rfl) ?_
        refine lv_iload_n hx hb dX6_ones_11 rfl (lv_at hl 0 rfl) ?_
        refine lv_iload_n hx hb dX6_ones_12 rfl (lv_at hl 2 rfl) ?_
        refine lv_ishr hx hb dX6_ones_13 ?_
        refine lv_topi (fun v4 ev4 => ?_)
        refine lv_iconst (v := 1) hx hb dX6_ones_14 (by decide) ?_
        refine lv_iand hx hb dX6_ones_15 ?_
        refine lv_topi (fun v5 ev5 => ?_)
        have dv5 : dkN [(0, 1)] v5 := by rw [ev5]; exact dkN_and (dkN_lit (x := 1) (1) rfl) rfl
        refine lv_iadd hx hb dX6_ones_16 ?_
        refine lv_topi (fun v6 ev6 => ?_)
        refine lv_istore_n (lv' := [(1, .int v6), (0, .int p0), (2, .int x4_2)]) hx hb dX6_ones_17 rfl hl (by decide) rfl (fun ls hl => ?_)
        obtain ⟨v7, ev7⟩ : ∃ y : Int32, y = x4_2 + 1 := ⟨_, rfl⟩
        have dv7 : dkN [(1, 9)] v7 := by rw [ev7]; exact dkN_add d3 (dkN_lit (x := 1) (1) rfl) rfl
        refine lv_iinc (v := v7) (lv' := [(2, .int v7), (1, .int v6), (0, .int p0)]) hx hb dX6_ones_18 hl (k := 2) rfl (by rw [ev7]; rfl) (by decide) rfl (fun ls hl => ?_)
        refine lv_goto (tgt := 4) hx hb dX6_ones_21 (by decide) ?_
        exact ih4 I4_ _ _ ls v6 v7 (dk_near hn4 (by rw [ev7]; exact dk_inc d3 rfl) (dkN_lt d3 rfl)) hW hS hF hO (dkN_sub dv7 rfl) (lv_sub hl [2, 1, 0] rfl)
  refine lv_iconst (v := 0) hx hb dX6_ones_0 (by decide) ?_
  refine lv_istore_n (lv' := [(1, .int 0), (0, .int p0)]) hx hb dX6_ones_1 rfl hl (by decide) rfl (fun ls hl => ?_)
  refine lv_iconst (v := 0) hx hb dX6_ones_2 (by decide) ?_
  refine lv_istore_n (lv' := [(2, .int 0), (1, .int 0), (0, .int p0)]) hx hb dX6_ones_3 rfl hl (by decide) rfl (fun ls hl => ?_)
  exact C4 _ I0 _ _ ls 0 0 (Nat.lt_succ_self _) hW hS hF hO (dkN_sub (dkN_lit (x := 0) (0) rfl) rfl) (lv_sub hl [2, 1, 0] rfl)
