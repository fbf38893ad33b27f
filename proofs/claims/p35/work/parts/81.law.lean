set_option maxHeartbeats 4000000 in
set_option maxRecDepth 100000 in
theorem k_heir {p : Program} {e : Env} {s : State} {m : MethodId} {below : List Frame} {meth : Method} {c : Code} (l : Launch) {b L z : Nat} {xs : Nat → Int32} {g : dkG} {Q : State → Prop} {H : Heap} {locs : List Loc} {ls : Array Slot} {I : dkI} {x : Int32} (hz0 : z = s.heap.size) (hx : p.tables.exec = Jvm.exec) (hb : c.code = code) (hml : c.maxLocals = 4) (hown : s.vm.findClass RL = some m.cls) (hts : ∀ w ∈ wsL_law, w.before #[Value.ref b] s = true) (hX : va_X b L xs s s.heap) (hbl : b < s.heap.size) (hL : L ≤ 448) (hx0 : 0 ≤ x.toInt) (hx1 : x.toInt + 7 ≤ (L : Int)) (hK : dkK g s) (hT : dkST z s) (hW : dkW g z I H) (hI : dkInv I) (hS : va_S (dkA z) s.heap H locs) (hl : lv_has ls 4 [(3, .int x), (2, .ref (z + 340)), (1, .ref (z + 0)), (0, .ref b)]) (hend : ∀ (I : dkI) (H : Heap) (locs : List Loc) (ls : Array Slot), dkW g z I H → dkInv I → va_S (dkA z) s.heap H locs → lv_has ls 4 [(3, .int x), (2, .ref (z + 340)), (1, .ref (z + 0)), (0, .ref b)] → W p l e room_1 s m #[Value.ref b] below meth c H locs (0 + 1 + 339 + 1 + 13) (0 + 10 + 2701 + 26 + 2055) Q (F0 m 1302 ls [])) : W p l e room_1 s m #[Value.ref b] below meth c H locs (0 + 1 + 339 + 1 + 13) (0 + 10 + 2701 + 26 + 2055) Q (F0 m 703 ls []) := by
  have hbA : ¬ dkA z b := by unfold dkA; omega
  obtain ⟨hO, hP, hR⟩ := hI
  have hO0 := hO
  have hP0 := hP
  have hin : ∀ k : Nat, k < 7 → vp_in (x + Int32.ofNat k) L := fun k hk => dk_lawIn hx0 hx1 hL hk
  obtain ⟨a1, ha1⟩ : ∃ y : Int32, xs (Int32.toNatClampNeg (x + 1)) = y := ⟨_, rfl⟩
  refine lv_aload_n hx hb dL_law_703 rfl (lv_at hl 2 rfl) ?_
  refine lv_aload_n hx hb dL_law_704 rfl (lv_at hl 3 rfl) ?_
  refine lv_iload_n hx hb dL_law_705 rfl (lv_at hl 0 rfl) ?_
  refine lv_iconst (v := 1) hx hb dL_law_706 (by decide) ?_
  refine lv_iadd hx hb dL_law_707 ?_
  refine va_sld hx hb hX hbl hbA hS (hin 1 (by decide)) dL_law_708 ?_
  rw [ha1]
  refine dk_Vi (As := [.int a1]) (rest := []) ⟨hx, hb, hml, hown, hts⟩ (c_X5_heir_0 l g z I a1 hO) (cwV 1 hts gL_law_X5_heir rfl rfl rfl (by decide +kernel) ⟨Nat.le_of_ble_eq_true rfl, Nat.le_of_ble_eq_true rfl⟩) (dk_at0 hW) rfl hK hT hW hS rfl hl.1 rfl (Nat.le_of_ble_eq_true rfl) dL_law_709 ⟨Nat.le_of_ble_eq_true rfl, Nat.le_of_ble_eq_true rfl⟩ (fun v1 I1 H L hp1 hW hS => ?_)
  obtain ⟨hF1, hO, hc1⟩ := hp1
  have hP := dkPP_F hP hF1 rfl
  refine lv_pop hx hb dL_law_712 rfl ?_
  refine lv_aload_n hx hb dL_law_713 rfl (lv_at hl 1 rfl) ?_
  refine lv_aload_n hx hb dL_law_714 rfl (lv_at hl 3 rfl) ?_
  refine lv_iload_n hx hb dL_law_715 rfl (lv_at hl 0 rfl) ?_
  refine lv_iconst (v := 1) hx hb dL_law_716 (by decide) ?_
  refine lv_iadd hx hb dL_law_717 ?_
  refine va_sld hx hb hX hbl hbA hS (hin 1 (by decide)) dL_law_718 ?_
  rw [ha1]
  refine dk_Vi (As := [.int a1]) (rest := []) ⟨hx, hb, hml, hown, hts⟩ (c_X6_heir_0 l g z I1 a1 hO) (cwV 1 hts gL_law_X6_heir rfl rfl rfl (by decide +kernel) ⟨Nat.le_of_ble_eq_true rfl, Nat.le_of_ble_eq_true rfl⟩) (dk_at340 hW) rfl hK hT hW hS rfl hl.1 rfl (Nat.le_of_ble_eq_true rfl) dL_law_719 ⟨Nat.le_of_ble_eq_true rfl, Nat.le_of_ble_eq_true rfl⟩ (fun v2 I2 H L hp2 hW hS => ?_)
  obtain ⟨hF2, hO, hc2⟩ := hp2
  have hP := dkPP_F hP hF2 rfl
  refine lv_pop hx hb dL_law_722 rfl ?_
  refine lv_goto (tgt := 1302) hx hb dL_law_723 (by decide) ?_
  exact hend I2 _ _ ls hW ⟨hO, hP, ⟨(dkQQ_F (dkQQ_F hR.1 hF1 rfl) hF2 rfl), (dkTap_k hR.2.1 ((hF2 12 1 rfl).trans (hF1 12 1 rfl)) ((hF2 340 6 rfl).trans (hF1 340 6 rfl)) ((funext fun j => hF2 13 j rfl).trans (funext fun j => hF1 13 j rfl)) ((funext fun j => hF2 345 j rfl).trans (funext fun j => hF1 345 j rfl))), (dkNo_k hR.2.2.1 hO0 ((hF2 25 0 rfl).trans (hF1 25 0 rfl)) ((hF2 25 4 rfl).trans (hF1 25 4 rfl)) ((hF2 25 11 rfl).trans (hF1 25 11 rfl)) ((funext fun j => hF2 32 j rfl).trans (funext fun j => hF1 32 j rfl)) ((hF2 346 0 rfl).trans (hF1 346 0 rfl)) ((hF2 346 4 rfl).trans (hF1 346 4 rfl)) ((hF2 346 5 rfl).trans (hF1 346 5 rfl)) (fun j hj => by rcases (by omega : j = 0 ∨ j = 1 ∨ j = 2 ∨ j = 3 ∨ j = 4 ∨ j = 5) with rfl | rfl | rfl | rfl | rfl | rfl <;> exact (hF2 346 _ rfl).trans (hF1 346 _ rfl))), (dkIm_k (k := 0) hR.2.2.2.1 ((hF2 37 0 rfl).trans (hF1 37 0 rfl)) ((hF2 37 4 rfl).trans (hF1 37 4 rfl)) ((hF2 37 11 rfl).trans (hF1 37 11 rfl)) ((funext fun j => hF2 44 j rfl).trans (funext fun j => hF1 44 j rfl)) ((funext fun j => hF2 350 j rfl).trans (funext fun j => hF1 350 j rfl)) ((funext fun j => hF2 351 j rfl).trans (funext fun j => hF1 351 j rfl))), (dkIm_k (k := 1) hR.2.2.2.2.1 ((hF2 48 0 rfl).trans (hF1 48 0 rfl)) ((hF2 48 4 rfl).trans (hF1 48 4 rfl)) ((hF2 48 11 rfl).trans (hF1 48 11 rfl)) ((funext fun j => hF2 55 j rfl).trans (funext fun j => hF1 55 j rfl)) ((funext fun j => hF2 350 j rfl).trans (funext fun j => hF1 350 j rfl)) ((funext fun j => hF2 351 j rfl).trans (funext fun j => hF1 351 j rfl))), (dkTr_k hR.2.2.2.2.2 ((hF2 338 2 rfl).trans (hF1 338 2 rfl)) ((hF2 340 25 rfl).trans (hF1 340 25 rfl)) ((funext fun j => hF2 339 j rfl).trans (funext fun j => hF1 339 j rfl)) ((funext fun j => hF2 353 j rfl).trans (funext fun j => hF1 353 j rfl)))⟩⟩ hS hl

set_option maxHeartbeats 4000000 in
set_option maxRecDepth 100000 in
theorem k_least {p : Program} {e : Env} {s : State} {m : MethodId} {below : List Frame} {meth : Method} {c : Code} (l : Launch) {b L z : Nat} {xs : Nat → Int32} {g : dkG} {Q : State → Prop} {H : Heap} {locs : List Loc} {ls : Array Slot} {I : dkI} {x : Int32} (hz0 : z = s.heap.size) (hx : p.tables.exec = Jvm.exec) (hb : c.code = code) (hml : c.maxLocals = 4) (hown : s.vm.findClass RL = some m.cls) (hts : ∀ w ∈ wsL_law, w.before #[Value.ref b] s = true) (hX : va_X b L xs s s.heap) (hbl : b < s.heap.size) (hL : L ≤ 448) (hx0 : 0 ≤ x.toInt) (hx1 : x.toInt + 7 ≤ (L : Int)) (hK : dkK g s) (hT : dkST z s) (hW : dkW g z I H) (hI : dkInv I) (hS : va_S (dkA z) s.heap H locs) (hl : lv_has ls 4 [(3, .int x), (2, .ref (z + 340)), (1, .ref (z + 0)), (0, .ref b)]) (hend : ∀ (I : dkI) (H : Heap) (locs : List Loc) (ls : Array Slot), dkW g z I H → dkInv I → va_S (dkA z) s.heap H locs → lv_has ls 4 [(3, .int x), (2, .ref (z + 340)), (1, .ref (z + 0)), (0, .ref b)] → W p l e room_1 s m #[Value.ref b] below meth c H locs (0 + 1 + 339 + 1 + 13) (0 + 10 + 2701 + 26 + 2055) Q (F0 m 1302 ls [])) : W p l e room_1 s m #[Value.ref b] below meth c H locs (0 + 1 + 339 + 1 + 13) (0 + 10 + 2701 + 26 + 2055) Q (F0 m 726 ls []) := by
  have hbA : ¬ dkA z b := by unfold dkA; omega
  obtain ⟨hO, hP, hR⟩ := hI
  have hO0 := hO
  have hP0 := hP
  have hin : ∀ k : Nat, k < 7 → vp_in (x + Int32.ofNat k) L := fun k hk => dk_lawIn hx0 hx1 hL hk
  obtain ⟨a1, ha1⟩ : ∃ y : Int32, xs (Int32.toNatClampNeg (x + 1)) = y := ⟨_, rfl⟩
  refine lv_aload_n hx hb dL_law_726 rfl (lv_at hl 2 rfl) ?_
  refine lv_aload_n hx hb dL_law_727 rfl (lv_at hl 3 rfl) ?_
  refine lv_iload_n hx hb dL_law_728 rfl (lv_at hl 0 rfl) ?_
  refine lv_iconst (v := 1) hx hb dL_law_729 (by decide) ?_
  refine lv_iadd hx hb dL_law_730 ?_
  refine va_sld hx hb hX hbl hbA hS (hin 1 (by decide)) dL_law_731 ?_
  rw [ha1]
  refine dk_Vi (As := [.int a1]) (rest := []) ⟨hx, hb, hml, hown, hts⟩ (c_X5_least_0 l g z I a1 hO) (cwV 1 hts gL_law_X5_least rfl rfl rfl (by decide +kernel) ⟨Nat.le_of_ble_eq_true rfl, Nat.le_of_ble_eq_true rfl⟩) (dk_at0 hW) rfl hK hT hW hS rfl hl.1 rfl (Nat.le_of_ble_eq_true rfl) dL_law_732 ⟨Nat.le_of_ble_eq_true rfl, Nat.le_of_ble_eq_true rfl⟩ (fun v1 I1 H L hp1 hW hS => ?_)
  obtain ⟨hF1, hO, hc1⟩ := hp1
  have hP := dkPP_F hP hF1 rfl
  refine lv_pop hx hb dL_law_735 rfl ?_
  refine lv_aload_n hx hb dL_law_736 rfl (lv_at hl 1 rfl) ?_
  refine lv_aload_n hx hb dL_law_737 rfl (lv_at hl 3 rfl) ?_
  refine lv_iload_n hx hb dL_law_738 rfl (lv_at hl 0 rfl) ?_
  refine lv_iconst (v := 1) hx hb dL_law_739 (by decide) ?_
  refine lv_iadd hx hb dL_law_740 ?_
  refine va_sld hx hb hX hbl hbA hS (hin 1 (by decide)) dL_law_741 ?_
  rw [ha1]
  refine dk_Vi (As := [.int a1]) (rest := []) ⟨hx, hb, hml, hown, hts⟩ (c_X6_least_0 l g z I1 a1 hO) (cwV 1 hts gL_law_X6_least rfl rfl rfl (by decide +kernel) ⟨Nat.le_of_ble_eq_true rfl, Nat.le_of_ble_eq_true rfl⟩) (dk_at340 hW) rfl hK hT hW hS rfl hl.1 rfl (Nat.le_of_ble_eq_true rfl) dL_law_742 ⟨Nat.le_of_ble_eq_true rfl, Nat.le_of_ble_eq_true rfl⟩ (fun v2 I2 H L hp2 hW hS => ?_)
  obtain ⟨hF2, hO, hc2⟩ := hp2
  have hP := dkPP_F hP hF2 rfl
  refine lv_pop hx hb dL_law_745 rfl ?_
  refine lv_goto (tgt := 1302) hx hb dL_law_746 (by decide) ?_
  exact hend I2 _ _ ls hW ⟨hO, hP, ⟨(dkQQ_F (dkQQ_F hR.1 hF1 rfl) hF2 rfl), (dkTap_k hR.2.1 ((hF2 12 1 rfl).trans (hF1 12 1 rfl)) ((hF2 340 6 rfl).trans (hF1 340 6 rfl)) ((funext fun j => hF2 13 j rfl).trans (funext fun j => hF1 13 j rfl)) ((funext fun j => hF2 345 j rfl).trans (funext fun j => hF1 345 j rfl))), (dkNo_k hR.2.2.1 hO0 ((hF2 25 0 rfl).trans (hF1 25 0 rfl)) ((hF2 25 4 rfl).trans (hF1 25 4 rfl)) ((hF2 25 11 rfl).trans (hF1 25 11 rfl)) ((funext fun j => hF2 32 j rfl).trans (funext fun j => hF1 32 j rfl)) ((hF2 346 0 rfl).trans (hF1 346 0 rfl)) ((hF2 346 4 rfl).trans (hF1 346 4 rfl)) ((hF2 346 5 rfl).trans (hF1 346 5 rfl)) (fun j hj => by rcases (by omega : j = 0 ∨ j = 1 ∨ j = 2 ∨ j = 3 ∨ j = 4 ∨ j = 5) with rfl | rfl | rfl | rfl | rfl | rfl <;> exact (hF2 346 _ rfl).trans (hF1 346 _ rfl))), (dkIm_k (k := 0) hR.2.2.2.1 ((hF2 37 0 rfl).trans (hF1 37 0 rfl)) ((hF2 37 4 rfl).trans (hF1 37 4 rfl)) ((hF2 37 11 rfl).trans (hF1 37 11 rfl)) ((funext fun j => hF2 44 j rfl).trans (funext fun j => hF1 44 j rfl)) ((funext fun j => hF2 350 j rfl).trans (funext fun j => hF1 350 j rfl)) ((funext fun j => hF2 351 j rfl).trans (funext fun j => hF1 351 j rfl))), (dkIm_k (k := 1) hR.2.2.2.2.1 ((hF2 48 0 rfl).trans (hF1 48 0 rfl)) ((hF2 48 4 rfl).trans (hF1 48 4 rfl)) ((hF2 48 11 rfl).trans (hF1 48 11 rfl)) ((funext fun j => hF2 55 j rfl).trans (funext fun j => hF1 55 j rfl)) ((funext fun j => hF2 350 j rfl).trans (funext fun j => hF1 350 j rfl)) ((funext fun j => hF2 351 j rfl).trans (funext fun j => hF1 351 j rfl))), (dkTr_k hR.2.2.2.2.2 ((hF2 338 2 rfl).trans (hF1 338 2 rfl)) ((hF2 340 25 rfl).trans (hF1 340 25 rfl)) ((funext fun j => hF2 339 j rfl).trans (funext fun j => hF1 339 j rfl)) ((funext fun j => hF2 353 j rfl).trans (funext fun j => hF1 353 j rfl)))⟩⟩ hS hl

set_option maxHeartbeats 4000000 in
set_option maxRecDepth 100000 in
theorem k_walks {p : Program} {e : Env} {s : State} {m : MethodId} {below : List Frame} {meth : Method} {c : Code} (l : Launch) {b L z : Nat} {xs : Nat → Int32} {g : dkG} {Q : State → Prop} {H : Heap} {locs : List Loc} {ls : Array Slot} {I : dkI} {x : Int32} (hz0 : z = s.heap.size) (hx : p.tables.exec = Jvm.exec) (hb : c.code = code) (hml : c.maxLocals = 4) (hown : s.vm.findClass RL = some m.cls) (hts : ∀ w ∈ wsL_law, w.before #[Value.ref b] s = true) (hX : va_X b L xs s s.heap) (hbl : b < s.heap.size) (hL : L ≤ 448) (hx0 : 0 ≤ x.toInt) (hx1 : x.toInt + 7 ≤ (L : Int)) (hK : dkK g s) (hT : dkST z s) (hW : dkW g z I H) (hI : dkInv I) (hS : va_S (dkA z) s.heap H locs) (hl : lv_has ls 4 [(3, .int x), (2, .ref (z + 340)), (1, .ref (z + 0)), (0, .ref b)]) (hend : ∀ (I : dkI) (H : Heap) (locs : List Loc) (ls : Array Slot), dkW g z I H → dkInv I → va_S (dkA z) s.heap H locs → lv_has ls 4 [(3, .int x), (2, .ref (z + 340)), (1, .ref (z + 0)), (0, .ref b)] → W p l e room_1 s m #[Value.ref b] below meth c H locs (0 + 1 + 339 + 1 + 13) (0 + 10 + 2701 + 26 + 2055) Q (F0 m 1302 ls [])) : W p l e room_1 s m #[Value.ref b] below meth c H locs (0 + 1 + 339 + 1 + 13) (0 + 10 + 2701 + 26 + 2055) Q (F0 m 749 ls []) := by
  have hbA : ¬ dkA z b := by unfold dkA; omega
  obtain ⟨hO, hP, hR⟩ := hI
  have hO0 := hO
  have hP0 := hP
  have hin : ∀ k : Nat, k < 7 → vp_in (x + Int32.ofNat k) L := fun k hk => dk_lawIn hx0 hx1 hL hk
  obtain ⟨a1, ha1⟩ : ∃ y : Int32, xs (Int32.toNatClampNeg (x + 1)) = y := ⟨_, rfl⟩
  refine lv_aload_n hx hb dL_law_749 rfl (lv_at hl 2 rfl) ?_
  refine lv_aload_n hx hb dL_law_750 rfl (lv_at hl 3 rfl) ?_
  refine lv_iload_n hx hb dL_law_751 rfl (lv_at hl 0 rfl) ?_
  refine lv_iconst (v := 1) hx hb dL_law_752 (by decide) ?_
  refine lv_iadd hx hb dL_law_753 ?_
  refine va_sld hx hb hX hbl hbA hS (hin 1 (by decide)) dL_law_754 ?_
  rw [ha1]
  refine dk_Vi (As := [.int a1]) (rest := []) ⟨hx, hb, hml, hown, hts⟩ (c_X5_walks_0 l g z I a1 hO) (cwV 1 hts gL_law_X5_walks rfl rfl rfl (by decide +kernel) ⟨Nat.le_of_ble_eq_true rfl, Nat.le_of_ble_eq_true rfl⟩) (dk_at0 hW) rfl hK hT hW hS rfl hl.1 rfl (Nat.le_of_ble_eq_true rfl) dL_law_755 ⟨Nat.le_of_ble_eq_true rfl, Nat.le_of_ble_eq_true rfl⟩ (fun v1 I1 H L hp1 hW hS => ?_)
  obtain ⟨hF1, hO, hc1⟩ := hp1
  have hP := dkPP_F hP hF1 rfl
  refine lv_pop hx hb dL_law_758 rfl ?_
  refine lv_aload_n hx hb dL_law_759 rfl (lv_at hl 1 rfl) ?_
  refine lv_aload_n hx hb dL_law_760 rfl (lv_at hl 3 rfl) ?_
  refine lv_iload_n hx hb dL_law_761 rfl (lv_at hl 0 rfl) ?_
  refine lv_iconst (v := 1) hx hb dL_law_762 (by decide) ?_
  refine lv_iadd hx hb dL_law_763 ?_
  refine va_sld hx hb hX hbl hbA hS (hin 1 (by decide)) dL_law_764 ?_
  rw [ha1]
  refine dk_Vi (As := [.int a1]) (rest := []) ⟨hx, hb, hml, hown, hts⟩ (c_X6_walks_0 l g z I1 a1 hO) (cwV 1 hts gL_law_X6_walks rfl rfl rfl (by decide +kernel) ⟨Nat.le_of_ble_eq_true rfl, Nat.le_of_ble_eq_true rfl⟩) (dk_at340 hW) rfl hK hT hW hS rfl hl.1 rfl (Nat.le_of_ble_eq_true rfl) dL_law_765 ⟨Nat.le_of_ble_eq_true rfl, Nat.le_of_ble_eq_true rfl⟩ (fun v2 I2 H L hp2 hW hS => ?_)
  obtain ⟨hF2, hO, hc2⟩ := hp2
  have hP := dkPP_F hP hF2 rfl
  refine lv_pop hx hb dL_law_768 rfl ?_
  refine lv_goto (tgt := 1302) hx hb dL_law_769 (by decide) ?_
  exact hend I2 _ _ ls hW ⟨hO, hP, ⟨(dkQQ_F (dkQQ_F hR.1 hF1 rfl) hF2 rfl), (dkTap_k hR.2.1 ((hF2 12 1 rfl).trans (hF1 12 1 rfl)) ((hF2 340 6 rfl).trans (hF1 340 6 rfl)) ((funext fun j => hF2 13 j rfl).trans (funext fun j => hF1 13 j rfl)) ((funext fun j => hF2 345 j rfl).trans (funext fun j => hF1 345 j rfl))), (dkNo_k hR.2.2.1 hO0 ((hF2 25 0 rfl).trans (hF1 25 0 rfl)) ((hF2 25 4 rfl).trans (hF1 25 4 rfl)) ((hF2 25 11 rfl).trans (hF1 25 11 rfl)) ((funext fun j => hF2 32 j rfl).trans (funext fun j => hF1 32 j rfl)) ((hF2 346 0 rfl).trans (hF1 346 0 rfl)) ((hF2 346 4 rfl).trans (hF1 346 4 rfl)) ((hF2 346 5 rfl).trans (hF1 346 5 rfl)) (fun j hj => by rcases (by omega : j = 0 ∨ j = 1 ∨ j = 2 ∨ j = 3 ∨ j = 4 ∨ j = 5) with rfl | rfl | rfl | rfl | rfl | rfl <;> exact (hF2 346 _ rfl).trans (hF1 346 _ rfl))), (dkIm_k (k := 0) hR.2.2.2.1 ((hF2 37 0 rfl).trans (hF1 37 0 rfl)) ((hF2 37 4 rfl).trans (hF1 37 4 rfl)) ((hF2 37 11 rfl).trans (hF1 37 11 rfl)) ((funext fun j => hF2 44 j rfl).trans (funext fun j => hF1 44 j rfl)) ((funext fun j => hF2 350 j rfl).trans (funext fun j => hF1 350 j rfl)) ((funext fun j => hF2 351 j rfl).trans (funext fun j => hF1 351 j rfl))), (dkIm_k (k := 1) hR.2.2.2.2.1 ((hF2 48 0 rfl).trans (hF1 48 0 rfl)) ((hF2 48 4 rfl).trans (hF1 48 4 rfl)) ((hF2 48 11 rfl).trans (hF1 48 11 rfl)) ((funext fun j => hF2 55 j rfl).trans (funext fun j => hF1 55 j rfl)) ((funext fun j => hF2 350 j rfl).trans (funext fun j => hF1 350 j rfl)) ((funext fun j => hF2 351 j rfl).trans (funext fun j => hF1 351 j rfl))), (dkTr_k hR.2.2.2.2.2 ((hF2 338 2 rfl).trans (hF1 338 2 rfl)) ((hF2 340 25 rfl).trans (hF1 340 25 rfl)) ((funext fun j => hF2 339 j rfl).trans (funext fun j => hF1 339 j rfl)) ((funext fun j => hF2 353 j rfl).trans (funext fun j => hF1 353 j rfl)))⟩⟩ hS hl

set_option maxHeartbeats 4000000 in
set_option maxRecDepth 100000 in
theorem k_cats {p : Program} {e : Env} {s : State} {m : MethodId} {below : List Frame} {meth : Method} {c : Code} (l : Launch) {b L z : Nat} {xs : Nat → Int32} {g : dkG} {Q : State → Prop} {H : Heap} {locs : List Loc} {ls : Array Slot} {I : dkI} {x : Int32} (hz0 : z = s.heap.size) (hx : p.tables.exec = Jvm.exec) (hb : c.code = code) (hml : c.maxLocals = 4) (hown : s.vm.findClass RL = some m.cls) (hts : ∀ w ∈ wsL_law, w.before #[Value.ref b] s = true) (hX : va_X b L xs s s.heap) (hbl : b < s.heap.size) (hL : L ≤ 448) (hx0 : 0 ≤ x.toInt) (hx1 : x.toInt + 7 ≤ (L : Int)) (hK : dkK g s) (hT : dkST z s) (hW : dkW g z I H) (hI : dkInv I) (hS : va_S (dkA z) s.heap H locs) (hl : lv_has ls 4 [(3, .int x), (2, .ref (z + 340)), (1, .ref (z + 0)), (0, .ref b)]) (hend : ∀ (I : dkI) (H : Heap) (locs : List Loc) (ls : Array Slot), dkW g z I H → dkInv I → va_S (dkA z) s.heap H locs → lv_has ls 4 [(3, .int x), (2, .ref (z + 340)), (1, .ref (z + 0)), (0, .ref b)] → W p l e room_1 s m #[Value.ref b] below meth c H locs (0 + 1 + 339 + 1 + 13) (0 + 10 + 2701 + 26 + 2055) Q (F0 m 1302 ls [])) : W p l e room_1 s m #[Value.ref b] below meth c H locs (0 + 1 + 339 + 1 + 13) (0 + 10 + 2701 + 26 + 2055) Q (F0 m 772 ls []) := by
  have hbA : ¬ dkA z b := by unfold dkA; omega
  obtain ⟨hO, hP, hR⟩ := hI
  have hO0 := hO
  have hP0 := hP
  have hin : ∀ k : Nat, k < 7 → vp_in (x + Int32.ofNat k) L := fun k hk => dk_lawIn hx0 hx1 hL hk
  obtain ⟨a1, ha1⟩ : ∃ y : Int32, xs (Int32.toNatClampNeg (x + 1)) = y := ⟨_, rfl⟩
  obtain ⟨a2, ha2⟩ : ∃ y : Int32, xs (Int32.toNatClampNeg (x + 2)) = y := ⟨_, rfl⟩
  refine lv_aload_n hx hb dL_law_772 rfl (lv_at hl 2 rfl) ?_
  refine lv_aload_n hx hb dL_law_773 rfl (lv_at hl 3 rfl) ?_
  refine lv_iload_n hx hb dL_law_774 rfl (lv_at hl 0 rfl) ?_
  refine lv_iconst (v := 1) hx hb dL_law_775 (by decide) ?_
  refine lv_iadd hx hb dL_law_776 ?_
  refine va_sld hx hb hX hbl hbA hS (hin 1 (by decide)) dL_law_777 ?_
  rw [ha1]
  refine lv_aload_n hx hb dL_law_778 rfl (lv_at hl 3 rfl) ?_
  refine lv_iload_n hx hb dL_law_779 rfl (lv_at hl 0 rfl) ?_
  refine lv_iconst (v := 2) hx hb dL_law_780 (by decide) ?_
  refine lv_iadd hx hb dL_law_781 ?_
  refine va_sld hx hb hX hbl hbA hS (hin 2 (by decide)) dL_law_782 ?_
  rw [ha2]
  refine dk_Vi (As := [.int a1, .int a2]) (rest := []) ⟨hx, hb, hml, hown, hts⟩ (c_X5_cats_0 l g z I a1 a2 hO) (cwV 2 hts gL_law_X5_cats rfl rfl rfl (by decide +kernel) ⟨Nat.le_of_ble_eq_true rfl, Nat.le_of_ble_eq_true rfl⟩) (dk_at0 hW) rfl hK hT hW hS rfl hl.1 rfl (Nat.le_of_ble_eq_true rfl) dL_law_783 ⟨Nat.le_of_ble_eq_true rfl, Nat.le_of_ble_eq_true rfl⟩ (fun v1 I1 H L hp1 hW hS => ?_)
  obtain ⟨hF1, hO, hc1⟩ := hp1
  have hP := dkPP_F hP hF1 rfl
  refine lv_pop hx hb dL_law_786 rfl ?_
  refine lv_aload_n hx hb dL_law_787 rfl (lv_at hl 1 rfl) ?_
  refine lv_aload_n hx hb dL_law_788 rfl (lv_at hl 3 rfl) ?_
  refine lv_iload_n hx hb dL_law_789 rfl (lv_at hl 0 rfl) ?_
  refine lv_iconst (v := 1) hx hb dL_law_790 (by decide) ?_
  refine lv_iadd hx hb dL_law_791 ?_
  refine va_sld hx hb hX hbl hbA hS (hin 1 (by decide)) dL_law_792 ?_
  rw [ha1]
  refine lv_aload_n hx hb dL_law_793 rfl (lv_at hl 3 rfl) ?_
  refine lv_iload_n hx hb dL_law_794 rfl (lv_at hl 0 rfl) ?_
  refine lv_iconst (v := 2) hx hb dL_law_795 (by decide) ?_
  refine lv_iadd hx hb dL_law_796 ?_
  refine va_sld hx hb hX hbl hbA hS (hin 2 (by decide)) dL_law_797 ?_
  rw [ha2]
  refine dk_Vi (As := [.int a1, .int a2]) (rest := []) ⟨hx, hb, hml, hown, hts⟩ (c_X6_cats_0 l g z I1 a1 a2 hO) (cwV 2 hts gL_law_X6_cats rfl rfl rfl (by decide +kernel) ⟨Nat.le_of_ble_eq_true rfl, Nat.le_of_ble_eq_true rfl⟩) (dk_at340 hW) rfl hK hT hW hS rfl hl.1 rfl (Nat.le_of_ble_eq_true rfl) dL_law_798 ⟨Nat.le_of_ble_eq_true rfl, Nat.le_of_ble_eq_true rfl⟩ (fun v2 I2 H L hp2 hW hS => ?_)
  obtain ⟨hF2, hO, hc2⟩ := hp2
  have hP := dkPP_F hP hF2 rfl
  refine lv_pop hx hb dL_law_801 rfl ?_
  refine lv_goto (tgt := 1302) hx hb dL_law_802 (by decide) ?_
  exact hend I2 _ _ ls hW ⟨hO, hP, ⟨(dkQQ_F (dkQQ_F hR.1 hF1 rfl) hF2 rfl), (dkTap_k hR.2.1 ((hF2 12 1 rfl).trans (hF1 12 1 rfl)) ((hF2 340 6 rfl).trans (hF1 340 6 rfl)) ((funext fun j => hF2 13 j rfl).trans (funext fun j => hF1 13 j rfl)) ((funext fun j => hF2 345 j rfl).trans (funext fun j => hF1 345 j rfl))), (dkNo_k hR.2.2.1 hO0 ((hF2 25 0 rfl).trans (hF1 25 0 rfl)) ((hF2 25 4 rfl).trans (hF1 25 4 rfl)) ((hF2 25 11 rfl).trans (hF1 25 11 rfl)) ((funext fun j => hF2 32 j rfl).trans (funext fun j => hF1 32 j rfl)) ((hF2 346 0 rfl).trans (hF1 346 0 rfl)) ((hF2 346 4 rfl).trans (hF1 346 4 rfl)) ((hF2 346 5 rfl).trans (hF1 346 5 rfl)) (fun j hj => by rcases (by omega : j = 0 ∨ j = 1 ∨ j = 2 ∨ j = 3 ∨ j = 4 ∨ j = 5) with rfl | rfl | rfl | rfl | rfl | rfl <;> exact (hF2 346 _ rfl).trans (hF1 346 _ rfl))), (dkIm_k (k := 0) hR.2.2.2.1 ((hF2 37 0 rfl).trans (hF1 37 0 rfl)) ((hF2 37 4 rfl).trans (hF1 37 4 rfl)) ((hF2 37 11 rfl).trans (hF1 37 11 rfl)) ((funext fun j => hF2 44 j rfl).trans (funext fun j => hF1 44 j rfl)) ((funext fun j => hF2 350 j rfl).trans (funext fun j => hF1 350 j rfl)) ((funext fun j => hF2 351 j rfl).trans (funext fun j => hF1 351 j rfl))), (dkIm_k (k := 1) hR.2.2.2.2.1 ((hF2 48 0 rfl).trans (hF1 48 0 rfl)) ((hF2 48 4 rfl).trans (hF1 48 4 rfl)) ((hF2 48 11 rfl).trans (hF1 48 11 rfl)) ((funext fun j => hF2 55 j rfl).trans (funext fun j => hF1 55 j rfl)) ((funext fun j => hF2 350 j rfl).trans (funext fun j => hF1 350 j rfl)) ((funext fun j => hF2 351 j rfl).trans (funext fun j => hF1 351 j rfl))), (dkTr_k hR.2.2.2.2.2 ((hF2 338 2 rfl).trans (hF1 338 2 rfl)) ((hF2 340 25 rfl).trans (hF1 340 25 rfl)) ((funext fun j => hF2 339 j rfl).trans (funext fun j => hF1 339 j rfl)) ((funext fun j => hF2 353 j rfl).trans (funext fun j => hF1 353 j rfl)))⟩⟩ hS hl

set_option maxHeartbeats 4000000 in
set_option maxRecDepth 100000 in
theorem k_shows {p : Program} {e : Env} {s : State} {m : MethodId} {below : List Frame} {meth : Method} {c : Code} (l : Launch) {b L z : Nat} {xs : Nat → Int32} {g : dkG} {Q : State → Prop} {H : Heap} {locs : List Loc} {ls : Array Slot} {I : dkI} {x : Int32} (hz0 : z = s.heap.size) (hx : p.tables.exec = Jvm.exec) (hb : c.code = code) (hml : c.maxLocals = 4) (hown : s.vm.findClass RL = some m.cls) (hts : ∀ w ∈ wsL_law, w.before #[Value.ref b] s = true) (hX : va_X b L xs s s.heap) (hbl : b < s.heap.size) (hL : L ≤ 448) (hx0 : 0 ≤ x.toInt) (hx1 : x.toInt + 7 ≤ (L : Int)) (hK : dkK g s) (hT : dkST z s) (hW : dkW g z I H) (hI : dkInv I) (hS : va_S (dkA z) s.heap H locs) (hl : lv_has ls 4 [(3, .int x), (2, .ref (z + 340)), (1, .ref (z + 0)), (0, .ref b)]) (hend : ∀ (I : dkI) (H : Heap) (locs : List Loc) (ls : Array Slot), dkW g z I H → dkInv I → va_S (dkA z) s.heap H locs → lv_has ls 4 [(3, .int x), (2, .ref (z + 340)), (1, .ref (z + 0)), (0, .ref b)] → W p l e room_1 s m #[Value.ref b] below meth c H locs (0 + 1 + 339 + 1 + 13) (0 + 10 + 2701 + 26 + 2055) Q (F0 m 1302 ls [])) : W p l e room_1 s m #[Value.ref b] below meth c H locs (0 + 1 + 339 + 1 + 13) (0 + 10 + 2701 + 26 + 2055) Q (F0 m 805 ls []) := by
  have hbA : ¬ dkA z b := by unfold dkA; omega
  obtain ⟨hO, hP, hR⟩ := hI
  have hO0 := hO
  have hP0 := hP
  have hin : ∀ k : Nat, k < 7 → vp_in (x + Int32.ofNat k) L := fun k hk => dk_lawIn hx0 hx1 hL hk
  obtain ⟨a1, ha1⟩ : ∃ y : Int32, xs (Int32.toNatClampNeg (x + 1)) = y := ⟨_, rfl⟩
  obtain ⟨a2, ha2⟩ : ∃ y : Int32, xs (Int32.toNatClampNeg (x + 2)) = y := ⟨_, rfl⟩
  obtain ⟨a3, ha3⟩ : ∃ y : Int32, xs (Int32.toNatClampNeg (x + 3)) = y := ⟨_, rfl⟩
  refine lv_aload_n hx hb dL_law_805 rfl (lv_at hl 2 rfl) ?_
  refine lv_aload_n hx hb dL_law_806 rfl (lv_at hl 3 rfl) ?_
  refine lv_iload_n hx hb dL_law_807 rfl (lv_at hl 0 rfl) ?_
  refine lv_iconst (v := 1) hx hb dL_law_808 (by decide) ?_
  refine lv_iadd hx hb dL_law_809 ?_
  refine va_sld hx hb hX hbl hbA hS (hin 1 (by decide)) dL_law_810 ?_
  rw [ha1]
  refine lv_aload_n hx hb dL_law_811 rfl (lv_at hl 3 rfl) ?_
  refine lv_iload_n hx hb dL_law_812 rfl (lv_at hl 0 rfl) ?_
  refine lv_iconst (v := 2) hx hb dL_law_813 (by decide) ?_
  refine lv_iadd hx hb dL_law_814 ?_
  refine va_sld hx hb hX hbl hbA hS (hin 2 (by decide)) dL_law_815 ?_
  rw [ha2]
  refine lv_aload_n hx hb dL_law_816 rfl (lv_at hl 3 rfl) ?_
  refine lv_iload_n hx hb dL_law_817 rfl (lv_at hl 0 rfl) ?_
  refine lv_iconst (v := 3) hx hb dL_law_818 (by decide) ?_
  refine lv_iadd hx hb dL_law_819 ?_
  refine va_sld hx hb hX hbl hbA hS (hin 3 (by decide)) dL_law_820 ?_
  rw [ha3]
  refine dk_Vi (As := [.int a1, .int a2, .int a3]) (rest := []) ⟨hx, hb, hml, hown, hts⟩ (c_X5_shows_0 l g z I a1 a2 a3 hO) (cwV 3 hts gL_law_X5_shows rfl rfl rfl (by decide +kernel) ⟨Nat.le_of_ble_eq_true rfl, Nat.le_of_ble_eq_true rfl⟩) (dk_at0 hW) rfl hK hT hW hS rfl hl.1 rfl (Nat.le_of_ble_eq_true rfl) dL_law_821 ⟨Nat.le_of_ble_eq_true rfl, Nat.le_of_ble_eq_true rfl⟩ (fun v1 I1 H L hp1 hW hS => ?_)
  obtain ⟨hF1, hO, hc1⟩ := hp1
  have hP := dkPP_F hP hF1 rfl
  refine lv_pop hx hb dL_law_824 rfl ?_
  refine lv_aload_n hx hb dL_law_825 rfl (lv_at hl 1 rfl) ?_
  refine lv_aload_n hx hb dL_law_826 rfl (lv_at hl 3 rfl) ?_
  refine lv_iload_n hx hb dL_law_827 rfl (lv_at hl 0 rfl) ?_
  refine lv_iconst (v := 1) hx hb dL_law_828 (by decide) ?_
  refine lv_iadd hx hb dL_law_829 ?_
  refine va_sld hx hb hX hbl hbA hS (hin 1 (by decide)) dL_law_830 ?_
  rw [ha1]
  refine lv_aload_n hx hb dL_law_831 rfl (lv_at hl 3 rfl) ?_
  refine lv_iload_n hx hb dL_law_832 rfl (lv_at hl 0 rfl) ?_
  refine lv_iconst (v := 2) hx hb dL_law_833 (by decide) ?_
  refine lv_iadd hx hb dL_law_834 ?_
  refine va_sld hx hb hX hbl hbA hS (hin 2 (by decide)) dL_law_835 ?_
  rw [ha2]
  refine lv_aload_n hx hb dL_law_836 rfl (lv_at hl 3 rfl) ?_
  refine lv_iload_n hx hb dL_law_837 rfl (lv_at hl 0 rfl) ?_
  refine lv_iconst (v := 3) hx hb dL_law_838 (by decide) ?_
  refine lv_iadd hx hb dL_law_839 ?_
  refine va_sld hx hb hX hbl hbA hS (hin 3 (by decide)) dL_law_840 ?_
  rw [ha3]
  refine dk_Vi (As := [.int a1, .int a2, .int a3]) (rest := []) ⟨hx, hb, hml, hown, hts⟩ (c_X6_shows_0 l g z I1 a1 a2 a3 hO) (cwV 3 hts gL_law_X6_shows rfl rfl rfl (by decide +kernel) ⟨Nat.le_of_ble_eq_true rfl, Nat.le_of_ble_eq_true rfl⟩) (dk_at340 hW) rfl hK hT hW hS rfl hl.1 rfl (Nat.le_of_ble_eq_true rfl) dL_law_841 ⟨Nat.le_of_ble_eq_true rfl, Nat.le_of_ble_eq_true rfl⟩ (fun v2 I2 H L hp2 hW hS => ?_)
  obtain ⟨hF2, hO, hc2⟩ := hp2
  have hP := dkPP_F hP hF2 rfl
  refine lv_pop hx hb dL_law_844 rfl ?_
  refine lv_goto (tgt := 1302) hx hb dL_law_845 (by decide) ?_
  exact hend I2 _ _ ls hW ⟨hO, hP, ⟨(dkQQ_F (dkQQ_F hR.1 hF1 rfl) hF2 rfl), (dkTap_k hR.2.1 ((hF2 12 1 rfl).trans (hF1 12 1 rfl)) ((hF2 340 6 rfl).trans (hF1 340 6 rfl)) ((funext fun j => hF2 13 j rfl).trans (funext fun j => hF1 13 j rfl)) ((funext fun j => hF2 345 j rfl).trans (funext fun j => hF1 345 j rfl))), (dkNo_k hR.2.2.1 hO0 ((hF2 25 0 rfl).trans (hF1 25 0 rfl)) ((hF2 25 4 rfl).trans (hF1 25 4 rfl)) ((hF2 25 11 rfl).trans (hF1 25 11 rfl)) ((funext fun j => hF2 32 j rfl).trans (funext fun j => hF1 32 j rfl)) ((hF2 346 0 rfl).trans (hF1 346 0 rfl)) ((hF2 346 4 rfl).trans (hF1 346 4 rfl)) ((hF2 346 5 rfl).trans (hF1 346 5 rfl)) (fun j hj => by rcases (by omega : j = 0 ∨ j = 1 ∨ j = 2 ∨ j = 3 ∨ j = 4 ∨ j = 5) with rfl | rfl | rfl | rfl | rfl | rfl <;> exact (hF2 346 _ rfl).trans (hF1 346 _ rfl))), (dkIm_k (k := 0) hR.2.2.2.1 ((hF2 37 0 rfl).trans (hF1 37 0 rfl)) ((hF2 37 4 rfl).trans (hF1 37 4 rfl)) ((hF2 37 11 rfl).trans (hF1 37 11 rfl)) ((funext fun j => hF2 44 j rfl).trans (funext fun j => hF1 44 j rfl)) ((funext fun j => hF2 350 j rfl).trans (funext fun j => hF1 350 j rfl)) ((funext fun j => hF2 351 j rfl).trans (funext fun j => hF1 351 j rfl))), (dkIm_k (k := 1) hR.2.2.2.2.1 ((hF2 48 0 rfl).trans (hF1 48 0 rfl)) ((hF2 48 4 rfl).trans (hF1 48 4 rfl)) ((hF2 48 11 rfl).trans (hF1 48 11 rfl)) ((funext fun j => hF2 55 j rfl).trans (funext fun j => hF1 55 j rfl)) ((funext fun j => hF2 350 j rfl).trans (funext fun j => hF1 350 j rfl)) ((funext fun j => hF2 351 j rfl).trans (funext fun j => hF1 351 j rfl))), (dkTr_k hR.2.2.2.2.2 ((hF2 338 2 rfl).trans (hF1 338 2 rfl)) ((hF2 340 25 rfl).trans (hF1 340 25 rfl)) ((funext fun j => hF2 339 j rfl).trans (funext fun j => hF1 339 j rfl)) ((funext fun j => hF2 353 j rfl).trans (funext fun j => hF1 353 j rfl)))⟩⟩ hS hl

set_option maxHeartbeats 4000000 in
set_option maxRecDepth 100000 in
theorem k_packs {p : Program} {e : Env} {s : State} {m : MethodId} {below : List Frame} {meth : Method} {c : Code} (l : Launch) {b L z : Nat} {xs : Nat → Int32} {g : dkG} {Q : State → Prop} {H : Heap} {locs : List Loc} {ls : Array Slot} {I : dkI} {x : Int32} (hz0 : z = s.heap.size) (hx : p.tables.exec = Jvm.exec) (hb : c.code = code) (hml : c.maxLocals = 4) (hown : s.vm.findClass RL = some m.cls) (hts : ∀ w ∈ wsL_law, w.before #[Value.ref b] s = true) (hX : va_X b L xs s s.heap) (hbl : b < s.heap.size) (hL : L ≤ 448) (hx0 : 0 ≤ x.toInt) (hx1 : x.toInt + 7 ≤ (L : Int)) (hK : dkK g s) (hT : dkST z s) (hW : dkW g z I H) (hI : dkInv I) (hS : va_S (dkA z) s.heap H locs) (hl : lv_has ls 4 [(3, .int x), (2, .ref (z + 340)), (1, .ref (z + 0)), (0, .ref b)]) (hend : ∀ (I : dkI) (H : Heap) (locs : List Loc) (ls : Array Slot), dkW g z I H → dkInv I → va_S (dkA z) s.heap H locs → lv_has ls 4 [(3, .int x), (2, .ref (z + 340)), (1, .ref (z + 0)), (0, .ref b)] → W p l e room_1 s m #[Value.ref b] below meth c H locs (0 + 1 + 339 + 1 + 13) (0 + 10 + 2701 + 26 + 2055) Q (F0 m 1302 ls [])) : W p l e room_1 s m #[Value.ref b] below meth c H locs (0 + 1 + 339 + 1 + 13) (0 + 10 + 2701 + 26 + 2055) Q (F0 m 848 ls []) := by
  have hbA : ¬ dkA z b := by unfold dkA; omega
  obtain ⟨hO, hP, hR⟩ := hI
  have hO0 := hO
  have hP0 := hP
  have hin : ∀ k : Nat, k < 7 → vp_in (x + Int32.ofNat k) L := fun k hk => dk_lawIn hx0 hx1 hL hk
  obtain ⟨a1, ha1⟩ : ∃ y : Int32, xs (Int32.toNatClampNeg (x + 1)) = y := ⟨_, rfl⟩
  refine lv_aload_n hx hb dL_law_848 rfl (lv_at hl 2 rfl) ?_
  refine lv_aload_n hx hb dL_law_849 rfl (lv_at hl 3 rfl) ?_
  refine lv_iload_n hx hb dL_law_850 rfl (lv_at hl 0 rfl) ?_
  refine lv_iconst (v := 1) hx hb dL_law_851 (by decide) ?_
  refine lv_iadd hx hb dL_law_852 ?_
  refine va_sld hx hb hX hbl hbA hS (hin 1 (by decide)) dL_law_853 ?_
  rw [ha1]
  refine dk_Vi (As := [.int a1]) (rest := []) ⟨hx, hb, hml, hown, hts⟩ (c_X5_packs_0 l g z I a1 hO) (cwV 1 hts gL_law_X5_packs rfl rfl rfl (by decide +kernel) ⟨Nat.le_of_ble_eq_true rfl, Nat.le_of_ble_eq_true rfl⟩) (dk_at0 hW) rfl hK hT hW hS rfl hl.1 rfl (Nat.le_of_ble_eq_true rfl) dL_law_854 ⟨Nat.le_of_ble_eq_true rfl, Nat.le_of_ble_eq_true rfl⟩ (fun v1 I1 H L hp1 hW hS => ?_)
  obtain ⟨hF1, hO, hc1⟩ := hp1
  have hP := dkPP_F hP hF1 rfl
  refine lv_pop hx hb dL_law_857 rfl ?_
  refine lv_aload_n hx hb dL_law_858 rfl (lv_at hl 1 rfl) ?_
  refine lv_aload_n hx hb dL_law_859 rfl (lv_at hl 3 rfl) ?_
  refine lv_iload_n hx hb dL_law_860 rfl (lv_at hl 0 rfl) ?_
  refine lv_iconst (v := 1) hx hb dL_law_861 (by decide) ?_
  refine lv_iadd hx hb dL_law_862 ?_
  refine va_sld hx hb hX hbl hbA hS (hin 1 (by decide)) dL_law_863 ?_
  rw [ha1]
  refine dk_Vi (As := [.int a1]) (rest := []) ⟨hx, hb, hml, hown, hts⟩ (c_X6_packs_0 l g z I1 a1 hO) (cwV 1 hts gL_law_X6_packs rfl rfl rfl (by decide +kernel) ⟨Nat.le_of_ble_eq_true rfl, Nat.le_of_ble_eq_true rfl⟩) (dk_at340 hW) rfl hK hT hW hS rfl hl.1 rfl (Nat.le_of_ble_eq_true rfl) dL_law_864 ⟨Nat.le_of_ble_eq_true rfl, Nat.le_of_ble_eq_true rfl⟩ (fun v2 I2 H L hp2 hW hS => ?_)
  obtain ⟨hF2, hO, hc2⟩ := hp2
  have hP := dkPP_F hP hF2 rfl
  refine lv_pop hx hb dL_law_867 rfl ?_
  refine lv_goto (tgt := 1302) hx hb dL_law_868 (by decide) ?_
  exact hend I2 _ _ ls hW ⟨hO, hP, ⟨(dkQQ_F (dkQQ_F hR.1 hF1 rfl) hF2 rfl), (dkTap_k hR.2.1 ((hF2 12 1 rfl).trans (hF1 12 1 rfl)) ((hF2 340 6 rfl).trans (hF1 340 6 rfl)) ((funext fun j => hF2 13 j rfl).trans (funext fun j => hF1 13 j rfl)) ((funext fun j => hF2 345 j rfl).trans (funext fun j => hF1 345 j rfl))), (dkNo_k hR.2.2.1 hO0 ((hF2 25 0 rfl).trans (hF1 25 0 rfl)) ((hF2 25 4 rfl).trans (hF1 25 4 rfl)) ((hF2 25 11 rfl).trans (hF1 25 11 rfl)) ((funext fun j => hF2 32 j rfl).trans (funext fun j => hF1 32 j rfl)) ((hF2 346 0 rfl).trans (hF1 346 0 rfl)) ((hF2 346 4 rfl).trans (hF1 346 4 rfl)) ((hF2 346 5 rfl).trans (hF1 346 5 rfl)) (fun j hj => by rcases (by omega : j = 0 ∨ j = 1 ∨ j = 2 ∨ j = 3 ∨ j = 4 ∨ j = 5) with rfl | rfl | rfl | rfl | rfl | rfl <;> exact (hF2 346 _ rfl).trans (hF1 346 _ rfl))), (dkIm_k (k := 0) hR.2.2.2.1 ((hF2 37 0 rfl).trans (hF1 37 0 rfl)) ((hF2 37 4 rfl).trans (hF1 37 4 rfl)) ((hF2 37 11 rfl).trans (hF1 37 11 rfl)) ((funext fun j => hF2 44 j rfl).trans (funext fun j => hF1 44 j rfl)) ((funext fun j => hF2 350 j rfl).trans (funext fun j => hF1 350 j rfl)) ((funext fun j => hF2 351 j rfl).trans (funext fun j => hF1 351 j rfl))), (dkIm_k (k := 1) hR.2.2.2.2.1 ((hF2 48 0 rfl).trans (hF1 48 0 rfl)) ((hF2 48 4 rfl).trans (hF1 48 4 rfl)) ((hF2 48 11 rfl).trans (hF1 48 11 rfl)) ((funext fun j => hF2 55 j rfl).trans (funext fun j => hF1 55 j rfl)) ((funext fun j => hF2 350 j rfl).trans (funext fun j => hF1 350 j rfl)) ((funext fun j => hF2 351 j rfl).trans (funext fun j => hF1 351 j rfl))), (dkTr_k hR.2.2.2.2.2 ((hF2 338 2 rfl).trans (hF1 338 2 rfl)) ((hF2 340 25 rfl).trans (hF1 340 25 rfl)) ((funext fun j => hF2 339 j rfl).trans (funext fun j => hF1 339 j rfl)) ((funext fun j => hF2 353 j rfl).trans (funext fun j => hF1 353 j rfl)))⟩⟩ hS hl

set_option maxHeartbeats 4000000 in
set_option maxRecDepth 100000 in
theorem k_hangs {p : Program} {e : Env} {s : State} {m : MethodId} {below : List Frame} {meth : Method} {c : Code} (l : Launch) {b L z : Nat} {xs : Nat → Int32} {g : dkG} {Q : State → Prop} {H : Heap} {locs : List Loc} {ls : Array Slot} {I : dkI} {x : Int32} (hz0 : z = s.heap.size) (hx : p.tables.exec = Jvm.exec) (hb : c.code = code) (hml : c.maxLocals = 4) (hown : s.vm.findClass RL = some m.cls) (hts : ∀ w ∈ wsL_law, w.before #[Value.ref b] s = true) (hX : va_X b L xs s s.heap) (hbl : b < s.heap.size) (hL : L ≤ 448) (hx0 : 0 ≤ x.toInt) (hx1 : x.toInt + 7 ≤ (L : Int)) (hK : dkK g s) (hT : dkST z s) (hW : dkW g z I H) (hI : dkInv I) (hS : va_S (dkA z) s.heap H locs) (hl : lv_has ls 4 [(3, .int x), (2, .ref (z + 340)), (1, .ref (z + 0)), (0, .ref b)]) (hend : ∀ (I : dkI) (H : Heap) (locs : List Loc) (ls : Array Slot), dkW g z I H → dkInv I → va_S (dkA z) s.heap H locs → lv_has ls 4 [(3, .int x), (2, .ref (z + 340)), (1, .ref (z + 0)), (0, .ref b)] → W p l e room_1 s m #[Value.ref b] below meth c H locs (0 + 1 + 339 + 1 + 13) (0 + 10 + 2701 + 26 + 2055) Q (F0 m 1302 ls [])) : W p l e room_1 s m #[Value.ref b] below meth c H locs (0 + 1 + 339 + 1 + 13) (0 + 10 + 2701 + 26 + 2055) Q (F0 m 871 ls []) := by
  have hbA : ¬ dkA z b := by unfold dkA; omega
  obtain ⟨hO, hP, hR⟩ := hI
  have hO0 := hO
  have hP0 := hP
  have hin : ∀ k : Nat, k < 7 → vp_in (x + Int32.ofNat k) L := fun k hk => dk_lawIn hx0 hx1 hL hk
  refine lv_aload_n hx hb dL_law_871 rfl (lv_at hl 2 rfl) ?_
  refine dk_Vi (As := []) (rest := []) ⟨hx, hb, hml, hown, hts⟩ (c_X5_hangs_0 l g z I hO) (cwV 0 hts gL_law_X5_hangs rfl rfl rfl (by decide +kernel) ⟨Nat.le_of_ble_eq_true rfl, Nat.le_of_ble_eq_true rfl⟩) (dk_at0 hW) rfl hK hT hW hS rfl hl.1 rfl (Nat.le_of_ble_eq_true rfl) dL_law_872 ⟨Nat.le_of_ble_eq_true rfl, Nat.le_of_ble_eq_true rfl⟩ (fun v1 I1 H L hp1 hW hS => ?_)
  obtain ⟨hF1, hO, hc1⟩ := hp1
  have hP := dkPP_F hP hF1 rfl
  refine lv_pop hx hb dL_law_875 rfl ?_
  refine lv_aload_n hx hb dL_law_876 rfl (lv_at hl 1 rfl) ?_
  refine dk_Vi (As := []) (rest := []) ⟨hx, hb, hml, hown, hts⟩ (c_X6_hangs_0 l g z I1 hO) (cwV 0 hts gL_law_X6_hangs rfl rfl rfl (by decide +kernel) ⟨Nat.le_of_ble_eq_true rfl, Nat.le_of_ble_eq_true rfl⟩) (dk_at340 hW) rfl hK hT hW hS rfl hl.1 rfl (Nat.le_of_ble_eq_true rfl) dL_law_877 ⟨Nat.le_of_ble_eq_true rfl, Nat.le_of_ble_eq_true rfl⟩ (fun v2 I2 H L hp2 hW hS => ?_)
  obtain ⟨hF2, hO, hc2⟩ := hp2
  have hP := dkPP_F hP hF2 rfl
  refine lv_pop hx hb dL_law_880 rfl ?_
  refine lv_goto (tgt := 1302) hx hb dL_law_881 (by decide) ?_
  exact hend I2 _ _ ls hW ⟨hO, hP, ⟨(dkQQ_F (dkQQ_F hR.1 hF1 rfl) hF2 rfl), (dkTap_k hR.2.1 ((hF2 12 1 rfl).trans (hF1 12 1 rfl)) ((hF2 340 6 rfl).trans (hF1 340 6 rfl)) ((funext fun j => hF2 13 j rfl).trans (funext fun j => hF1 13 j rfl)) ((funext fun j => hF2 345 j rfl).trans (funext fun j => hF1 345 j rfl))), (dkNo_k hR.2.2.1 hO0 ((hF2 25 0 rfl).trans (hF1 25 0 rfl)) ((hF2 25 4 rfl).trans (hF1 25 4 rfl)) ((hF2 25 11 rfl).trans (hF1 25 11 rfl)) ((funext fun j => hF2 32 j rfl).trans (funext fun j => hF1 32 j rfl)) ((hF2 346 0 rfl).trans (hF1 346 0 rfl)) ((hF2 346 4 rfl).trans (hF1 346 4 rfl)) ((hF2 346 5 rfl).trans (hF1 346 5 rfl)) (fun j hj => by rcases (by omega : j = 0 ∨ j = 1 ∨ j = 2 ∨ j = 3 ∨ j = 4 ∨ j = 5) with rfl | rfl | rfl | rfl | rfl | rfl <;> exact (hF2 346 _ rfl).trans (hF1 346 _ rfl))), (dkIm_k (k := 0) hR.2.2.2.1 ((hF2 37 0 rfl).trans (hF1 37 0 rfl)) ((hF2 37 4 rfl).trans (hF1 37 4 rfl)) ((hF2 37 11 rfl).trans (hF1 37 11 rfl)) ((funext fun j => hF2 44 j rfl).trans (funext fun j => hF1 44 j rfl)) ((funext fun j => hF2 350 j rfl).trans (funext fun j => hF1 350 j rfl)) ((funext fun j => hF2 351 j rfl).trans (funext fun j => hF1 351 j rfl))), (dkIm_k (k := 1) hR.2.2.2.2.1 ((hF2 48 0 rfl).trans (hF1 48 0 rfl)) ((hF2 48 4 rfl).trans (hF1 48 4 rfl)) ((hF2 48 11 rfl).trans (hF1 48 11 rfl)) ((funext fun j => hF2 55 j rfl).trans (funext fun j => hF1 55 j rfl)) ((funext fun j => hF2 350 j rfl).trans (funext fun j => hF1 350 j rfl)) ((funext fun j => hF2 351 j rfl).trans (funext fun j => hF1 351 j rfl))), (dkTr_k hR.2.2.2.2.2 ((hF2 338 2 rfl).trans (hF1 338 2 rfl)) ((hF2 340 25 rfl).trans (hF1 340 25 rfl)) ((funext fun j => hF2 339 j rfl).trans (funext fun j => hF1 339 j rfl)) ((funext fun j => hF2 353 j rfl).trans (funext fun j => hF1 353 j rfl)))⟩⟩ hS hl

set_option maxHeartbeats 4000000 in
set_option maxRecDepth 100000 in
theorem k_fits {p : Program} {e : Env} {s : State} {m : MethodId} {below : List Frame} {meth : Method} {c : Code} (l : Launch) {b L z : Nat} {xs : Nat → Int32} {g : dkG} {Q : State → Prop} {H : Heap} {locs : List Loc} {ls : Array Slot} {I : dkI} {x : Int32} (hz0 : z = s.heap.size) (hx : p.tables.exec = Jvm.exec) (hb : c.code = code) (hml : c.maxLocals = 4) (hown : s.vm.findClass RL = some m.cls) (hts : ∀ w ∈ wsL_law, w.before #[Value.ref b] s = true) (hX : va_X b L xs s s.heap) (hbl : b < s.heap.size) (hL : L ≤ 448) (hx0 : 0 ≤ x.toInt) (hx1 : x.toInt + 7 ≤ (L : Int)) (hK : dkK g s) (hT : dkST z s) (hW : dkW g z I H) (hI : dkInv I) (hS : va_S (dkA z) s.heap H locs) (hl : lv_has ls 4 [(3, .int x), (2, .ref (z + 340)), (1, .ref (z + 0)), (0, .ref b)]) (hend : ∀ (I : dkI) (H : Heap) (locs : List Loc) (ls : Array Slot), dkW g z I H → dkInv I → va_S (dkA z) s.heap H locs → lv_has ls 4 [(3, .int x), (2, .ref (z + 340)), (1, .ref (z + 0)), (0, .ref b)] → W p l e room_1 s m #[Value.ref b] below meth c H locs (0 + 1 + 339 + 1 + 13) (0 + 10 + 2701 + 26 + 2055) Q (F0 m 1302 ls [])) : W p l e room_1 s m #[Value.ref b] below meth c H locs (0 + 1 + 339 + 1 + 13) (0 + 10 + 2701 + 26 + 2055) Q (F0 m 884 ls []) := by
  have hbA : ¬ dkA z b := by unfold dkA; omega
  obtain ⟨hO, hP, hR⟩ := hI
  have hO0 := hO
  have hP0 := hP
  have hin : ∀ k : Nat, k < 7 → vp_in (x + Int32.ofNat k) L := fun k hk => dk_lawIn hx0 hx1 hL hk
  obtain ⟨a1, ha1⟩ : ∃ y : Int32, xs (Int32.toNatClampNeg (x + 1)) = y := ⟨_, rfl⟩
  obtain ⟨a2, ha2⟩ : ∃ y : Int32, xs (Int32.toNatClampNeg (x + 2)) = y := ⟨_, rfl⟩
  obtain ⟨a3, ha3⟩ : ∃ y : Int32, xs (Int32.toNatClampNeg (x + 3)) = y := ⟨_, rfl⟩
  obtain ⟨a4, ha4⟩ : ∃ y : Int32, xs (Int32.toNatClampNeg (x + 4)) = y := ⟨_, rfl⟩
  obtain ⟨a5, ha5⟩ : ∃ y : Int32, xs (Int32.toNatClampNeg (x + 5)) = y := ⟨_, rfl⟩
  refine lv_aload_n hx hb dL_law_884 rfl (lv_at hl 2 rfl) ?_
  refine lv_aload_n hx hb dL_law_885 rfl (lv_at hl 3 rfl) ?_
  refine lv_iload_n hx hb dL_law_886 rfl (lv_at hl 0 rfl) ?_
  refine lv_iconst (v := 1) hx hb dL_law_887 (by decide) ?_
  refine lv_iadd hx hb dL_law_888 ?_
  refine va_sld hx hb hX hbl hbA hS (hin 1 (by decide)) dL_law_889 ?_
  rw [ha1]
  refine lv_aload_n hx hb dL_law_890 rfl (lv_at hl 3 rfl) ?_
  refine lv_iload_n hx hb dL_law_891 rfl (lv_at hl 0 rfl) ?_
  refine lv_iconst (v := 2) hx hb dL_law_892 (by decide) ?_
  refine lv_iadd hx hb dL_law_893 ?_
  refine va_sld hx hb hX hbl hbA hS (hin 2 (by decide)) dL_law_894 ?_
  rw [ha2]
  refine lv_aload_n hx hb dL_law_895 rfl (lv_at hl 3 rfl) ?_
  refine lv_iload_n hx hb dL_law_896 rfl (lv_at hl 0 rfl) ?_
  refine lv_iconst (v := 3) hx hb dL_law_897 (by decide) ?_
  refine lv_iadd hx hb dL_law_898 ?_
  refine va_sld hx hb hX hbl hbA hS (hin 3 (by decide)) dL_law_899 ?_
  rw [ha3]
  refine lv_aload_n hx hb dL_law_900 rfl (lv_at hl 3 rfl) ?_
  refine lv_iload_n hx hb dL_law_901 rfl (lv_at hl 0 rfl) ?_
  refine lv_iconst (v := 4) hx hb dL_law_902 (by decide) ?_
  refine lv_iadd hx hb dL_law_903 ?_
  refine va_sld hx hb hX hbl hbA hS (hin 4 (by decide)) dL_law_904 ?_
  rw [ha4]
  refine lv_aload_n hx hb dL_law_905 rfl (lv_at hl 3 rfl) ?_
  refine lv_iload_n hx hb dL_law_906 rfl (lv_at hl 0 rfl) ?_
  refine lv_iconst (v := 5) hx hb dL_law_907 (by decide) ?_
  refine lv_iadd hx hb dL_law_908 ?_
  refine va_sld hx hb hX hbl hbA hS (hin 5 (by decide)) dL_law_909 ?_
  rw [ha5]
  refine dk_Vi (As := [.int a1, .int a2, .int a3, .int a4, .int a5]) (rest := []) ⟨hx, hb, hml, hown, hts⟩ (c_X5_fits_0 l g z I a1 a2 a3 a4 a5 hO) (cwV 5 hts gL_law_X5_fits rfl rfl rfl (by decide +kernel) ⟨Nat.le_of_ble_eq_true rfl, Nat.le_of_ble_eq_true rfl⟩) (dk_at0 hW) rfl hK hT hW hS rfl hl.1 rfl (Nat.le_of_ble_eq_true rfl) dL_law_910 ⟨Nat.le_of_ble_eq_true rfl, Nat.le_of_ble_eq_true rfl⟩ (fun v1 I1 H L hp1 hW hS => ?_)
  obtain ⟨hF1, hO, hc1⟩ := hp1
  have hP := dkPP_F hP hF1 rfl
  refine lv_pop hx hb dL_law_913 rfl ?_
  refine lv_aload_n hx hb dL_law_914 rfl (lv_at hl 1 rfl) ?_
  refine lv_aload_n hx hb dL_law_915 rfl (lv_at hl 3 rfl) ?_
  refine lv_iload_n hx hb dL_law_916 rfl (lv_at hl 0 rfl) ?_
  refine lv_iconst (v := 1) hx hb dL_law_917 (by decide) ?_
  refine lv_iadd hx hb dL_law_918 ?_
  refine va_sld hx hb hX hbl hbA hS (hin 1 (by decide)) dL_law_919 ?_
  rw [ha1]
  refine lv_aload_n hx hb dL_law_920 rfl (lv_at hl 3 rfl) ?_
  refine lv_iload_n hx hb dL_law_921 rfl (lv_at hl 0 rfl) ?_
  refine lv_iconst (v := 2) hx hb dL_law_922 (by decide) ?_
  refine lv_iadd hx hb dL_law_923 ?_
  refine va_sld hx hb hX hbl hbA hS (hin 2 (by decide)) dL_law_924 ?_
  rw [ha2]
  refine lv_aload_n hx hb dL_law_925 rfl (lv_at hl 3 rfl) ?_
  refine lv_iload_n hx hb dL_law_926 rfl (lv_at hl 0 rfl) ?_
  refine lv_iconst (v := 3) hx hb dL_law_927 (by decide) ?_
  refine lv_iadd hx hb dL_law_928 ?_
  refine va_sld hx hb hX hbl hbA hS (hin 3 (by decide)) dL_law_929 ?_
  rw [ha3]
  refine lv_aload_n hx hb dL_law_930 rfl (lv_at hl 3 rfl) ?_
  refine lv_iload_n hx hb dL_law_931 rfl (lv_at hl 0 rfl) ?_
  refine lv_iconst (v := 4) hx hb dL_law_932 (by decide) ?_
  refine lv_iadd hx hb dL_law_933 ?_
  refine va_sld hx hb hX hbl hbA hS (hin 4 (by decide)) dL_law_934 ?_
  rw [ha4]
  refine lv_aload_n hx hb dL_law_935 rfl (lv_at hl 3 rfl) ?_
  refine lv_iload_n hx hb dL_law_936 rfl (lv_at hl 0 rfl) ?_
  refine lv_iconst (v := 5) hx hb dL_law_937 (by decide) ?_
  refine lv_iadd hx hb dL_law_938 ?_
  refine va_sld hx hb hX hbl hbA hS (hin 5 (by decide)) dL_law_939 ?_
  rw [ha5]
  refine dk_Vi (As := [.int a1, .int a2, .int a3, .int a4, .int a5]) (rest := []) ⟨hx, hb, hml, hown, hts⟩ (c_X6_fits_0 l g z I1 a1 a2 a3 a4 a5 hO) (cwV 5 hts gL_law_X6_fits rfl rfl rfl (by decide +kernel) ⟨Nat.le_of_ble_eq_true rfl, Nat.le_of_ble_eq_true rfl⟩) (dk_at340 hW) rfl hK hT hW hS rfl hl.1 rfl (Nat.le_of_ble_eq_true rfl) dL_law_940 ⟨Nat.le_of_ble_eq_true rfl, Nat.le_of_ble_eq_true rfl⟩ (fun v2 I2 H L hp2 hW hS => ?_)
  obtain ⟨hF2, hO, hc2⟩ := hp2
  have hP := dkPP_F hP hF2 rfl
  refine lv_pop hx hb dL_law_943 rfl ?_
  refine lv_goto (tgt := 1302) hx hb dL_law_944 (by decide) ?_
  exact hend I2 _ _ ls hW ⟨hO, hP, ⟨(dkQQ_F (dkQQ_F hR.1 hF1 rfl) hF2 rfl), (dkTap_k hR.2.1 ((hF2 12 1 rfl).trans (hF1 12 1 rfl)) ((hF2 340 6 rfl).trans (hF1 340 6 rfl)) ((funext fun j => hF2 13 j rfl).trans (funext fun j => hF1 13 j rfl)) ((funext fun j => hF2 345 j rfl).trans (funext fun j => hF1 345 j rfl))), (dkNo_k hR.2.2.1 hO0 ((hF2 25 0 rfl).trans (hF1 25 0 rfl)) ((hF2 25 4 rfl).trans (hF1 25 4 rfl)) ((hF2 25 11 rfl).trans (hF1 25 11 rfl)) ((funext fun j => hF2 32 j rfl).trans (funext fun j => hF1 32 j rfl)) ((hF2 346 0 rfl).trans (hF1 346 0 rfl)) ((hF2 346 4 rfl).trans (hF1 346 4 rfl)) ((hF2 346 5 rfl).trans (hF1 346 5 rfl)) (fun j hj => by rcases (by omega : j = 0 ∨ j = 1 ∨ j = 2 ∨ j = 3 ∨ j = 4 ∨ j = 5) with rfl | rfl | rfl | rfl | rfl | rfl <;> exact (hF2 346 _ rfl).trans (hF1 346 _ rfl))), (dkIm_k (k := 0) hR.2.2.2.1 ((hF2 37 0 rfl).trans (hF1 37 0 rfl)) ((hF2 37 4 rfl).trans (hF1 37 4 rfl)) ((hF2 37 11 rfl).trans (hF1 37 11 rfl)) ((funext fun j => hF2 44 j rfl).trans (funext fun j => hF1 44 j rfl)) ((funext fun j => hF2 350 j rfl).trans (funext fun j => hF1 350 j rfl)) ((funext fun j => hF2 351 j rfl).trans (funext fun j => hF1 351 j rfl))), (dkIm_k (k := 1) hR.2.2.2.2.1 ((hF2 48 0 rfl).trans (hF1 48 0 rfl)) ((hF2 48 4 rfl).trans (hF1 48 4 rfl)) ((hF2 48 11 rfl).trans (hF1 48 11 rfl)) ((funext fun j => hF2 55 j rfl).trans (funext fun j => hF1 55 j rfl)) ((funext fun j => hF2 350 j rfl).trans (funext fun j => hF1 350 j rfl)) ((funext fun j => hF2 351 j rfl).trans (funext fun j => hF1 351 j rfl))), (dkTr_k hR.2.2.2.2.2 ((hF2 338 2 rfl).trans (hF1 338 2 rfl)) ((hF2 340 25 rfl).trans (hF1 340 25 rfl)) ((funext fun j => hF2 339 j rfl).trans (funext fun j => hF1 339 j rfl)) ((funext fun j => hF2 353 j rfl).trans (funext fun j => hF1 353 j rfl)))⟩⟩ hS hl

set_option maxHeartbeats 4000000 in
set_option maxRecDepth 100000 in
theorem k_suits {p : Program} {e : Env} {s : State} {m : MethodId} {below : List Frame} {meth : Method} {c : Code} (l : Launch) {b L z : Nat} {xs : Nat → Int32} {g : dkG} {Q : State → Prop} {H : Heap} {locs : List Loc} {ls : Array Slot} {I : dkI} {x : Int32} (hz0 : z = s.heap.size) (hx : p.tables.exec = Jvm.exec) (hb : c.code = code) (hml : c.maxLocals = 4) (hown : s.vm.findClass RL = some m.cls) (hts : ∀ w ∈ wsL_law, w.before #[Value.ref b] s = true) (hX : va_X b L xs s s.heap) (hbl : b < s.heap.size) (hL : L ≤ 448) (hx0 : 0 ≤ x.toInt) (hx1 : x.toInt + 7 ≤ (L : Int)) (hK : dkK g s) (hT : dkST z s) (hW : dkW g z I H) (hI : dkInv I) (hS : va_S (dkA z) s.heap H locs) (hl : lv_has ls 4 [(3, .int x), (2, .ref (z + 340)), (1, .ref (z + 0)), (0, .ref b)]) (hend : ∀ (I : dkI) (H : Heap) (locs : List Loc) (ls : Array Slot), dkW g z I H → dkInv I → va_S (dkA z) s.heap H locs → lv_has ls 4 [(3, .int x), (2, .ref (z + 340)), (1, .ref (z + 0)), (0, .ref b)] → W p l e room_1 s m #[Value.ref b] below meth c H locs (0 + 1 + 339 + 1 + 13) (0 + 10 + 2701 + 26 + 2055) Q (F0 m 1302 ls [])) : W p l e room_1 s m #[Value.ref b] below meth c H locs (0 + 1 + 339 + 1 + 13) (0 + 10 + 2701 + 26 + 2055) Q (F0 m 947 ls []) := by
  have hbA : ¬ dkA z b := by unfold dkA; omega
  obtain ⟨hO, hP, hR⟩ := hI
  have hO0 := hO
  have hP0 := hP
  have hin : ∀ k : Nat, k < 7 → vp_in (x + Int32.ofNat k) L := fun k hk => dk_lawIn hx0 hx1 hL hk
  obtain ⟨a1, ha1⟩ : ∃ y : Int32, xs (Int32.toNatClampNeg (x + 1)) = y := ⟨_, rfl⟩
  obtain ⟨a2, ha2⟩ : ∃ y : Int32, xs (Int32.toNatClampNeg (x + 2)) = y := ⟨_, rfl⟩
  obtain ⟨a3, ha3⟩ : ∃ y : Int32, xs (Int32.toNatClampNeg (x + 3)) = y := ⟨_, rfl⟩
  obtain ⟨a4, ha4⟩ : ∃ y : Int32, xs (Int32.toNatClampNeg (x + 4)) = y := ⟨_, rfl⟩
  obtain ⟨a5, ha5⟩ : ∃ y : Int32, xs (Int32.toNatClampNeg (x + 5)) = y := ⟨_, rfl⟩
  obtain ⟨a6, ha6⟩ : ∃ y : Int32, xs (Int32.toNatClampNeg (x + 6)) = y := ⟨_, rfl⟩
  refine lv_aload_n hx hb dL_law_947 rfl (lv_at hl 2 rfl) ?_
  refine lv_aload_n hx hb dL_law_948 rfl (lv_at hl 3 rfl) ?_
  refine lv_iload_n hx hb dL_law_949 rfl (lv_at hl 0 rfl) ?_
  refine lv_iconst (v := 1) hx hb dL_law_950 (by decide) ?_
  refine lv_iadd hx hb dL_law_951 ?_
  refine va_sld hx hb hX hbl hbA hS (hin 1 (by decide)) dL_law_952 ?_
  rw [ha1]
  refine lv_aload_n hx hb dL_law_953 rfl (lv_at hl 3 rfl) ?_
  refine lv_iload_n hx hb dL_law_954 rfl (lv_at hl 0 rfl) ?_
  refine lv_iconst (v := 2) hx hb dL_law_955 (by decide) ?_
  refine lv_iadd hx hb dL_law_956 ?_
  refine va_sld hx hb hX hbl hbA hS (hin 2 (by decide)) dL_law_957 ?_
  rw [ha2]
  refine lv_aload_n hx hb dL_law_958 rfl (lv_at hl 3 rfl) ?_
  refine lv_iload_n hx hb dL_law_959 rfl (lv_at hl 0 rfl) ?_
  refine lv_iconst (v := 3) hx hb dL_law_960 (by decide) ?_
  refine lv_iadd hx hb dL_law_961 ?_
  refine va_sld hx hb hX hbl hbA hS (hin 3 (by decide)) dL_law_962 ?_
  rw [ha3]
  refine lv_aload_n hx hb dL_law_963 rfl (lv_at hl 3 rfl) ?_
  refine lv_iload_n hx hb dL_law_964 rfl (lv_at hl 0 rfl) ?_
  refine lv_iconst (v := 4) hx hb dL_law_965 (by decide) ?_
  refine lv_iadd hx hb dL_law_966 ?_
  refine va_sld hx hb hX hbl hbA hS (hin 4 (by decide)) dL_law_967 ?_
  rw [ha4]
  refine lv_aload_n hx hb dL_law_968 rfl (lv_at hl 3 rfl) ?_
  refine lv_iload_n hx hb dL_law_969 rfl (lv_at hl 0 rfl) ?_
  refine lv_iconst (v := 5) hx hb dL_law_970 (by decide) ?_
  refine lv_iadd hx hb dL_law_971 ?_
  refine va_sld hx hb hX hbl hbA hS (hin 5 (by decide)) dL_law_972 ?_
  rw [ha5]
  refine lv_aload_n hx hb dL_law_973 rfl (lv_at hl 3 rfl) ?_
  refine lv_iload_n hx hb dL_law_974 rfl (lv_at hl 0 rfl) ?_
  refine lv_bipush (v := 6) hx hb dL_law_975 (by decide) ?_
  refine lv_iadd hx hb dL_law_977 ?_
  refine va_sld hx hb hX hbl hbA hS (hin 6 (by decide)) dL_law_978 ?_
  rw [ha6]
  refine dk_Vi (As := [.int a1, .int a2, .int a3, .int a4, .int a5, .int a6]) (rest := []) ⟨hx, hb, hml, hown, hts⟩ (c_X5_suits_0 l g z I a1 a2 a3 a4 a5 a6 hO) (cwV 6 hts gL_law_X5_suits rfl rfl rfl (by decide +kernel) ⟨Nat.le_of_ble_eq_true rfl, Nat.le_of_ble_eq_true rfl⟩) (dk_at0 hW) rfl hK hT hW hS rfl hl.1 rfl (Nat.le_of_ble_eq_true rfl) dL_law_979 ⟨Nat.le_of_ble_eq_true rfl, Nat.le_of_ble_eq_true rfl⟩ (fun v1 I1 H L hp1 hW hS => ?_)
  obtain ⟨hF1, hO, hc1⟩ := hp1
  have hP := dkPP_F hP hF1 rfl
  refine lv_pop hx hb dL_law_982 rfl ?_
  refine lv_aload_n hx hb dL_law_983 rfl (lv_at hl 1 rfl) ?_
  refine lv_aload_n hx hb dL_law_984 rfl (lv_at hl 3 rfl) ?_
  refine lv_iload_n hx hb dL_law_985 rfl (lv_at hl 0 rfl) ?_
  refine lv_iconst (v := 1) hx hb dL_law_986 (by decide) ?_
  refine lv_iadd hx hb dL_law_987 ?_
  refine va_sld hx hb hX hbl hbA hS (hin 1 (by decide)) dL_law_988 ?_
  rw [ha1]
  refine lv_aload_n hx hb dL_law_989 rfl (lv_at hl 3 rfl) ?_
  refine lv_iload_n hx hb dL_law_990 rfl (lv_at hl 0 rfl) ?_
  refine lv_iconst (v := 2) hx hb dL_law_991 (by decide) ?_
  refine lv_iadd hx hb dL_law_992 ?_
  refine va_sld hx hb hX hbl hbA hS (hin 2 (by decide)) dL_law_993 ?_
  rw [ha2]
  refine lv_aload_n hx hb dL_law_994 rfl (lv_at hl 3 rfl) ?_
  refine lv_iload_n hx hb dL_law_995 rfl (lv_at hl 0 rfl) ?_
  refine lv_iconst (v := 3) hx hb dL_law_996 (by decide) ?_
  refine lv_iadd hx hb dL_law_997 ?_
  refine va_sld hx hb hX hbl hbA hS (hin 3 (by decide)) dL_law_998 ?_
  rw [ha3]
  refine lv_aload_n hx hb dL_law_999 rfl (lv_at hl 3 rfl) ?_
  refine lv_iload_n hx hb dL_law_1000 rfl (lv_at hl 0 rfl) ?_
  refine lv_iconst (v := 4) hx hb dL_law_1001 (by decide) ?_
  refine lv_iadd hx hb dL_law_1002 ?_
  refine va_sld hx hb hX hbl hbA hS (hin 4 (by decide)) dL_law_1003 ?_
  rw [ha4]
  refine lv_aload_n hx hb dL_law_1004 rfl (lv_at hl 3 rfl) ?_
  refine lv_iload_n hx hb dL_law_1005 rfl (lv_at hl 0 rfl) ?_
  refine lv_iconst (v := 5) hx hb dL_law_1006 (by decide) ?_
  refine lv_iadd hx hb dL_law_1007 ?_
  refine va_sld hx hb hX hbl hbA hS (hin 5 (by decide)) dL_law_1008 ?_
  rw [ha5]
  refine lv_aload_n hx hb dL_law_1009 rfl (lv_at hl 3 rfl) ?_
  refine lv_iload_n hx hb dL_law_1010 rfl (lv_at hl 0 rfl) ?_
  refine lv_bipush (v := 6) hx hb dL_law_1011 (by decide) ?_
  refine lv_iadd hx hb dL_law_1013 ?_
  refine va_sld hx hb hX hbl hbA hS (hin 6 (by decide)) dL_law_1014 ?_
  rw [ha6]
  refine dk_Vi (As := [.int a1, .int a2, .int a3, .int a4, .int a5, .int a6]) (rest := []) ⟨hx, hb, hml, hown, hts⟩ (c_X6_suits_0 l g z I1 a1 a2 a3 a4 a5 a6 hO) (cwV 6 hts gL_law_X6_suits rfl rfl rfl (by decide +kernel) ⟨Nat.le_of_ble_eq_true rfl, Nat.le_of_ble_eq_true rfl⟩) (dk_at340 hW) rfl hK hT hW hS rfl hl.1 rfl (Nat.le_of_ble_eq_true rfl) dL_law_1015 ⟨Nat.le_of_ble_eq_true rfl, Nat.le_of_ble_eq_true rfl⟩ (fun v2 I2 H L hp2 hW hS => ?_)
  obtain ⟨hF2, hO, hc2⟩ := hp2
  have hP := dkPP_F hP hF2 rfl
  refine lv_pop hx hb dL_law_1018 rfl ?_
  refine lv_goto (tgt := 1302) hx hb dL_law_1019 (by decide) ?_
  exact hend I2 _ _ ls hW ⟨hO, hP, ⟨(dkQQ_F (dkQQ_F hR.1 hF1 rfl) hF2 rfl), (dkTap_k hR.2.1 ((hF2 12 1 rfl).trans (hF1 12 1 rfl)) ((hF2 340 6 rfl).trans (hF1 340 6 rfl)) ((funext fun j => hF2 13 j rfl).trans (funext fun j => hF1 13 j rfl)) ((funext fun j => hF2 345 j rfl).trans (funext fun j => hF1 345 j rfl))), (dkNo_k hR.2.2.1 hO0 ((hF2 25 0 rfl).trans (hF1 25 0 rfl)) ((hF2 25 4 rfl).trans (hF1 25 4 rfl)) ((hF2 25 11 rfl).trans (hF1 25 11 rfl)) ((funext fun j => hF2 32 j rfl).trans (funext fun j => hF1 32 j rfl)) ((hF2 346 0 rfl).trans (hF1 346 0 rfl)) ((hF2 346 4 rfl).trans (hF1 346 4 rfl)) ((hF2 346 5 rfl).trans (hF1 346 5 rfl)) (fun j hj => by rcases (by omega : j = 0 ∨ j = 1 ∨ j = 2 ∨ j = 3 ∨ j = 4 ∨ j = 5) with rfl | rfl | rfl | rfl | rfl | rfl <;> exact (hF2 346 _ rfl).trans (hF1 346 _ rfl))), (dkIm_k (k := 0) hR.2.2.2.1 ((hF2 37 0 rfl).trans (hF1 37 0 rfl)) ((hF2 37 4 rfl).trans (hF1 37 4 rfl)) ((hF2 37 11 rfl).trans (hF1 37 11 rfl)) ((funext fun j => hF2 44 j rfl).trans (funext fun j => hF1 44 j rfl)) ((funext fun j => hF2 350 j rfl).trans (funext fun j => hF1 350 j rfl)) ((funext fun j => hF2 351 j rfl).trans (funext fun j => hF1 351 j rfl))), (dkIm_k (k := 1) hR.2.2.2.2.1 ((hF2 48 0 rfl).trans (hF1 48 0 rfl)) ((hF2 48 4 rfl).trans (hF1 48 4 rfl)) ((hF2 48 11 rfl).trans (hF1 48 11 rfl)) ((funext fun j => hF2 55 j rfl).trans (funext fun j => hF1 55 j rfl)) ((funext fun j => hF2 350 j rfl).trans (funext fun j => hF1 350 j rfl)) ((funext fun j => hF2 351 j rfl).trans (funext fun j => hF1 351 j rfl))), (dkTr_k hR.2.2.2.2.2 ((hF2 338 2 rfl).trans (hF1 338 2 rfl)) ((hF2 340 25 rfl).trans (hF1 340 25 rfl)) ((funext fun j => hF2 339 j rfl).trans (funext fun j => hF1 339 j rfl)) ((funext fun j => hF2 353 j rfl).trans (funext fun j => hF1 353 j rfl)))⟩⟩ hS hl

set_option maxHeartbeats 4000000 in
set_option maxRecDepth 100000 in
theorem k_asleep {p : Program} {e : Env} {s : State} {m : MethodId} {below : List Frame} {meth : Method} {c : Code} (l : Launch) {b L z : Nat} {xs : Nat → Int32} {g : dkG} {Q : State → Prop} {H : Heap} {locs : List Loc} {ls : Array Slot} {I : dkI} {x : Int32} (hz0 : z = s.heap.size) (hx : p.tables.exec = Jvm.exec) (hb : c.code = code) (hml : c.maxLocals = 4) (hown : s.vm.findClass RL = some m.cls) (hts : ∀ w ∈ wsL_law, w.before #[Value.ref b] s = true) (hX : va_X b L xs s s.heap) (hbl : b < s.heap.size) (hL : L ≤ 448) (hx0 : 0 ≤ x.toInt) (hx1 : x.toInt + 7 ≤ (L : Int)) (hK : dkK g s) (hT : dkST z s) (hW : dkW g z I H) (hI : dkInv I) (hS : va_S (dkA z) s.heap H locs) (hl : lv_has ls 4 [(3, .int x), (2, .ref (z + 340)), (1, .ref (z + 0)), (0, .ref b)]) (hend : ∀ (I : dkI) (H : Heap) (locs : List Loc) (ls : Array Slot), dkW g z I H → dkInv I → va_S (dkA z) s.heap H locs → lv_has ls 4 [(3, .int x), (2, .ref (z + 340)), (1, .ref (z + 0)), (0, .ref b)] → W p l e room_1 s m #[Value.ref b] below meth c H locs (0 + 1 + 339 + 1 + 13) (0 + 10 + 2701 + 26 + 2055) Q (F0 m 1302 ls [])) : W p l e room_1 s m #[Value.ref b] below meth c H locs (0 + 1 + 339 + 1 + 13) (0 + 10 + 2701 + 26 + 2055) Q (F0 m 1022 ls []) := by
  have hbA : ¬ dkA z b := by unfold dkA; omega
  obtain ⟨hO, hP, hR⟩ := hI
  have hO0 := hO
  have hP0 := hP
  have hin : ∀ k : Nat, k < 7 → vp_in (x + Int32.ofNat k) L := fun k hk => dk_lawIn hx0 hx1 hL hk
  obtain ⟨a1, ha1⟩ : ∃ y : Int32, xs (Int32.toNatClampNeg (x + 1)) = y := ⟨_, rfl⟩
  obtain ⟨a2, ha2⟩ : ∃ y : Int32, xs (Int32.toNatClampNeg (x + 2)) = y := ⟨_, rfl⟩
  obtain ⟨a3, ha3⟩ : ∃ y : Int32, xs (Int32.toNatClampNeg (x + 3)) = y := ⟨_, rfl⟩
  refine lv_aload_n hx hb dL_law_1022 rfl (lv_at hl 2 rfl) ?_
  refine lv_aload_n hx hb dL_law_1023 rfl (lv_at hl 3 rfl) ?_
  refine lv_iload_n hx hb dL_law_1024 rfl (lv_at hl 0 rfl) ?_
  refine lv_iconst (v := 1) hx hb dL_law_1025 (by decide) ?_
  refine lv_iadd hx hb dL_law_1026 ?_
  refine va_sld hx hb hX hbl hbA hS (hin 1 (by decide)) dL_law_1027 ?_
  rw [ha1]
  refine lv_aload_n hx hb dL_law_1028 rfl (lv_at hl 3 rfl) ?_
  refine lv_iload_n hx hb dL_law_1029 rfl (lv_at hl 0 rfl) ?_
  refine lv_iconst (v := 2) hx hb dL_law_1030 (by decide) ?_
  refine lv_iadd hx hb dL_law_1031 ?_
  refine va_sld hx hb hX hbl hbA hS (hin 2 (by decide)) dL_law_1032 ?_
  rw [ha2]
  refine lv_aload_n hx hb dL_law_1033 rfl (lv_at hl 3 rfl) ?_
  refine lv_iload_n hx hb dL_law_1034 rfl (lv_at hl 0 rfl) ?_
  refine lv_iconst (v := 3) hx hb dL_law_1035 (by decide) ?_
  refine lv_iadd hx hb dL_law_1036 ?_
  refine va_sld hx hb hX hbl hbA hS (hin 3 (by decide)) dL_law_1037 ?_
  rw [ha3]
  refine dk_Vi (As := [.int a1, .int a2, .int a3]) (rest := []) ⟨hx, hb, hml, hown, hts⟩ (c_X5_asleep_0 l g z I a1 a2 a3 hO) (cwV 3 hts gL_law_X5_asleep rfl rfl rfl (by decide +kernel) ⟨Nat.le_of_ble_eq_true rfl, Nat.le_of_ble_eq_true rfl⟩) (dk_at0 hW) rfl hK hT hW hS rfl hl.1 rfl (Nat.le_of_ble_eq_true rfl) dL_law_1038 ⟨Nat.le_of_ble_eq_true rfl, Nat.le_of_ble_eq_true rfl⟩ (fun v1 I1 H L hp1 hW hS => ?_)
  obtain ⟨hF1, hO, hc1⟩ := hp1
  have hP := dkPP_F hP hF1 rfl
  refine lv_pop hx hb dL_law_1041 rfl ?_
  refine lv_aload_n hx hb dL_law_1042 rfl (lv_at hl 1 rfl) ?_
  refine lv_aload_n hx hb dL_law_1043 rfl (lv_at hl 3 rfl) ?_
  refine lv_iload_n hx hb dL_law_1044 rfl (lv_at hl 0 rfl) ?_
  refine lv_iconst (v := 1) hx hb dL_law_1045 (by decide) ?_
  refine lv_iadd hx hb dL_law_1046 ?_
  refine va_sld hx hb hX hbl hbA hS (hin 1 (by decide)) dL_law_1047 ?_
  rw [ha1]
  refine lv_aload_n hx hb dL_law_1048 rfl (lv_at hl 3 rfl) ?_
  refine lv_iload_n hx hb dL_law_1049 rfl (lv_at hl 0 rfl) ?_
  refine lv_iconst (v := 2) hx hb dL_law_1050 (by decide) ?_
  refine lv_iadd hx hb dL_law_1051 ?_
  refine va_sld hx hb hX hbl hbA hS (hin 2 (by decide)) dL_law_1052 ?_
  rw [ha2]
  refine lv_aload_n hx hb dL_law_1053 rfl (lv_at hl 3 rfl) ?_
  refine lv_iload_n hx hb dL_law_1054 rfl (lv_at hl 0 rfl) ?_
  refine lv_iconst (v := 3) hx hb dL_law_1055 (by decide) ?_
  refine lv_iadd hx hb dL_law_1056 ?_
  refine va_sld hx hb hX hbl hbA hS (hin 3 (by decide)) dL_law_1057 ?_
  rw [ha3]
  refine dk_Vi (As := [.int a1, .int a2, .int a3]) (rest := []) ⟨hx, hb, hml, hown, hts⟩ (c_X6_asleep_0 l g z I1 a1 a2 a3 hO) (cwV 3 hts gL_law_X6_asleep rfl rfl rfl (by decide +kernel) ⟨Nat.le_of_ble_eq_true rfl, Nat.le_of_ble_eq_true rfl⟩) (dk_at340 hW) rfl hK hT hW hS rfl hl.1 rfl (Nat.le_of_ble_eq_true rfl) dL_law_1058 ⟨Nat.le_of_ble_eq_true rfl, Nat.le_of_ble_eq_true rfl⟩ (fun v2 I2 H L hp2 hW hS => ?_)
  obtain ⟨hF2, hO, hc2⟩ := hp2
  have hP := dkPP_F hP hF2 rfl
  refine lv_pop hx hb dL_law_1061 rfl ?_
  refine lv_goto (tgt := 1302) hx hb dL_law_1062 (by decide) ?_
  exact hend I2 _ _ ls hW ⟨hO, hP, ⟨(dkQQ_F (dkQQ_F hR.1 hF1 rfl) hF2 rfl), (dkTap_k hR.2.1 ((hF2 12 1 rfl).trans (hF1 12 1 rfl)) ((hF2 340 6 rfl).trans (hF1 340 6 rfl)) ((funext fun j => hF2 13 j rfl).trans (funext fun j => hF1 13 j rfl)) ((funext fun j => hF2 345 j rfl).trans (funext fun j => hF1 345 j rfl))), (dkNo_k hR.2.2.1 hO0 ((hF2 25 0 rfl).trans (hF1 25 0 rfl)) ((hF2 25 4 rfl).trans (hF1 25 4 rfl)) ((hF2 25 11 rfl).trans (hF1 25 11 rfl)) ((funext fun j => hF2 32 j rfl).trans (funext fun j => hF1 32 j rfl)) ((hF2 346 0 rfl).trans (hF1 346 0 rfl)) ((hF2 346 4 rfl).trans (hF1 346 4 rfl)) ((hF2 346 5 rfl).trans (hF1 346 5 rfl)) (fun j hj => by rcases (by omega : j = 0 ∨ j = 1 ∨ j = 2 ∨ j = 3 ∨ j = 4 ∨ j = 5) with rfl | rfl | rfl | rfl | rfl | rfl <;> exact (hF2 346 _ rfl).trans (hF1 346 _ rfl))), (dkIm_k (k := 0) hR.2.2.2.1 ((hF2 37 0 rfl).trans (hF1 37 0 rfl)) ((hF2 37 4 rfl).trans (hF1 37 4 rfl)) ((hF2 37 11 rfl).trans (hF1 37 11 rfl)) ((funext fun j => hF2 44 j rfl).trans (funext fun j => hF1 44 j rfl)) ((funext fun j => hF2 350 j rfl).trans (funext fun j => hF1 350 j rfl)) ((funext fun j => hF2 351 j rfl).trans (funext fun j => hF1 351 j rfl))), (dkIm_k (k := 1) hR.2.2.2.2.1 ((hF2 48 0 rfl).trans (hF1 48 0 rfl)) ((hF2 48 4 rfl).trans (hF1 48 4 rfl)) ((hF2 48 11 rfl).trans (hF1 48 11 rfl)) ((funext fun j => hF2 55 j rfl).trans (funext fun j => hF1 55 j rfl)) ((funext fun j => hF2 350 j rfl).trans (funext fun j => hF1 350 j rfl)) ((funext fun j => hF2 351 j rfl).trans (funext fun j => hF1 351 j rfl))), (dkTr_k hR.2.2.2.2.2 ((hF2 338 2 rfl).trans (hF1 338 2 rfl)) ((hF2 340 25 rfl).trans (hF1 340 25 rfl)) ((funext fun j => hF2 339 j rfl).trans (funext fun j => hF1 339 j rfl)) ((funext fun j => hF2 353 j rfl).trans (funext fun j => hF1 353 j rfl)))⟩⟩ hS hl

set_option maxHeartbeats 4000000 in
set_option maxRecDepth 100000 in
theorem k_drawn {p : Program} {e : Env} {s : State} {m : MethodId} {below : List Frame} {meth : Method} {c : Code} (l : Launch) {b L z : Nat} {xs : Nat → Int32} {g : dkG} {Q : State → Prop} {H : Heap} {locs : List Loc} {ls : Array Slot} {I : dkI} {x : Int32} (hz0 : z = s.heap.size) (hx : p.tables.exec = Jvm.exec) (hb : c.code = code) (hml : c.maxLocals = 4) (hown : s.vm.findClass RL = some m.cls) (hts : ∀ w ∈ wsL_law, w.before #[Value.ref b] s = true) (hX : va_X b L xs s s.heap) (hbl : b < s.heap.size) (hL : L ≤ 448) (hx0 : 0 ≤ x.toInt) (hx1 : x.toInt + 7 ≤ (L : Int)) (hK : dkK g s) (hT : dkST z s) (hW : dkW g z I H) (hI : dkInv I) (hS : va_S (dkA z) s.heap H locs) (hl : lv_has ls 4 [(3, .int x), (2, .ref (z + 340)), (1, .ref (z + 0)), (0, .ref b)]) (hend : ∀ (I : dkI) (H : Heap) (locs : List Loc) (ls : Array Slot), dkW g z I H → dkInv I → va_S (dkA z) s.heap H locs → lv_has ls 4 [(3, .int x), (2, .ref (z + 340)), (1, .ref (z + 0)), (0, .ref b)] → W p l e room_1 s m #[Value.ref b] below meth c H locs (0 + 1 + 339 + 1 + 13) (0 + 10 + 2701 + 26 + 2055) Q (F0 m 1302 ls [])) : W p l e room_1 s m #[Value.ref b] below meth c H locs (0 + 1 + 339 + 1 + 13) (0 + 10 + 2701 + 26 + 2055) Q (F0 m 1065 ls []) := by
  have hbA : ¬ dkA z b := by unfold dkA; omega
  obtain ⟨hO, hP, hR⟩ := hI
  have hO0 := hO
  have hP0 := hP
  have hin : ∀ k : Nat, k < 7 → vp_in (x + Int32.ofNat k) L := fun k hk => dk_lawIn hx0 hx1 hL hk
  obtain ⟨a1, ha1⟩ : ∃ y : Int32, xs (Int32.toNatClampNeg (x + 1)) = y := ⟨_, rfl⟩
  obtain ⟨a2, ha2⟩ : ∃ y : Int32, xs (Int32.toNatClampNeg (x + 2)) = y := ⟨_, rfl⟩
  obtain ⟨a3, ha3⟩ : ∃ y : Int32, xs (Int32.toNatClampNeg (x + 3)) = y := ⟨_, rfl⟩
  refine lv_aload_n hx hb dL_law_1065 rfl (lv_at hl 2 rfl) ?_
  refine lv_aload_n hx hb dL_law_1066 rfl (lv_at hl 3 rfl) ?_
  refine lv_iload_n hx hb dL_law_1067 rfl (lv_at hl 0 rfl) ?_
  refine lv_iconst (v := 1) hx hb dL_law_1068 (by decide) ?_
  refine lv_iadd hx hb dL_law_1069 ?_
  refine va_sld hx hb hX hbl hbA hS (hin 1 (by decide)) dL_law_1070 ?_
  rw [ha1]
  refine lv_aload_n hx hb dL_law_1071 rfl (lv_at hl 3 rfl) ?_
  refine lv_iload_n hx hb dL_law_1072 rfl (lv_at hl 0 rfl) ?_
  refine lv_iconst (v := 2) hx hb dL_law_1073 (by decide) ?_
  refine lv_iadd hx hb dL_law_1074 ?_
  refine va_sld hx hb hX hbl hbA hS (hin 2 (by decide)) dL_law_1075 ?_
  rw [ha2]
  refine lv_aload_n hx hb dL_law_1076 rfl (lv_at hl 3 rfl) ?_
  refine lv_iload_n hx hb dL_law_1077 rfl (lv_at hl 0 rfl) ?_
  refine lv_iconst (v := 3) hx hb dL_law_1078 (by decide) ?_
  refine lv_iadd hx hb dL_law_1079 ?_
  refine va_sld hx hb hX hbl hbA hS (hin 3 (by decide)) dL_law_1080 ?_
  rw [ha3]
  refine dk_Vi (As := [.int a1, .int a2, .int a3]) (rest := []) ⟨hx, hb, hml, hown, hts⟩ (c_X5_drawn_0 l g z I a1 a2 a3 hO) (cwV 3 hts gL_law_X5_drawn rfl rfl rfl (by decide +kernel) ⟨Nat.le_of_ble_eq_true rfl, Nat.le_of_ble_eq_true rfl⟩) (dk_at0 hW) rfl hK hT hW hS rfl hl.1 rfl (Nat.le_of_ble_eq_true rfl) dL_law_1081 ⟨Nat.le_of_ble_eq_true rfl, Nat.le_of_ble_eq_true rfl⟩ (fun v1 I1 H L hp1 hW hS => ?_)
  obtain ⟨hF1, hO, hc1⟩ := hp1
  have hP := dkPP_F hP hF1 rfl
  refine lv_pop hx hb dL_law_1084 rfl ?_
  refine lv_aload_n hx hb dL_law_1085 rfl (lv_at hl 1 rfl) ?_
  refine lv_aload_n hx hb dL_law_1086 rfl (lv_at hl 3 rfl) ?_
  refine lv_iload_n hx hb dL_law_1087 rfl (lv_at hl 0 rfl) ?_
  refine lv_iconst (v := 1) hx hb dL_law_1088 (by decide) ?_
  refine lv_iadd hx hb dL_law_1089 ?_
  refine va_sld hx hb hX hbl hbA hS (hin 1 (by decide)) dL_law_1090 ?_
  rw [ha1]
  refine lv_aload_n hx hb dL_law_1091 rfl (lv_at hl 3 rfl) ?_
  refine lv_iload_n hx hb dL_law_1092 rfl (lv_at hl 0 rfl) ?_
  refine lv_iconst (v := 2) hx hb dL_law_1093 (by decide) ?_
  refine lv_iadd hx hb dL_law_1094 ?_
  refine va_sld hx hb hX hbl hbA hS (hin 2 (by decide)) dL_law_1095 ?_
  rw [ha2]
  refine lv_aload_n hx hb dL_law_1096 rfl (lv_at hl 3 rfl) ?_
  refine lv_iload_n hx hb dL_law_1097 rfl (lv_at hl 0 rfl) ?_
  refine lv_iconst (v := 3) hx hb dL_law_1098 (by decide) ?_
  refine lv_iadd hx hb dL_law_1099 ?_
  refine va_sld hx hb hX hbl hbA hS (hin 3 (by decide)) dL_law_1100 ?_
  rw [ha3]
  rcases hP.1 with h9 | h9
  ·
    refine dk_Vi (As := [.int a1, .int a2, .int a3]) (rest := []) ⟨hx, hb, hml, hown, hts⟩ (c_X6_drawn_0 l g z I1 a1 a2 a3 h9 hO) (cwV 3 hts gL_law_X6_drawn rfl rfl rfl (by decide +kernel) ⟨Nat.le_of_ble_eq_true rfl, Nat.le_of_ble_eq_true rfl⟩) (dk_at340 hW) rfl hK hT hW hS rfl hl.1 rfl (Nat.le_of_ble_eq_true rfl) dL_law_1101 ⟨Nat.le_of_ble_eq_true rfl, Nat.le_of_ble_eq_true rfl⟩ (fun v2 I2 H L hp2 hW hS => ?_)
    obtain ⟨hF2, hO, hc2⟩ := hp2
    have hP := dkPP_F hP hF2 rfl
    refine lv_pop hx hb dL_law_1104 rfl ?_
    refine lv_goto (tgt := 1302) hx hb dL_law_1105 (by decide) ?_
    exact hend I2 _ _ ls hW ⟨hO, hP, ⟨(dkQQ_F (dkQQ_F hR.1 hF1 rfl) hF2 rfl), (dkTap_k hR.2.1 ((hF2 12 1 rfl).trans (hF1 12 1 rfl)) ((hF2 340 6 rfl).trans (hF1 340 6 rfl)) ((funext fun j => hF2 13 j rfl).trans (funext fun j => hF1 13 j rfl)) ((funext fun j => hF2 345 j rfl).trans (funext fun j => hF1 345 j rfl))), (dkNo_k hR.2.2.1 hO0 ((hF2 25 0 rfl).trans (hF1 25 0 rfl)) ((hF2 25 4 rfl).trans (hF1 25 4 rfl)) ((hF2 25 11 rfl).trans (hF1 25 11 rfl)) ((funext fun j => hF2 32 j rfl).trans (funext fun j => hF1 32 j rfl)) ((hF2 346 0 rfl).trans (hF1 346 0 rfl)) ((hF2 346 4 rfl).trans (hF1 346 4 rfl)) ((hF2 346 5 rfl).trans (hF1 346 5 rfl)) (fun j hj => by rcases (by omega : j = 0 ∨ j = 1 ∨ j = 2 ∨ j = 3 ∨ j = 4 ∨ j = 5) with rfl | rfl | rfl | rfl | rfl | rfl <;> exact (hF2 346 _ rfl).trans (hF1 346 _ rfl))), (dkIm_k (k := 0) hR.2.2.2.1 ((hF2 37 0 rfl).trans (hF1 37 0 rfl)) ((hF2 37 4 rfl).trans (hF1 37 4 rfl)) ((hF2 37 11 rfl).trans (hF1 37 11 rfl)) ((funext fun j => hF2 44 j rfl).trans (funext fun j => hF1 44 j rfl)) ((funext fun j => hF2 350 j rfl).trans (funext fun j => hF1 350 j rfl)) ((funext fun j => hF2 351 j rfl).trans (funext fun j => hF1 351 j rfl))), (dkIm_k (k := 1) hR.2.2.2.2.1 ((hF2 48 0 rfl).trans (hF1 48 0 rfl)) ((hF2 48 4 rfl).trans (hF1 48 4 rfl)) ((hF2 48 11 rfl).trans (hF1 48 11 rfl)) ((funext fun j => hF2 55 j rfl).trans (funext fun j => hF1 55 j rfl)) ((funext fun j => hF2 350 j rfl).trans (funext fun j => hF1 350 j rfl)) ((funext fun j => hF2 351 j rfl).trans (funext fun j => hF1 351 j rfl))), (dkTr_k hR.2.2.2.2.2 ((hF2 338 2 rfl).trans (hF1 338 2 rfl)) ((hF2 340 25 rfl).trans (hF1 340 25 rfl)) ((funext fun j => hF2 339 j rfl).trans (funext fun j => hF1 339 j rfl)) ((funext fun j => hF2 353 j rfl).trans (funext fun j => hF1 353 j rfl)))⟩⟩ hS hl
  ·
    refine dk_Vi (As := [.int a1, .int a2, .int a3]) (rest := []) ⟨hx, hb, hml, hown, hts⟩ (c_X6_drawn_1 l g z I1 a1 a2 a3 h9 hO) (cwV 3 hts gL_law_X6_drawn rfl rfl rfl (by decide +kernel) ⟨Nat.le_of_ble_eq_true rfl, Nat.le_of_ble_eq_true rfl⟩) (dk_at340 hW) rfl hK hT hW hS rfl hl.1 rfl (Nat.le_of_ble_eq_true rfl) dL_law_1101 ⟨Nat.le_of_ble_eq_true rfl, Nat.le_of_ble_eq_true rfl⟩ (fun v2 I2 H L hp2 hW hS => ?_)
    obtain ⟨hF2, hO, hc2⟩ := hp2
    have hP := dkPP_F hP hF2 rfl
    refine lv_pop hx hb dL_law_1104 rfl ?_
    refine lv_goto (tgt := 1302) hx hb dL_law_1105 (by decide) ?_
    exact hend I2 _ _ ls hW ⟨hO, hP, ⟨(dkQQ_F (dkQQ_F hR.1 hF1 rfl) hF2 rfl), (dkTap_k hR.2.1 ((hF2 12 1 rfl).trans (hF1 12 1 rfl)) ((hF2 340 6 rfl).trans (hF1 340 6 rfl)) ((funext fun j => hF2 13 j rfl).trans (funext fun j => hF1 13 j rfl)) ((funext fun j => hF2 345 j rfl).trans (funext fun j => hF1 345 j rfl))), (dkNo_k hR.2.2.1 hO0 ((hF2 25 0 rfl).trans (hF1 25 0 rfl)) ((hF2 25 4 rfl).trans (hF1 25 4 rfl)) ((hF2 25 11 rfl).trans (hF1 25 11 rfl)) ((funext fun j => hF2 32 j rfl).trans (funext fun j => hF1 32 j rfl)) ((hF2 346 0 rfl).trans (hF1 346 0 rfl)) ((hF2 346 4 rfl).trans (hF1 346 4 rfl)) ((hF2 346 5 rfl).trans (hF1 346 5 rfl)) (fun j hj => by rcases (by omega : j = 0 ∨ j = 1 ∨ j = 2 ∨ j = 3 ∨ j = 4 ∨ j = 5) with rfl | rfl | rfl | rfl | rfl | rfl <;> exact (hF2 346 _ rfl).trans (hF1 346 _ rfl))), (dkIm_k (k := 0) hR.2.2.2.1 ((hF2 37 0 rfl).trans (hF1 37 0 rfl)) ((hF2 37 4 rfl).trans (hF1 37 4 rfl)) ((hF2 37 11 rfl).trans (hF1 37 11 rfl)) ((funext fun j => hF2 44 j rfl).trans (funext fun j => hF1 44 j rfl)) ((funext fun j => hF2 350 j rfl).trans (funext fun j => hF1 350 j rfl)) ((funext fun j => hF2 351 j rfl).trans (funext fun j => hF1 351 j rfl))), (dkIm_k (k := 1) hR.2.2.2.2.1 ((hF2 48 0 rfl).trans (hF1 48 0 rfl)) ((hF2 48 4 rfl).trans (hF1 48 4 rfl)) ((hF2 48 11 rfl).trans (hF1 48 11 rfl)) ((funext fun j => hF2 55 j rfl).trans (funext fun j => hF1 55 j rfl)) ((funext fun j => hF2 350 j rfl).trans (funext fun j => hF1 350 j rfl)) ((funext fun j => hF2 351 j rfl).trans (funext fun j => hF1 351 j rfl))), (dkTr_k hR.2.2.2.2.2 ((hF2 338 2 rfl).trans (hF1 338 2 rfl)) ((hF2 340 25 rfl).trans (hF1 340 25 rfl)) ((funext fun j => hF2 339 j rfl).trans (funext fun j => hF1 339 j rfl)) ((funext fun j => hF2 353 j rfl).trans (funext fun j => hF1 353 j rfl)))⟩⟩ hS hl

set_option maxHeartbeats 4000000 in
set_option maxRecDepth 100000 in
theorem k_image {p : Program} {e : Env} {s : State} {m : MethodId} {below : List Frame} {meth : Method} {c : Code} (l : Launch) {b L z : Nat} {xs : Nat → Int32} {g : dkG} {Q : State → Prop} {H : Heap} {locs : List Loc} {ls : Array Slot} {I : dkI} {x : Int32} (hz0 : z = s.heap.size) (hx : p.tables.exec = Jvm.exec) (hb : c.code = code) (hml : c.maxLocals = 4) (hown : s.vm.findClass RL = some m.cls) (hts : ∀ w ∈ wsL_law, w.before #[Value.ref b] s = true) (hX : va_X b L xs s s.heap) (hbl : b < s.heap.size) (hL : L ≤ 448) (hx0 : 0 ≤ x.toInt) (hx1 : x.toInt + 7 ≤ (L : Int)) (hK : dkK g s) (hT : dkST z s) (hW : dkW g z I H) (hI : dkInv I) (hS : va_S (dkA z) s.heap H locs) (hl : lv_has ls 4 [(3, .int x), (2, .ref (z + 340)), (1, .ref (z + 0)), (0, .ref b)]) (hend : ∀ (I : dkI) (H : Heap) (locs : List Loc) (ls : Array Slot), dkW g z I H → dkInv I → va_S (dkA z) s.heap H locs → lv_has ls 4 [(3, .int x), (2, .ref (z + 340)), (1, .ref (z + 0)), (0, .ref b)] → W p l e room_1 s m #[Value.ref b] below meth c H locs (0 + 1 + 339 + 1 + 13) (0 + 10 + 2701 + 26 + 2055) Q (F0 m 1302 ls [])) : W p l e room_1 s m #[Value.ref b] below meth c H locs (0 + 1 + 339 + 1 + 13) (0 + 10 + 2701 + 26 + 2055) Q (F0 m 1108 ls []) := by
  have hbA : ¬ dkA z b := by unfold dkA; omega
  obtain ⟨hO, hP, hR⟩ := hI
  have hO0 := hO
  have hP0 := hP
  have hin : ∀ k : Nat, k < 7 → vp_in (x + Int32.ofNat k) L := fun k hk => dk_lawIn hx0 hx1 hL hk
  obtain ⟨a1, ha1⟩ : ∃ y : Int32, xs (Int32.toNatClampNeg (x + 1)) = y := ⟨_, rfl⟩
  rcases dkN_cut (-1) (0) rfl (dkN_top a1) with h1 | h1
  ·
    refine lv_aload_n hx hb dL_law_1108 rfl (lv_at hl 2 rfl) ?_
    refine lv_aload_n hx hb dL_law_1109 rfl (lv_at hl 3 rfl) ?_
    refine lv_iload_n hx hb dL_law_1110 rfl (lv_at hl 0 rfl) ?_
    refine lv_iconst (v := 1) hx hb dL_law_1111 (by decide) ?_
    refine lv_iadd hx hb dL_law_1112 ?_
    refine va_sld hx hb hX hbl hbA hS (hin 1 (by decide)) dL_law_1113 ?_
    rw [ha1]
    refine dk_Vi (As := [.int a1]) (rest := []) ⟨hx, hb, hml, hown, hts⟩ (fx_X5_image_1 l g z I a1 (dkN_sub h1 rfl) hO) (cwV 1 hts gL_law_X5_image rfl rfl rfl (by decide +kernel) ⟨Nat.le_of_ble_eq_true rfl, Nat.le_of_ble_eq_true rfl⟩) (dk_at0 hW) rfl hK hT hW hS rfl hl.1 rfl (Nat.le_of_ble_eq_true rfl) dL_law_1114 ⟨Nat.le_of_ble_eq_true rfl, Nat.le_of_ble_eq_true rfl⟩ (fun v1 I1 H L hp1 hW hS => ?_)
    obtain ⟨hF1, hO, hc1⟩ := hp1
    have hP := dkPP_F hP hF1 rfl
    refine lv_pop hx hb dL_law_1117 rfl ?_
    refine lv_aload_n hx hb dL_law_1118 rfl (lv_at hl 1 rfl) ?_
    refine lv_aload_n hx hb dL_law_1119 rfl (lv_at hl 3 rfl) ?_
    refine lv_iload_n hx hb dL_law_1120 rfl (lv_at hl 0 rfl) ?_
    refine lv_iconst (v := 1) hx hb dL_law_1121 (by decide) ?_
    refine lv_iadd hx hb dL_law_1122 ?_
    refine va_sld hx hb hX hbl hbA hS (hin 1 (by decide)) dL_law_1123 ?_
    rw [ha1]
    refine dk_Vi (As := [.int a1]) (rest := []) ⟨hx, hb, hml, hown, hts⟩ (fx_X6_image_1 l g z I1 a1 (dkN_sub h1 rfl) hO hP) (cwV 1 hts gL_law_X6_image rfl rfl rfl (by decide +kernel) ⟨Nat.le_of_ble_eq_true rfl, Nat.le_of_ble_eq_true rfl⟩) (dk_at340 hW) rfl hK hT hW hS rfl hl.1 rfl (Nat.le_of_ble_eq_true rfl) dL_law_1124 ⟨Nat.le_of_ble_eq_true rfl, Nat.le_of_ble_eq_true rfl⟩ (fun v2 I2 H L hp2 hW hS => ?_)
    obtain ⟨hF2, hO, hP, hc2⟩ := hp2
    refine lv_pop hx hb dL_law_1127 rfl ?_
    refine lv_goto (tgt := 1302) hx hb dL_law_1128 (by decide) ?_
    exact hend I2 _ _ ls hW ⟨hO, hP, ⟨(dkQQ_F (dkQQ_F hR.1 hF1 rfl) hF2 rfl), (dkTap_k hR.2.1 ((hF2 12 1 rfl).trans (hF1 12 1 rfl)) ((hF2 340 6 rfl).trans (hF1 340 6 rfl)) ((funext fun j => hF2 13 j rfl).trans (funext fun j => hF1 13 j rfl)) ((funext fun j => hF2 345 j rfl).trans (funext fun j => hF1 345 j rfl))), (dkNo_k hR.2.2.1 hO0 ((hF2 25 0 rfl).trans (hF1 25 0 rfl)) ((hF2 25 4 rfl).trans (hF1 25 4 rfl)) ((hF2 25 11 rfl).trans (hF1 25 11 rfl)) ((funext fun j => hF2 32 j rfl).trans (funext fun j => hF1 32 j rfl)) ((hF2 346 0 rfl).trans (hF1 346 0 rfl)) ((hF2 346 4 rfl).trans (hF1 346 4 rfl)) ((hF2 346 5 rfl).trans (hF1 346 5 rfl)) (fun j hj => by rcases (by omega : j = 0 ∨ j = 1 ∨ j = 2 ∨ j = 3 ∨ j = 4 ∨ j = 5) with rfl | rfl | rfl | rfl | rfl | rfl <;> exact (hF2 346 _ rfl).trans (hF1 346 _ rfl))), (dkr_image0 hR.2.2.1 hR.2.2.2.1 hR.2.2.2.2.1 hO0 hF1 hF2 hc1 hc2).2.1, (dkr_image0 hR.2.2.1 hR.2.2.2.1 hR.2.2.2.2.1 hO0 hF1 hF2 hc1 hc2).2.2, (dkTr_k hR.2.2.2.2.2 ((hF2 338 2 rfl).trans (hF1 338 2 rfl)) ((hF2 340 25 rfl).trans (hF1 340 25 rfl)) ((funext fun j => hF2 339 j rfl).trans (funext fun j => hF1 339 j rfl)) ((funext fun j => hF2 353 j rfl).trans (funext fun j => hF1 353 j rfl)))⟩⟩ hS hl
  ·
    rcases dkN_cut (0) (1) rfl h1 with h2 | h2
    ·
      refine lv_aload_n hx hb dL_law_1108 rfl (lv_at hl 2 rfl) ?_
      refine lv_aload_n hx hb dL_law_1109 rfl (lv_at hl 3 rfl) ?_
      refine lv_iload_n hx hb dL_law_1110 rfl (lv_at hl 0 rfl) ?_
      refine lv_iconst (v := 1) hx hb dL_law_1111 (by decide) ?_
      refine lv_iadd hx hb dL_law_1112 ?_
      refine va_sld hx hb hX hbl hbA hS (hin 1 (by decide)) dL_law_1113 ?_
      rw [ha1]
      refine dk_Vi (As := [.int a1]) (rest := []) ⟨hx, hb, hml, hown, hts⟩ (fx_X5_image_2 l g z I a1 (dkN_sub h2 rfl) hO) (cwV 1 hts gL_law_X5_image rfl rfl rfl (by decide +kernel) ⟨Nat.le_of_ble_eq_true rfl, Nat.le_of_ble_eq_true rfl⟩) (dk_at0 hW) rfl hK hT hW hS rfl hl.1 rfl (Nat.le_of_ble_eq_true rfl) dL_law_1114 ⟨Nat.le_of_ble_eq_true rfl, Nat.le_of_ble_eq_true rfl⟩ (fun v1 I1 H L hp1 hW hS => ?_)
      obtain ⟨hF1, hO, hc1⟩ := hp1
      have hP := dkPP_F hP hF1 rfl
      refine lv_pop hx hb dL_law_1117 rfl ?_
      refine lv_aload_n hx hb dL_law_1118 rfl (lv_at hl 1 rfl) ?_
      refine lv_aload_n hx hb dL_law_1119 rfl (lv_at hl 3 rfl) ?_
      refine lv_iload_n hx hb dL_law_1120 rfl (lv_at hl 0 rfl) ?_
      refine lv_iconst (v := 1) hx hb dL_law_1121 (by decide) ?_
      refine lv_iadd hx hb dL_law_1122 ?_
      refine va_sld hx hb hX hbl hbA hS (hin 1 (by decide)) dL_law_1123 ?_
      rw [ha1]
      refine dk_Vi (As := [.int a1]) (rest := []) ⟨hx, hb, hml, hown, hts⟩ (fx_X6_image_2 l g z I1 a1 (dkN_sub h2 rfl) hO hP) (cwV 1 hts gL_law_X6_image rfl rfl rfl (by decide +kernel) ⟨Nat.le_of_ble_eq_true rfl, Nat.le_of_ble_eq_true rfl⟩) (dk_at340 hW) rfl hK hT hW hS rfl hl.1 rfl (Nat.le_of_ble_eq_true rfl) dL_law_1124 ⟨Nat.le_of_ble_eq_true rfl, Nat.le_of_ble_eq_true rfl⟩ (fun v2 I2 H L hp2 hW hS => ?_)
      obtain ⟨hF2, hO, hP, hc2⟩ := hp2
      refine lv_pop hx hb dL_law_1127 rfl ?_
      refine lv_goto (tgt := 1302) hx hb dL_law_1128 (by decide) ?_
      exact hend I2 _ _ ls hW ⟨hO, hP, ⟨(dkQQ_F (dkQQ_F hR.1 hF1 rfl) hF2 rfl), (dkTap_k hR.2.1 ((hF2 12 1 rfl).trans (hF1 12 1 rfl)) ((hF2 340 6 rfl).trans (hF1 340 6 rfl)) ((funext fun j => hF2 13 j rfl).trans (funext fun j => hF1 13 j rfl)) ((funext fun j => hF2 345 j rfl).trans (funext fun j => hF1 345 j rfl))), (dkNo_k hR.2.2.1 hO0 ((hF2 25 0 rfl).trans (hF1 25 0 rfl)) ((hF2 25 4 rfl).trans (hF1 25 4 rfl)) ((hF2 25 11 rfl).trans (hF1 25 11 rfl)) ((funext fun j => hF2 32 j rfl).trans (funext fun j => hF1 32 j rfl)) ((hF2 346 0 rfl).trans (hF1 346 0 rfl)) ((hF2 346 4 rfl).trans (hF1 346 4 rfl)) ((hF2 346 5 rfl).trans (hF1 346 5 rfl)) (fun j hj => by rcases (by omega : j = 0 ∨ j = 1 ∨ j = 2 ∨ j = 3 ∨ j = 4 ∨ j = 5) with rfl | rfl | rfl | rfl | rfl | rfl <;> exact (hF2 346 _ rfl).trans (hF1 346 _ rfl))), (dkr_image1 (a1 := 0) hR.2.2.1 hR.2.2.2.1 hR.2.2.2.2.1 hO0 hF1 hF2 hc1 hc2).2.1, (dkr_image1 (a1 := 0) hR.2.2.1 hR.2.2.2.1 hR.2.2.2.2.1 hO0 hF1 hF2 hc1 hc2).2.2, (dkTr_k hR.2.2.2.2.2 ((hF2 338 2 rfl).trans (hF1 338 2 rfl)) ((hF2 340 25 rfl).trans (hF1 340 25 rfl)) ((funext fun j => hF2 339 j rfl).trans (funext fun j => hF1 339 j rfl)) ((funext fun j => hF2 353 j rfl).trans (funext fun j => hF1 353 j rfl)))⟩⟩ hS hl
    ·
      rcases dkN_cut (1) (2) rfl h2 with h3 | h3
      ·
        refine lv_aload_n hx hb dL_law_1108 rfl (lv_at hl 2 rfl) ?_
        refine lv_aload_n hx hb dL_law_1109 rfl (lv_at hl 3 rfl) ?_
        refine lv_iload_n hx hb dL_law_1110 rfl (lv_at hl 0 rfl) ?_
        refine lv_iconst (v := 1) hx hb dL_law_1111 (by decide) ?_
        refine lv_iadd hx hb dL_law_1112 ?_
        refine va_sld hx hb hX hbl hbA hS (hin 1 (by decide)) dL_law_1113 ?_
        rw [ha1]
        refine dk_Vi (As := [.int a1]) (rest := []) ⟨hx, hb, hml, hown, hts⟩ (fx_X5_image_3 l g z I a1 (dkN_sub h3 rfl) hO) (cwV 1 hts gL_law_X5_image rfl rfl rfl (by decide +kernel) ⟨Nat.le_of_ble_eq_true rfl, Nat.le_of_ble_eq_true rfl⟩) (dk_at0 hW) rfl hK hT hW hS rfl hl.1 rfl (Nat.le_of_ble_eq_true rfl) dL_law_1114 ⟨Nat.le_of_ble_eq_true rfl, Nat.le_of_ble_eq_true rfl⟩ (fun v1 I1 H L hp1 hW hS => ?_)
        obtain ⟨hF1, hO, hc1⟩ := hp1
        have hP := dkPP_F hP hF1 rfl
        refine lv_pop hx hb dL_law_1117 rfl ?_
        refine lv_aload_n hx hb dL_law_1118 rfl (lv_at hl 1 rfl) ?_
        refine lv_aload_n hx hb dL_law_1119 rfl (lv_at hl 3 rfl) ?_
        refine lv_iload_n hx hb dL_law_1120 rfl (lv_at hl 0 rfl) ?_
        refine lv_iconst (v := 1) hx hb dL_law_1121 (by decide) ?_
        refine lv_iadd hx hb dL_law_1122 ?_
        refine va_sld hx hb hX hbl hbA hS (hin 1 (by decide)) dL_law_1123 ?_
        rw [ha1]
        refine dk_Vi (As := [.int a1]) (rest := []) ⟨hx, hb, hml, hown, hts⟩ (fx_X6_image_3 l g z I1 a1 (dkN_sub h3 rfl) hO hP) (cwV 1 hts gL_law_X6_image rfl rfl rfl (by decide +kernel) ⟨Nat.le_of_ble_eq_true rfl, Nat.le_of_ble_eq_true rfl⟩) (dk_at340 hW) rfl hK hT hW hS rfl hl.1 rfl (Nat.le_of_ble_eq_true rfl) dL_law_1124 ⟨Nat.le_of_ble_eq_true rfl, Nat.le_of_ble_eq_true rfl⟩ (fun v2 I2 H L hp2 hW hS => ?_)
        obtain ⟨hF2, hO, hP, hc2⟩ := hp2
        refine lv_pop hx hb dL_law_1127 rfl ?_
        refine lv_goto (tgt := 1302) hx hb dL_law_1128 (by decide) ?_
        exact hend I2 _ _ ls hW ⟨hO, hP, ⟨(dkQQ_F (dkQQ_F hR.1 hF1 rfl) hF2 rfl), (dkTap_k hR.2.1 ((hF2 12 1 rfl).trans (hF1 12 1 rfl)) ((hF2 340 6 rfl).trans (hF1 340 6 rfl)) ((funext fun j => hF2 13 j rfl).trans (funext fun j => hF1 13 j rfl)) ((funext fun j => hF2 345 j rfl).trans (funext fun j => hF1 345 j rfl))), (dkNo_k hR.2.2.1 hO0 ((hF2 25 0 rfl).trans (hF1 25 0 rfl)) ((hF2 25 4 rfl).trans (hF1 25 4 rfl)) ((hF2 25 11 rfl).trans (hF1 25 11 rfl)) ((funext fun j => hF2 32 j rfl).trans (funext fun j => hF1 32 j rfl)) ((hF2 346 0 rfl).trans (hF1 346 0 rfl)) ((hF2 346 4 rfl).trans (hF1 346 4 rfl)) ((hF2 346 5 rfl).trans (hF1 346 5 rfl)) (fun j hj => by rcases (by omega : j = 0 ∨ j = 1 ∨ j = 2 ∨ j = 3 ∨ j = 4 ∨ j = 5) with rfl | rfl | rfl | rfl | rfl | rfl <;> exact (hF2 346 _ rfl).trans (hF1 346 _ rfl))), (dkr_image2 (a1 := 0) hR.2.2.1 hR.2.2.2.1 hR.2.2.2.2.1 hO0 hF1 hF2 hc1 hc2).2.1, (dkr_image2 (a1 := 0) hR.2.2.1 hR.2.2.2.1 hR.2.2.2.2.1 hO0 hF1 hF2 hc1 hc2).2.2, (dkTr_k hR.2.2.2.2.2 ((hF2 338 2 rfl).trans (hF1 338 2 rfl)) ((hF2 340 25 rfl).trans (hF1 340 25 rfl)) ((funext fun j => hF2 339 j rfl).trans (funext fun j => hF1 339 j rfl)) ((funext fun j => hF2 353 j rfl).trans (funext fun j => hF1 353 j rfl)))⟩⟩ hS hl
      ·
        refine lv_aload_n hx hb dL_law_1108 rfl (lv_at hl 2 rfl) ?_
        refine lv_aload_n hx hb dL_law_1109 rfl (lv_at hl 3 rfl) ?_
        refine lv_iload_n hx hb dL_law_1110 rfl (lv_at hl 0 rfl) ?_
        refine lv_iconst (v := 1) hx hb dL_law_1111 (by decide) ?_
        refine lv_iadd hx hb dL_law_1112 ?_
        refine va_sld hx hb hX hbl hbA hS (hin 1 (by decide)) dL_law_1113 ?_
        rw [ha1]
        refine dk_Vi (As := [.int a1]) (rest := []) ⟨hx, hb, hml, hown, hts⟩ (fx_X5_image_4 l g z I a1 (dkN_sub h3 rfl) hO) (cwV 1 hts gL_law_X5_image rfl rfl rfl (by decide +kernel) ⟨Nat.le_of_ble_eq_true rfl, Nat.le_of_ble_eq_true rfl⟩) (dk_at0 hW) rfl hK hT hW hS rfl hl.1 rfl (Nat.le_of_ble_eq_true rfl) dL_law_1114 ⟨Nat.le_of_ble_eq_true rfl, Nat.le_of_ble_eq_true rfl⟩ (fun v1 I1 H L hp1 hW hS => ?_)
        obtain ⟨hF1, hO, hc1⟩ := hp1
        have hP := dkPP_F hP hF1 rfl
        refine lv_pop hx hb dL_law_1117 rfl ?_
        refine lv_aload_n hx hb dL_law_1118 rfl (lv_at hl 1 rfl) ?_
        refine lv_aload_n hx hb dL_law_1119 rfl (lv_at hl 3 rfl) ?_
        refine lv_iload_n hx hb dL_law_1120 rfl (lv_at hl 0 rfl) ?_
        refine lv_iconst (v := 1) hx hb dL_law_1121 (by decide) ?_
        refine lv_iadd hx hb dL_law_1122 ?_
        refine va_sld hx hb hX hbl hbA hS (hin 1 (by decide)) dL_law_1123 ?_
        rw [ha1]
        refine dk_Vi (As := [.int a1]) (rest := []) ⟨hx, hb, hml, hown, hts⟩ (fx_X6_image_4 l g z I1 a1 (dkN_sub h3 rfl) hO hP) (cwV 1 hts gL_law_X6_image rfl rfl rfl (by decide +kernel) ⟨Nat.le_of_ble_eq_true rfl, Nat.le_of_ble_eq_true rfl⟩) (dk_at340 hW) rfl hK hT hW hS rfl hl.1 rfl (Nat.le_of_ble_eq_true rfl) dL_law_1124 ⟨Nat.le_of_ble_eq_true rfl, Nat.le_of_ble_eq_true rfl⟩ (fun v2 I2 H L hp2 hW hS => ?_)
        obtain ⟨hF2, hO, hP, hc2⟩ := hp2
        refine lv_pop hx hb dL_law_1127 rfl ?_
        refine lv_goto (tgt := 1302) hx hb dL_law_1128 (by decide) ?_
        exact hend I2 _ _ ls hW ⟨hO, hP, ⟨(dkQQ_F (dkQQ_F hR.1 hF1 rfl) hF2 rfl), (dkTap_k hR.2.1 ((hF2 12 1 rfl).trans (hF1 12 1 rfl)) ((hF2 340 6 rfl).trans (hF1 340 6 rfl)) ((funext fun j => hF2 13 j rfl).trans (funext fun j => hF1 13 j rfl)) ((funext fun j => hF2 345 j rfl).trans (funext fun j => hF1 345 j rfl))), (dkNo_k hR.2.2.1 hO0 ((hF2 25 0 rfl).trans (hF1 25 0 rfl)) ((hF2 25 4 rfl).trans (hF1 25 4 rfl)) ((hF2 25 11 rfl).trans (hF1 25 11 rfl)) ((funext fun j => hF2 32 j rfl).trans (funext fun j => hF1 32 j rfl)) ((hF2 346 0 rfl).trans (hF1 346 0 rfl)) ((hF2 346 4 rfl).trans (hF1 346 4 rfl)) ((hF2 346 5 rfl).trans (hF1 346 5 rfl)) (fun j hj => by rcases (by omega : j = 0 ∨ j = 1 ∨ j = 2 ∨ j = 3 ∨ j = 4 ∨ j = 5) with rfl | rfl | rfl | rfl | rfl | rfl <;> exact (hF2 346 _ rfl).trans (hF1 346 _ rfl))), (dkr_image3 hR.2.2.1 hR.2.2.2.1 hR.2.2.2.2.1 hO0 hF1 hF2 hc1 hc2).2.1, (dkr_image3 hR.2.2.1 hR.2.2.2.1 hR.2.2.2.2.1 hO0 hF1 hF2 hc1 hc2).2.2, (dkTr_k hR.2.2.2.2.2 ((hF2 338 2 rfl).trans (hF1 338 2 rfl)) ((hF2 340 25 rfl).trans (hF1 340 25 rfl)) ((funext fun j => hF2 339 j rfl).trans (funext fun j => hF1 339 j rfl)) ((funext fun j => hF2 353 j rfl).trans (funext fun j => hF1 353 j rfl)))⟩⟩ hS hl

set_option maxHeartbeats 4000000 in
set_option maxRecDepth 100000 in
theorem k_restore {p : Program} {e : Env} {s : State} {m : MethodId} {below : List Frame} {meth : Method} {c : Code} (l : Launch) {b L z : Nat} {xs : Nat → Int32} {g : dkG} {Q : State → Prop} {H : Heap} {locs : List Loc} {ls : Array Slot} {I : dkI} {x : Int32} (hz0 : z = s.heap.size) (hx : p.tables.exec = Jvm.exec) (hb : c.code = code) (hml : c.maxLocals = 4) (hown : s.vm.findClass RL = some m.cls) (hts : ∀ w ∈ wsL_law, w.before #[Value.ref b] s = true) (hX : va_X b L xs s s.heap) (hbl : b < s.heap.size) (hL : L ≤ 448) (hx0 : 0 ≤ x.toInt) (hx1 : x.toInt + 7 ≤ (L : Int)) (hK : dkK g s) (hT : dkST z s) (hW : dkW g z I H) (hI : dkInv I) (hS : va_S (dkA z) s.heap H locs) (hl : lv_has ls 4 [(3, .int x), (2, .ref (z + 340)), (1, .ref (z + 0)), (0, .ref b)]) (hend : ∀ (I : dkI) (H : Heap) (locs : List Loc) (ls : Array Slot), dkW g z I H → dkInv I → va_S (dkA z) s.heap H locs → lv_has ls 4 [(3, .int x), (2, .ref (z + 340)), (1, .ref (z + 0)), (0, .ref b)] → W p l e room_1 s m #[Value.ref b] below meth c H locs (0 + 1 + 339 + 1 + 13) (0 + 10 + 2701 + 26 + 2055) Q (F0 m 1302 ls [])) : W p l e room_1 s m #[Value.ref b] below meth c H locs (0 + 1 + 339 + 1 + 13) (0 + 10 + 2701 + 26 + 2055) Q (F0 m 1131 ls []) := by
  have hbA : ¬ dkA z b := by unfold dkA; omega
  obtain ⟨hO, hP, hR⟩ := hI
  have hO0 := hO
  have hP0 := hP
  have hin : ∀ k : Nat, k < 7 → vp_in (x + Int32.ofNat k) L := fun k hk => dk_lawIn hx0 hx1 hL hk
  obtain ⟨a1, ha1⟩ : ∃ y : Int32, xs (Int32.toNatClampNeg (x + 1)) = y := ⟨_, rfl⟩
  rcases dkN_cut (-1) (0) rfl (dkN_top a1) with h1 | h1
  ·
    refine lv_aload_n hx hb dL_law_1131 rfl (lv_at hl 2 rfl) ?_
    refine lv_aload_n hx hb dL_law_1132 rfl (lv_at hl 3 rfl) ?_
    refine lv_iload_n hx hb dL_law_1133 rfl (lv_at hl 0 rfl) ?_
    refine lv_iconst (v := 1) hx hb dL_law_1134 (by decide) ?_
    refine lv_iadd hx hb dL_law_1135 ?_
    refine va_sld hx hb hX hbl hbA hS (hin 1 (by decide)) dL_law_1136 ?_
    rw [ha1]
    refine dk_Vi (As := [.int a1]) (rest := []) ⟨hx, hb, hml, hown, hts⟩ (fx_X5_restore_1 l g z I a1 (dkN_sub h1 rfl) hO hR.1) (cwV 1 hts gL_law_X5_restore rfl rfl rfl (by decide +kernel) ⟨Nat.le_of_ble_eq_true rfl, Nat.le_of_ble_eq_true rfl⟩) (dk_at0 hW) rfl hK hT hW hS rfl hl.1 rfl (Nat.le_of_ble_eq_true rfl) dL_law_1137 ⟨Nat.le_of_ble_eq_true rfl, Nat.le_of_ble_eq_true rfl⟩ (fun v1 I1 H L hp1 hW hS => ?_)
    obtain ⟨hF1, hO, hQ, hc1⟩ := hp1
    have hP := dkPP_F hP hF1 rfl
    refine lv_pop hx hb dL_law_1140 rfl ?_
    refine lv_aload_n hx hb dL_law_1141 rfl (lv_at hl 1 rfl) ?_
    refine lv_aload_n hx hb dL_law_1142 rfl (lv_at hl 3 rfl) ?_
    refine lv_iload_n hx hb dL_law_1143 rfl (lv_at hl 0 rfl) ?_
    refine lv_iconst (v := 1) hx hb dL_law_1144 (by decide) ?_
    refine lv_iadd hx hb dL_law_1145 ?_
    refine va_sld hx hb hX hbl hbA hS (hin 1 (by decide)) dL_law_1146 ?_
    rw [ha1]
    refine dk_Vi (As := [.int a1]) (rest := []) ⟨hx, hb, hml, hown, hts⟩ (fx_X6_restore_1 l g z I1 a1 (dkN_sub h1 rfl) hO hP) (cwV 1 hts gL_law_X6_restore rfl rfl rfl (by decide +kernel) ⟨Nat.le_of_ble_eq_true rfl, Nat.le_of_ble_eq_true rfl⟩) (dk_at340 hW) rfl hK hT hW hS rfl hl.1 rfl (Nat.le_of_ble_eq_true rfl) dL_law_1147 ⟨Nat.le_of_ble_eq_true rfl, Nat.le_of_ble_eq_true rfl⟩ (fun v2 I2 H L hp2 hW hS => ?_)
    obtain ⟨hF2, hO, hP, hc2⟩ := hp2
    refine lv_pop hx hb dL_law_1150 rfl ?_
    refine lv_goto (tgt := 1302) hx hb dL_law_1151 (by decide) ?_
    exact hend I2 _ _ ls hW ⟨hO, hP, ⟨(dkQQ_F hQ hF2 rfl), (dkTap_k hR.2.1 ((hF2 12 1 rfl).trans (hF1 12 1 rfl)) ((hF2 340 6 rfl).trans (hF1 340 6 rfl)) ((funext fun j => hF2 13 j rfl).trans (funext fun j => hF1 13 j rfl)) ((funext fun j => hF2 345 j rfl).trans (funext fun j => hF1 345 j rfl))), (dkr_restore0 hR.2.2.1 hO0 hF1 hF2 hc1 hc2).2, (dkIm_k (k := 0) hR.2.2.2.1 ((hF2 37 0 rfl).trans (hF1 37 0 rfl)) ((hF2 37 4 rfl).trans (hF1 37 4 rfl)) ((hF2 37 11 rfl).trans (hF1 37 11 rfl)) ((funext fun j => hF2 44 j rfl).trans (funext fun j => hF1 44 j rfl)) ((funext fun j => hF2 350 j rfl).trans (funext fun j => hF1 350 j rfl)) ((funext fun j => hF2 351 j rfl).trans (funext fun j => hF1 351 j rfl))), (dkIm_k (k := 1) hR.2.2.2.2.1 ((hF2 48 0 rfl).trans (hF1 48 0 rfl)) ((hF2 48 4 rfl).trans (hF1 48 4 rfl)) ((hF2 48 11 rfl).trans (hF1 48 11 rfl)) ((funext fun j => hF2 55 j rfl).trans (funext fun j => hF1 55 j rfl)) ((funext fun j => hF2 350 j rfl).trans (funext fun j => hF1 350 j rfl)) ((funext fun j => hF2 351 j rfl).trans (funext fun j => hF1 351 j rfl))), (dkTr_k hR.2.2.2.2.2 ((hF2 338 2 rfl).trans (hF1 338 2 rfl)) ((hF2 340 25 rfl).trans (hF1 340 25 rfl)) ((funext fun j => hF2 339 j rfl).trans (funext fun j => hF1 339 j rfl)) ((funext fun j => hF2 353 j rfl).trans (funext fun j => hF1 353 j rfl)))⟩⟩ hS hl
  ·
    rcases dkN_cut (0) (1) rfl h1 with h2 | h2
    ·
      refine lv_aload_n hx hb dL_law_1131 rfl (lv_at hl 2 rfl) ?_
      refine lv_aload_n hx hb dL_law_1132 rfl (lv_at hl 3 rfl) ?_
      refine lv_iload_n hx hb dL_law_1133 rfl (lv_at hl 0 rfl) ?_
      refine lv_iconst (v := 1) hx hb dL_law_1134 (by decide) ?_
      refine lv_iadd hx hb dL_law_1135 ?_
      refine va_sld hx hb hX hbl hbA hS (hin 1 (by decide)) dL_law_1136 ?_
      rw [ha1]
      refine dk_Vi (As := [.int a1]) (rest := []) ⟨hx, hb, hml, hown, hts⟩ (fx_X5_restore_2 l g z I a1 (dkN_sub h2 rfl) hO hR.1) (cwV 1 hts gL_law_X5_restore rfl rfl rfl (by decide +kernel) ⟨Nat.le_of_ble_eq_true rfl, Nat.le_of_ble_eq_true rfl⟩) (dk_at0 hW) rfl hK hT hW hS rfl hl.1 rfl (Nat.le_of_ble_eq_true rfl) dL_law_1137 ⟨Nat.le_of_ble_eq_true rfl, Nat.le_of_ble_eq_true rfl⟩ (fun v1 I1 H L hp1 hW hS => ?_)
      obtain ⟨hF1, hO, hQ, hc1⟩ := hp1
      have hP := dkPP_F hP hF1 rfl
      refine lv_pop hx hb dL_law_1140 rfl ?_
      refine lv_aload_n hx hb dL_law_1141 rfl (lv_at hl 1 rfl) ?_
      refine lv_aload_n hx hb dL_law_1142 rfl (lv_at hl 3 rfl) ?_
      refine lv_iload_n hx hb dL_law_1143 rfl (lv_at hl 0 rfl) ?_
      refine lv_iconst (v := 1) hx hb dL_law_1144 (by decide) ?_
      refine lv_iadd hx hb dL_law_1145 ?_
      refine va_sld hx hb hX hbl hbA hS (hin 1 (by decide)) dL_law_1146 ?_
      rw [ha1]
      refine dk_Vi (As := [.int a1]) (rest := []) ⟨hx, hb, hml, hown, hts⟩ (fx_X6_restore_2 l g z I1 a1 (dkN_sub h2 rfl) hO hP) (cwV 1 hts gL_law_X6_restore rfl rfl rfl (by decide +kernel) ⟨Nat.le_of_ble_eq_true rfl, Nat.le_of_ble_eq_true rfl⟩) (dk_at340 hW) rfl hK hT hW hS rfl hl.1 rfl (Nat.le_of_ble_eq_true rfl) dL_law_1147 ⟨Nat.le_of_ble_eq_true rfl, Nat.le_of_ble_eq_true rfl⟩ (fun v2 I2 H L hp2 hW hS => ?_)
      obtain ⟨hF2, hO, hP, hc2⟩ := hp2
      refine lv_pop hx hb dL_law_1150 rfl ?_
      refine lv_goto (tgt := 1302) hx hb dL_law_1151 (by decide) ?_
      exact hend I2 _ _ ls hW ⟨hO, hP, ⟨(dkQQ_F hQ hF2 rfl), (dkTap_k hR.2.1 ((hF2 12 1 rfl).trans (hF1 12 1 rfl)) ((hF2 340 6 rfl).trans (hF1 340 6 rfl)) ((funext fun j => hF2 13 j rfl).trans (funext fun j => hF1 13 j rfl)) ((funext fun j => hF2 345 j rfl).trans (funext fun j => hF1 345 j rfl))), (dkr_restore1 (a1 := 0) hR.2.2.1 hO0 hR.2.2.2.1 hP0 hF1 hF2 hc1 hc2).2, (dkIm_k (k := 0) hR.2.2.2.1 ((hF2 37 0 rfl).trans (hF1 37 0 rfl)) ((hF2 37 4 rfl).trans (hF1 37 4 rfl)) ((hF2 37 11 rfl).trans (hF1 37 11 rfl)) ((funext fun j => hF2 44 j rfl).trans (funext fun j => hF1 44 j rfl)) ((funext fun j => hF2 350 j rfl).trans (funext fun j => hF1 350 j rfl)) ((funext fun j => hF2 351 j rfl).trans (funext fun j => hF1 351 j rfl))), (dkIm_k (k := 1) hR.2.2.2.2.1 ((hF2 48 0 rfl).trans (hF1 48 0 rfl)) ((hF2 48 4 rfl).trans (hF1 48 4 rfl)) ((hF2 48 11 rfl).trans (hF1 48 11 rfl)) ((funext fun j => hF2 55 j rfl).trans (funext fun j => hF1 55 j rfl)) ((funext fun j => hF2 350 j rfl).trans (funext fun j => hF1 350 j rfl)) ((funext fun j => hF2 351 j rfl).trans (funext fun j => hF1 351 j rfl))), (dkTr_k hR.2.2.2.2.2 ((hF2 338 2 rfl).trans (hF1 338 2 rfl)) ((hF2 340 25 rfl).trans (hF1 340 25 rfl)) ((funext fun j => hF2 339 j rfl).trans (funext fun j => hF1 339 j rfl)) ((funext fun j => hF2 353 j rfl).trans (funext fun j => hF1 353 j rfl)))⟩⟩ hS hl
    ·
      rcases dkN_cut (1) (2) rfl h2 with h3 | h3
      ·
        refine lv_aload_n hx hb dL_law_1131 rfl (lv_at hl 2 rfl) ?_
        refine lv_aload_n hx hb dL_law_1132 rfl (lv_at hl 3 rfl) ?_
        refine lv_iload_n hx hb dL_law_1133 rfl (lv_at hl 0 rfl) ?_
        refine lv_iconst (v := 1) hx hb dL_law_1134 (by decide) ?_
        refine lv_iadd hx hb dL_law_1135 ?_
        refine va_sld hx hb hX hbl hbA hS (hin 1 (by decide)) dL_law_1136 ?_
        rw [ha1]
        refine dk_Vi (As := [.int a1]) (rest := []) ⟨hx, hb, hml, hown, hts⟩ (fx_X5_restore_3 l g z I a1 (dkN_sub h3 rfl) hO hR.1) (cwV 1 hts gL_law_X5_restore rfl rfl rfl (by decide +kernel) ⟨Nat.le_of_ble_eq_true rfl, Nat.le_of_ble_eq_true rfl⟩) (dk_at0 hW) rfl hK hT hW hS rfl hl.1 rfl (Nat.le_of_ble_eq_true rfl) dL_law_1137 ⟨Nat.le_of_ble_eq_true rfl, Nat.le_of_ble_eq_true rfl⟩ (fun v1 I1 H L hp1 hW hS => ?_)
        obtain ⟨hF1, hO, hQ, hc1⟩ := hp1
        have hP := dkPP_F hP hF1 rfl
        refine lv_pop hx hb dL_law_1140 rfl ?_
        refine lv_aload_n hx hb dL_law_1141 rfl (lv_at hl 1 rfl) ?_
        refine lv_aload_n hx hb dL_law_1142 rfl (lv_at hl 3 rfl) ?_
        refine lv_iload_n hx hb dL_law_1143 rfl (lv_at hl 0 rfl) ?_
        refine lv_iconst (v := 1) hx hb dL_law_1144 (by decide) ?_
        refine lv_iadd hx hb dL_law_1145 ?_
        refine va_sld hx hb hX hbl hbA hS (hin 1 (by decide)) dL_law_1146 ?_
        rw [ha1]
        refine dk_Vi (As := [.int a1]) (rest := []) ⟨hx, hb, hml, hown, hts⟩ (fx_X6_restore_3 l g z I1 a1 (dkN_sub h3 rfl) hO hP) (cwV 1 hts gL_law_X6_restore rfl rfl rfl (by decide +kernel) ⟨Nat.le_of_ble_eq_true rfl, Nat.le_of_ble_eq_true rfl⟩) (dk_at340 hW) rfl hK hT hW hS rfl hl.1 rfl (Nat.le_of_ble_eq_true rfl) dL_law_1147 ⟨Nat.le_of_ble_eq_true rfl, Nat.le_of_ble_eq_true rfl⟩ (fun v2 I2 H L hp2 hW hS => ?_)
        obtain ⟨hF2, hO, hP, hc2⟩ := hp2
        refine lv_pop hx hb dL_law_1150 rfl ?_
        refine lv_goto (tgt := 1302) hx hb dL_law_1151 (by decide) ?_
        exact hend I2 _ _ ls hW ⟨hO, hP, ⟨(dkQQ_F hQ hF2 rfl), (dkTap_k hR.2.1 ((hF2 12 1 rfl).trans (hF1 12 1 rfl)) ((hF2 340 6 rfl).trans (hF1 340 6 rfl)) ((funext fun j => hF2 13 j rfl).trans (funext fun j => hF1 13 j rfl)) ((funext fun j => hF2 345 j rfl).trans (funext fun j => hF1 345 j rfl))), (dkr_restore2 (a1 := 0) hR.2.2.1 hO0 hR.2.2.2.2.1 hP0 hF1 hF2 hc1 hc2).2, (dkIm_k (k := 0) hR.2.2.2.1 ((hF2 37 0 rfl).trans (hF1 37 0 rfl)) ((hF2 37 4 rfl).trans (hF1 37 4 rfl)) ((hF2 37 11 rfl).trans (hF1 37 11 rfl)) ((funext fun j => hF2 44 j rfl).trans (funext fun j => hF1 44 j rfl)) ((funext fun j => hF2 350 j rfl).trans (funext fun j => hF1 350 j rfl)) ((funext fun j => hF2 351 j rfl).trans (funext fun j => hF1 351 j rfl))), (dkIm_k (k := 1) hR.2.2.2.2.1 ((hF2 48 0 rfl).trans (hF1 48 0 rfl)) ((hF2 48 4 rfl).trans (hF1 48 4 rfl)) ((hF2 48 11 rfl).trans (hF1 48 11 rfl)) ((funext fun j => hF2 55 j rfl).trans (funext fun j => hF1 55 j rfl)) ((funext fun j => hF2 350 j rfl).trans (funext fun j => hF1 350 j rfl)) ((funext fun j => hF2 351 j rfl).trans (funext fun j => hF1 351 j rfl))), (dkTr_k hR.2.2.2.2.2 ((hF2 338 2 rfl).trans (hF1 338 2 rfl)) ((hF2 340 25 rfl).trans (hF1 340 25 rfl)) ((funext fun j => hF2 339 j rfl).trans (funext fun j => hF1 339 j rfl)) ((funext fun j => hF2 353 j rfl).trans (funext fun j => hF1 353 j rfl)))⟩⟩ hS hl
      ·
        refine lv_aload_n hx hb dL_law_1131 rfl (lv_at hl 2 rfl) ?_
        refine lv_aload_n hx hb dL_law_1132 rfl (lv_at hl 3 rfl) ?_
        refine lv_iload_n hx hb dL_law_1133 rfl (lv_at hl 0 rfl) ?_
        refine lv_iconst (v := 1) hx hb dL_law_1134 (by decide) ?_
        refine lv_iadd hx hb dL_law_1135 ?_
        refine va_sld hx hb hX hbl hbA hS (hin 1 (by decide)) dL_law_1136 ?_
        rw [ha1]
        refine dk_Vi (As := [.int a1]) (rest := []) ⟨hx, hb, hml, hown, hts⟩ (fx_X5_restore_4 l g z I a1 (dkN_sub h3 rfl) hO hR.1) (cwV 1 hts gL_law_X5_restore rfl rfl rfl (by decide +kernel) ⟨Nat.le_of_ble_eq_true rfl, Nat.le_of_ble_eq_true rfl⟩) (dk_at0 hW) rfl hK hT hW hS rfl hl.1 rfl (Nat.le_of_ble_eq_true rfl) dL_law_1137 ⟨Nat.le_of_ble_eq_true rfl, Nat.le_of_ble_eq_true rfl⟩ (fun v1 I1 H L hp1 hW hS => ?_)
        obtain ⟨hF1, hO, hQ, hc1⟩ := hp1
        have hP := dkPP_F hP hF1 rfl
        refine lv_pop hx hb dL_law_1140 rfl ?_
        refine lv_aload_n hx hb dL_law_1141 rfl (lv_at hl 1 rfl) ?_
        refine lv_aload_n hx hb dL_law_1142 rfl (lv_at hl 3 rfl) ?_
        refine lv_iload_n hx hb dL_law_1143 rfl (lv_at hl 0 rfl) ?_
        refine lv_iconst (v := 1) hx hb dL_law_1144 (by decide) ?_
        refine lv_iadd hx hb dL_law_1145 ?_
        refine va_sld hx hb hX hbl hbA hS (hin 1 (by decide)) dL_law_1146 ?_
        rw [ha1]
        refine dk_Vi (As := [.int a1]) (rest := []) ⟨hx, hb, hml, hown, hts⟩ (fx_X6_restore_4 l g z I1 a1 (dkN_sub h3 rfl) hO hP) (cwV 1 hts gL_law_X6_restore rfl rfl rfl (by decide +kernel) ⟨Nat.le_of_ble_eq_true rfl, Nat.le_of_ble_eq_true rfl⟩) (dk_at340 hW) rfl hK hT hW hS rfl hl.1 rfl (Nat.le_of_ble_eq_true rfl) dL_law_1147 ⟨Nat.le_of_ble_eq_true rfl, Nat.le_of_ble_eq_true rfl⟩ (fun v2 I2 H L hp2 hW hS => ?_)
        obtain ⟨hF2, hO, hP, hc2⟩ := hp2
        refine lv_pop hx hb dL_law_1150 rfl ?_
        refine lv_goto (tgt := 1302) hx hb dL_law_1151 (by decide) ?_
        exact hend I2 _ _ ls hW ⟨hO, hP, ⟨(dkQQ_F hQ hF2 rfl), (dkTap_k hR.2.1 ((hF2 12 1 rfl).trans (hF1 12 1 rfl)) ((hF2 340 6 rfl).trans (hF1 340 6 rfl)) ((funext fun j => hF2 13 j rfl).trans (funext fun j => hF1 13 j rfl)) ((funext fun j => hF2 345 j rfl).trans (funext fun j => hF1 345 j rfl))), (dkr_restore3 hR.2.2.1 hO0 hF1 hF2 hc1 hc2).2, (dkIm_k (k := 0) hR.2.2.2.1 ((hF2 37 0 rfl).trans (hF1 37 0 rfl)) ((hF2 37 4 rfl).trans (hF1 37 4 rfl)) ((hF2 37 11 rfl).trans (hF1 37 11 rfl)) ((funext fun j => hF2 44 j rfl).trans (funext fun j => hF1 44 j rfl)) ((funext fun j => hF2 350 j rfl).trans (funext fun j => hF1 350 j rfl)) ((funext fun j => hF2 351 j rfl).trans (funext fun j => hF1 351 j rfl))), (dkIm_k (k := 1) hR.2.2.2.2.1 ((hF2 48 0 rfl).trans (hF1 48 0 rfl)) ((hF2 48 4 rfl).trans (hF1 48 4 rfl)) ((hF2 48 11 rfl).trans (hF1 48 11 rfl)) ((funext fun j => hF2 55 j rfl).trans (funext fun j => hF1 55 j rfl)) ((funext fun j => hF2 350 j rfl).trans (funext fun j => hF1 350 j rfl)) ((funext fun j => hF2 351 j rfl).trans (funext fun j => hF1 351 j rfl))), (dkTr_k hR.2.2.2.2.2 ((hF2 338 2 rfl).trans (hF1 338 2 rfl)) ((hF2 340 25 rfl).trans (hF1 340 25 rfl)) ((funext fun j => hF2 339 j rfl).trans (funext fun j => hF1 339 j rfl)) ((funext fun j => hF2 353 j rfl).trans (funext fun j => hF1 353 j rfl)))⟩⟩ hS hl

set_option maxHeartbeats 4000000 in
set_option maxRecDepth 100000 in
theorem k_kind {p : Program} {e : Env} {s : State} {m : MethodId} {below : List Frame} {meth : Method} {c : Code} (l : Launch) {b L z : Nat} {xs : Nat → Int32} {g : dkG} {Q : State → Prop} {H : Heap} {locs : List Loc} {ls : Array Slot} {I : dkI} {x : Int32} (hz0 : z = s.heap.size) (hx : p.tables.exec = Jvm.exec) (hb : c.code = code) (hml : c.maxLocals = 4) (hown : s.vm.findClass RL = some m.cls) (hts : ∀ w ∈ wsL_law, w.before #[Value.ref b] s = true) (hX : va_X b L xs s s.heap) (hbl : b < s.heap.size) (hL : L ≤ 448) (hx0 : 0 ≤ x.toInt) (hx1 : x.toInt + 7 ≤ (L : Int)) (hK : dkK g s) (hT : dkST z s) (hW : dkW g z I H) (hI : dkInv I) (hS : va_S (dkA z) s.heap H locs) (hl : lv_has ls 4 [(3, .int x), (2, .ref (z + 340)), (1, .ref (z + 0)), (0, .ref b)]) (hend : ∀ (I : dkI) (H : Heap) (locs : List Loc) (ls : Array Slot), dkW g z I H → dkInv I → va_S (dkA z) s.heap H locs → lv_has ls 4 [(3, .int x), (2, .ref (z + 340)), (1, .ref (z + 0)), (0, .ref b)] → W p l e room_1 s m #[Value.ref b] below meth c H locs (0 + 1 + 339 + 1 + 13) (0 + 10 + 2701 + 26 + 2055) Q (F0 m 1302 ls [])) : W p l e room_1 s m #[Value.ref b] below meth c H locs (0 + 1 + 339 + 1 + 13) (0 + 10 + 2701 + 26 + 2055) Q (F0 m 1154 ls []) := by
  have hbA : ¬ dkA z b := by unfold dkA; omega
  obtain ⟨hO, hP, hR⟩ := hI
  have hO0 := hO
  have hP0 := hP
  have hin : ∀ k : Nat, k < 7 → vp_in (x + Int32.ofNat k) L := fun k hk => dk_lawIn hx0 hx1 hL hk
  obtain ⟨a1, ha1⟩ : ∃ y : Int32, xs (Int32.toNatClampNeg (x + 1)) = y := ⟨_, rfl⟩
  refine lv_aload_n hx hb dL_law_1154 rfl (lv_at hl 2 rfl) ?_
  refine lv_aload_n hx hb dL_law_1155 rfl (lv_at hl 3 rfl) ?_
  refine lv_iload_n hx hb dL_law_1156 rfl (lv_at hl 0 rfl) ?_
  refine lv_iconst (v := 1) hx hb dL_law_1157 (by decide) ?_
  refine lv_iadd hx hb dL_law_1158 ?_
  refine va_sld hx hb hX hbl hbA hS (hin 1 (by decide)) dL_law_1159 ?_
  rw [ha1]
  refine dk_Vi (As := [.int a1]) (rest := []) ⟨hx, hb, hml, hown, hts⟩ (c_X5_kind_0 l g z I a1 hO) (cwV 1 hts gL_law_X5_kind rfl rfl rfl (by decide +kernel) ⟨Nat.le_of_ble_eq_true rfl, Nat.le_of_ble_eq_true rfl⟩) (dk_at0 hW) rfl hK hT hW hS rfl hl.1 rfl (Nat.le_of_ble_eq_true rfl) dL_law_1160 ⟨Nat.le_of_ble_eq_true rfl, Nat.le_of_ble_eq_true rfl⟩ (fun v1 I1 H L hp1 hW hS => ?_)
  obtain ⟨hF1, hO, hc1⟩ := hp1
  have hP := dkPP_F hP hF1 rfl
  refine lv_pop hx hb dL_law_1163 rfl ?_
  refine lv_aload_n hx hb dL_law_1164 rfl (lv_at hl 1 rfl) ?_
  refine lv_aload_n hx hb dL_law_1165 rfl (lv_at hl 3 rfl) ?_
  refine lv_iload_n hx hb dL_law_1166 rfl (lv_at hl 0 rfl) ?_
  refine lv_iconst (v := 1) hx hb dL_law_1167 (by decide) ?_
  refine lv_iadd hx hb dL_law_1168 ?_
  refine va_sld hx hb hX hbl hbA hS (hin 1 (by decide)) dL_law_1169 ?_
  rw [ha1]
  refine dk_Vi (As := [.int a1]) (rest := []) ⟨hx, hb, hml, hown, hts⟩ (c_X6_kind_0 l g z I1 a1 hO) (cwV 1 hts gL_law_X6_kind rfl rfl rfl (by decide +kernel) ⟨Nat.le_of_ble_eq_true rfl, Nat.le_of_ble_eq_true rfl⟩) (dk_at340 hW) rfl hK hT hW hS rfl hl.1 rfl (Nat.le_of_ble_eq_true rfl) dL_law_1170 ⟨Nat.le_of_ble_eq_true rfl, Nat.le_of_ble_eq_true rfl⟩ (fun v2 I2 H L hp2 hW hS => ?_)
  obtain ⟨hF2, hO, hc2⟩ := hp2
  have hP := dkPP_F hP hF2 rfl
  refine lv_pop hx hb dL_law_1173 rfl ?_
  refine lv_goto (tgt := 1302) hx hb dL_law_1174 (by decide) ?_
  exact hend I2 _ _ ls hW ⟨hO, hP, ⟨(dkQQ_F (dkQQ_F hR.1 hF1 rfl) hF2 rfl), (dkTap_k hR.2.1 ((hF2 12 1 rfl).trans (hF1 12 1 rfl)) ((hF2 340 6 rfl).trans (hF1 340 6 rfl)) ((funext fun j => hF2 13 j rfl).trans (funext fun j => hF1 13 j rfl)) ((funext fun j => hF2 345 j rfl).trans (funext fun j => hF1 345 j rfl))), (dkNo_k hR.2.2.1 hO0 ((hF2 25 0 rfl).trans (hF1 25 0 rfl)) ((hF2 25 4 rfl).trans (hF1 25 4 rfl)) ((hF2 25 11 rfl).trans (hF1 25 11 rfl)) ((funext fun j => hF2 32 j rfl).trans (funext fun j => hF1 32 j rfl)) ((hF2 346 0 rfl).trans (hF1 346 0 rfl)) ((hF2 346 4 rfl).trans (hF1 346 4 rfl)) ((hF2 346 5 rfl).trans (hF1 346 5 rfl)) (fun j hj => by rcases (by omega : j = 0 ∨ j = 1 ∨ j = 2 ∨ j = 3 ∨ j = 4 ∨ j = 5) with rfl | rfl | rfl | rfl | rfl | rfl <;> exact (hF2 346 _ rfl).trans (hF1 346 _ rfl))), (dkIm_k (k := 0) hR.2.2.2.1 ((hF2 37 0 rfl).trans (hF1 37 0 rfl)) ((hF2 37 4 rfl).trans (hF1 37 4 rfl)) ((hF2 37 11 rfl).trans (hF1 37 11 rfl)) ((funext fun j => hF2 44 j rfl).trans (funext fun j => hF1 44 j rfl)) ((funext fun j => hF2 350 j rfl).trans (funext fun j => hF1 350 j rfl)) ((funext fun j => hF2 351 j rfl).trans (funext fun j => hF1 351 j rfl))), (dkIm_k (k := 1) hR.2.2.2.2.1 ((hF2 48 0 rfl).trans (hF1 48 0 rfl)) ((hF2 48 4 rfl).trans (hF1 48 4 rfl)) ((hF2 48 11 rfl).trans (hF1 48 11 rfl)) ((funext fun j => hF2 55 j rfl).trans (funext fun j => hF1 55 j rfl)) ((funext fun j => hF2 350 j rfl).trans (funext fun j => hF1 350 j rfl)) ((funext fun j => hF2 351 j rfl).trans (funext fun j => hF1 351 j rfl))), (dkTr_k hR.2.2.2.2.2 ((hF2 338 2 rfl).trans (hF1 338 2 rfl)) ((hF2 340 25 rfl).trans (hF1 340 25 rfl)) ((funext fun j => hF2 339 j rfl).trans (funext fun j => hF1 339 j rfl)) ((funext fun j => hF2 353 j rfl).trans (funext fun j => hF1 353 j rfl)))⟩⟩ hS hl

set_option maxHeartbeats 4000000 in
set_option maxRecDepth 100000 in
theorem k_as {p : Program} {e : Env} {s : State} {m : MethodId} {below : List Frame} {meth : Method} {c : Code} (l : Launch) {b L z : Nat} {xs : Nat → Int32} {g : dkG} {Q : State → Prop} {H : Heap} {locs : List Loc} {ls : Array Slot} {I : dkI} {x : Int32} (hz0 : z = s.heap.size) (hx : p.tables.exec = Jvm.exec) (hb : c.code = code) (hml : c.maxLocals = 4) (hown : s.vm.findClass RL = some m.cls) (hts : ∀ w ∈ wsL_law, w.before #[Value.ref b] s = true) (hX : va_X b L xs s s.heap) (hbl : b < s.heap.size) (hL : L ≤ 448) (hx0 : 0 ≤ x.toInt) (hx1 : x.toInt + 7 ≤ (L : Int)) (hK : dkK g s) (hT : dkST z s) (hW : dkW g z I H) (hI : dkInv I) (hS : va_S (dkA z) s.heap H locs) (hl : lv_has ls 4 [(3, .int x), (2, .ref (z + 340)), (1, .ref (z + 0)), (0, .ref b)]) (hend : ∀ (I : dkI) (H : Heap) (locs : List Loc) (ls : Array Slot), dkW g z I H → dkInv I → va_S (dkA z) s.heap H locs → lv_has ls 4 [(3, .int x), (2, .ref (z + 340)), (1, .ref (z + 0)), (0, .ref b)] → W p l e room_1 s m #[Value.ref b] below meth c H locs (0 + 1 + 339 + 1 + 13) (0 + 10 + 2701 + 26 + 2055) Q (F0 m 1302 ls [])) : W p l e room_1 s m #[Value.ref b] below meth c H locs (0 + 1 + 339 + 1 + 13) (0 + 10 + 2701 + 26 + 2055) Q (F0 m 1177 ls []) := by
  have hbA : ¬ dkA z b := by unfold dkA; omega
  obtain ⟨hO, hP, hR⟩ := hI
  have hO0 := hO
  have hP0 := hP
  have hin : ∀ k : Nat, k < 7 → vp_in (x + Int32.ofNat k) L := fun k hk => dk_lawIn hx0 hx1 hL hk
  obtain ⟨a1, ha1⟩ : ∃ y : Int32, xs (Int32.toNatClampNeg (x + 1)) = y := ⟨_, rfl⟩
  obtain ⟨a2, ha2⟩ : ∃ y : Int32, xs (Int32.toNatClampNeg (x + 2)) = y := ⟨_, rfl⟩
  refine lv_aload_n hx hb dL_law_1177 rfl (lv_at hl 2 rfl) ?_
  refine lv_aload_n hx hb dL_law_1178 rfl (lv_at hl 3 rfl) ?_
  refine lv_iload_n hx hb dL_law_1179 rfl (lv_at hl 0 rfl) ?_
  refine lv_iconst (v := 1) hx hb dL_law_1180 (by decide) ?_
  refine lv_iadd hx hb dL_law_1181 ?_
  refine va_sld hx hb hX hbl hbA hS (hin 1 (by decide)) dL_law_1182 ?_
  rw [ha1]
  refine lv_aload_n hx hb dL_law_1183 rfl (lv_at hl 3 rfl) ?_
  refine lv_iload_n hx hb dL_law_1184 rfl (lv_at hl 0 rfl) ?_
  refine lv_iconst (v := 2) hx hb dL_law_1185 (by decide) ?_
  refine lv_iadd hx hb dL_law_1186 ?_
  refine va_sld hx hb hX hbl hbA hS (hin 2 (by decide)) dL_law_1187 ?_
  rw [ha2]
  refine dk_Vi (As := [.int a1, .int a2]) (rest := []) ⟨hx, hb, hml, hown, hts⟩ (c_X5_as_0 l g z I a1 a2 hO) (cwV 2 hts gL_law_X5_as rfl rfl rfl (by decide +kernel) ⟨Nat.le_of_ble_eq_true rfl, Nat.le_of_ble_eq_true rfl⟩) (dk_at0 hW) rfl hK hT hW hS rfl hl.1 rfl (Nat.le_of_ble_eq_true rfl) dL_law_1188 ⟨Nat.le_of_ble_eq_true rfl, Nat.le_of_ble_eq_true rfl⟩ (fun v1 I1 H L hp1 hW hS => ?_)
  obtain ⟨hF1, hO, hc1⟩ := hp1
  have hP := dkPP_F hP hF1 rfl
  refine lv_pop hx hb dL_law_1191 rfl ?_
  refine lv_aload_n hx hb dL_law_1192 rfl (lv_at hl 1 rfl) ?_
  refine lv_aload_n hx hb dL_law_1193 rfl (lv_at hl 3 rfl) ?_
  refine lv_iload_n hx hb dL_law_1194 rfl (lv_at hl 0 rfl) ?_
  refine lv_iconst (v := 1) hx hb dL_law_1195 (by decide) ?_
  refine lv_iadd hx hb dL_law_1196 ?_
  refine va_sld hx hb hX hbl hbA hS (hin 1 (by decide)) dL_law_1197 ?_
  rw [ha1]
  refine lv_aload_n hx hb dL_law_1198 rfl (lv_at hl 3 rfl) ?_
  refine lv_iload_n hx hb dL_law_1199 rfl (lv_at hl 0 rfl) ?_
  refine lv_iconst (v := 2) hx hb dL_law_1200 (by decide) ?_
  refine lv_iadd hx hb dL_law_1201 ?_
  refine va_sld hx hb hX hbl hbA hS (hin 2 (by decide)) dL_law_1202 ?_
  rw [ha2]
  refine dk_Vi (As := [.int a1, .int a2]) (rest := []) ⟨hx, hb, hml, hown, hts⟩ (c_X6_as_0 l g z I1 a1 a2 hO) (cwV 2 hts gL_law_X6_as rfl rfl rfl (by decide +kernel) ⟨Nat.le_of_ble_eq_true rfl, Nat.le_of_ble_eq_true rfl⟩) (dk_at340 hW) rfl hK hT hW hS rfl hl.1 rfl (Nat.le_of_ble_eq_true rfl) dL_law_1203 ⟨Nat.le_of_ble_eq_true rfl, Nat.le_of_ble_eq_true rfl⟩ (fun v2 I2 H L hp2 hW hS => ?_)
  obtain ⟨hF2, hO, hc2⟩ := hp2
  have hP := dkPP_F hP hF2 rfl
  refine lv_pop hx hb dL_law_1206 rfl ?_
  refine lv_goto (tgt := 1302) hx hb dL_law_1207 (by decide) ?_
  exact hend I2 _ _ ls hW ⟨hO, hP, ⟨(dkQQ_F (dkQQ_F hR.1 hF1 rfl) hF2 rfl), (dkTap_k hR.2.1 ((hF2 12 1 rfl).trans (hF1 12 1 rfl)) ((hF2 340 6 rfl).trans (hF1 340 6 rfl)) ((funext fun j => hF2 13 j rfl).trans (funext fun j => hF1 13 j rfl)) ((funext fun j => hF2 345 j rfl).trans (funext fun j => hF1 345 j rfl))), (dkNo_k hR.2.2.1 hO0 ((hF2 25 0 rfl).trans (hF1 25 0 rfl)) ((hF2 25 4 rfl).trans (hF1 25 4 rfl)) ((hF2 25 11 rfl).trans (hF1 25 11 rfl)) ((funext fun j => hF2 32 j rfl).trans (funext fun j => hF1 32 j rfl)) ((hF2 346 0 rfl).trans (hF1 346 0 rfl)) ((hF2 346 4 rfl).trans (hF1 346 4 rfl)) ((hF2 346 5 rfl).trans (hF1 346 5 rfl)) (fun j hj => by rcases (by omega : j = 0 ∨ j = 1 ∨ j = 2 ∨ j = 3 ∨ j = 4 ∨ j = 5) with rfl | rfl | rfl | rfl | rfl | rfl <;> exact (hF2 346 _ rfl).trans (hF1 346 _ rfl))), (dkIm_k (k := 0) hR.2.2.2.1 ((hF2 37 0 rfl).trans (hF1 37 0 rfl)) ((hF2 37 4 rfl).trans (hF1 37 4 rfl)) ((hF2 37 11 rfl).trans (hF1 37 11 rfl)) ((funext fun j => hF2 44 j rfl).trans (funext fun j => hF1 44 j rfl)) ((funext fun j => hF2 350 j rfl).trans (funext fun j => hF1 350 j rfl)) ((funext fun j => hF2 351 j rfl).trans (funext fun j => hF1 351 j rfl))), (dkIm_k (k := 1) hR.2.2.2.2.1 ((hF2 48 0 rfl).trans (hF1 48 0 rfl)) ((hF2 48 4 rfl).trans (hF1 48 4 rfl)) ((hF2 48 11 rfl).trans (hF1 48 11 rfl)) ((funext fun j => hF2 55 j rfl).trans (funext fun j => hF1 55 j rfl)) ((funext fun j => hF2 350 j rfl).trans (funext fun j => hF1 350 j rfl)) ((funext fun j => hF2 351 j rfl).trans (funext fun j => hF1 351 j rfl))), (dkTr_k hR.2.2.2.2.2 ((hF2 338 2 rfl).trans (hF1 338 2 rfl)) ((hF2 340 25 rfl).trans (hF1 340 25 rfl)) ((funext fun j => hF2 339 j rfl).trans (funext fun j => hF1 339 j rfl)) ((funext fun j => hF2 353 j rfl).trans (funext fun j => hF1 353 j rfl)))⟩⟩ hS hl

set_option maxHeartbeats 4000000 in
set_option maxRecDepth 100000 in
theorem k_ask {p : Program} {e : Env} {s : State} {m : MethodId} {below : List Frame} {meth : Method} {c : Code} (l : Launch) {b L z : Nat} {xs : Nat → Int32} {g : dkG} {Q : State → Prop} {H : Heap} {locs : List Loc} {ls : Array Slot} {I : dkI} {x : Int32} (hz0 : z = s.heap.size) (hx : p.tables.exec = Jvm.exec) (hb : c.code = code) (hml : c.maxLocals = 4) (hown : s.vm.findClass RL = some m.cls) (hts : ∀ w ∈ wsL_law, w.before #[Value.ref b] s = true) (hX : va_X b L xs s s.heap) (hbl : b < s.heap.size) (hL : L ≤ 448) (hx0 : 0 ≤ x.toInt) (hx1 : x.toInt + 7 ≤ (L : Int)) (hK : dkK g s) (hT : dkST z s) (hW : dkW g z I H) (hI : dkInv I) (hS : va_S (dkA z) s.heap H locs) (hl : lv_has ls 4 [(3, .int x), (2, .ref (z + 340)), (1, .ref (z + 0)), (0, .ref b)]) (hend : ∀ (I : dkI) (H : Heap) (locs : List Loc) (ls : Array Slot), dkW g z I H → dkInv I → va_S (dkA z) s.heap H locs → lv_has ls 4 [(3, .int x), (2, .ref (z + 340)), (1, .ref (z + 0)), (0, .ref b)] → W p l e room_1 s m #[Value.ref b] below meth c H locs (0 + 1 + 339 + 1 + 13) (0 + 10 + 2701 + 26 + 2055) Q (F0 m 1302 ls [])) : W p l e room_1 s m #[Value.ref b] below meth c H locs (0 + 1 + 339 + 1 + 13) (0 + 10 + 2701 + 26 + 2055) Q (F0 m 1210 ls []) := by
  have hbA : ¬ dkA z b := by unfold dkA; omega
  obtain ⟨hO, hP, hR⟩ := hI
  have hO0 := hO
  have hP0 := hP
  have hin : ∀ k : Nat, k < 7 → vp_in (x + Int32.ofNat k) L := fun k hk => dk_lawIn hx0 hx1 hL hk
  obtain ⟨a1, ha1⟩ : ∃ y : Int32, xs (Int32.toNatClampNeg (x + 1)) = y := ⟨_, rfl⟩
  obtain ⟨a2, ha2⟩ : ∃ y : Int32, xs (Int32.toNatClampNeg (x + 2)) = y := ⟨_, rfl⟩
  rcases dk_ask hR.2.2.1 hO0 a1 with ⟨haq, hbq⟩ | haq | ⟨haq, hbq⟩ | ⟨haq, hbq⟩ | ⟨haq, hbq⟩ | ⟨haq, hbq⟩ | ⟨haq, hbq⟩
  ·
    refine lv_aload_n hx hb dL_law_1210 rfl (lv_at hl 2 rfl) ?_
    refine lv_aload_n hx hb dL_law_1211 rfl (lv_at hl 3 rfl) ?_
    refine lv_iload_n hx hb dL_law_1212 rfl (lv_at hl 0 rfl) ?_
    refine lv_iconst (v := 1) hx hb dL_law_1213 (by decide) ?_
    refine lv_iadd hx hb dL_law_1214 ?_
    refine va_sld hx hb hX hbl hbA hS (hin 1 (by decide)) dL_law_1215 ?_
    rw [ha1]
    refine lv_aload_n hx hb dL_law_1216 rfl (lv_at hl 3 rfl) ?_
    refine lv_iload_n hx hb dL_law_1217 rfl (lv_at hl 0 rfl) ?_
    refine lv_iconst (v := 2) hx hb dL_law_1218 (by decide) ?_
    refine lv_iadd hx hb dL_law_1219 ?_
    refine va_sld hx hb hX hbl hbA hS (hin 2 (by decide)) dL_law_1220 ?_
    rw [ha2]
    refine dk_Vi (As := [.int a1, .int a2]) (rest := []) ⟨hx, hb, hml, hown, hts⟩ (fx_X5_ask_1 l g z I a1 a2 haq hO) (cwV 2 hts gL_law_X5_ask rfl rfl rfl (by decide +kernel) ⟨Nat.le_of_ble_eq_true rfl, Nat.le_of_ble_eq_true rfl⟩) (dk_at0 hW) rfl hK hT hW hS rfl hl.1 rfl (Nat.le_of_ble_eq_true rfl) dL_law_1221 ⟨Nat.le_of_ble_eq_true rfl, Nat.le_of_ble_eq_true rfl⟩ (fun v1 I1 H L hp1 hW hS => ?_)
    obtain ⟨hF1, hO, hc1⟩ := hp1
    have hP := dkPP_F hP hF1 rfl
    refine lv_pop hx hb dL_law_1224 rfl ?_
    refine lv_aload_n hx hb dL_law_1225 rfl (lv_at hl 1 rfl) ?_
    refine lv_aload_n hx hb dL_law_1226 rfl (lv_at hl 3 rfl) ?_
    refine lv_iload_n hx hb dL_law_1227 rfl (lv_at hl 0 rfl) ?_
    refine lv_iconst (v := 1) hx hb dL_law_1228 (by decide) ?_
    refine lv_iadd hx hb dL_law_1229 ?_
    refine va_sld hx hb hX hbl hbA hS (hin 1 (by decide)) dL_law_1230 ?_
    rw [ha1]
    refine lv_aload_n hx hb dL_law_1231 rfl (lv_at hl 3 rfl) ?_
    refine lv_iload_n hx hb dL_law_1232 rfl (lv_at hl 0 rfl) ?_
    refine lv_iconst (v := 2) hx hb dL_law_1233 (by decide) ?_
    refine lv_iadd hx hb dL_law_1234 ?_
    refine va_sld hx hb hX hbl hbA hS (hin 2 (by decide)) dL_law_1235 ?_
    rw [ha2]
    refine dk_Vi (As := [.int a1, .int a2]) (rest := []) ⟨hx, hb, hml, hown, hts⟩ (fx_X6_ask_1 l g z I1 a1 a2 (by rw [show I1 346 = I 346 from funext fun j => hF1 346 j rfl]; exact hbq) hO) (cwV 2 hts gL_law_X6_ask rfl rfl rfl (by decide +kernel) ⟨Nat.le_of_ble_eq_true rfl, Nat.le_of_ble_eq_true rfl⟩) (dk_at340 hW) rfl hK hT hW hS rfl hl.1 rfl (Nat.le_of_ble_eq_true rfl) dL_law_1236 ⟨Nat.le_of_ble_eq_true rfl, Nat.le_of_ble_eq_true rfl⟩ (fun v2 I2 H L hp2 hW hS => ?_)
    obtain ⟨hF2, hO, hc2⟩ := hp2
    have hP := dkPP_F hP hF2 rfl
    refine lv_pop hx hb dL_law_1239 rfl ?_
    refine lv_goto (tgt := 1302) hx hb dL_law_1240 (by decide) ?_
    exact hend I2 _ _ ls hW ⟨hO, hP, ⟨(dkQQ_F (dkQQ_F hR.1 hF1 rfl) hF2 rfl), (dkTap_k hR.2.1 ((hF2 12 1 rfl).trans (hF1 12 1 rfl)) ((hF2 340 6 rfl).trans (hF1 340 6 rfl)) ((funext fun j => hF2 13 j rfl).trans (funext fun j => hF1 13 j rfl)) ((funext fun j => hF2 345 j rfl).trans (funext fun j => hF1 345 j rfl))), (dkNo_k hR.2.2.1 hO0 ((hF2 25 0 rfl).trans (hF1 25 0 rfl)) ((hF2 25 4 rfl).trans (hF1 25 4 rfl)) ((hF2 25 11 rfl).trans (hF1 25 11 rfl)) ((funext fun j => hF2 32 j rfl).trans (funext fun j => hF1 32 j rfl)) ((hF2 346 0 rfl).trans (hF1 346 0 rfl)) ((hF2 346 4 rfl).trans (hF1 346 4 rfl)) ((hF2 346 5 rfl).trans (hF1 346 5 rfl)) (fun j hj => by rcases (by omega : j = 0 ∨ j = 1 ∨ j = 2 ∨ j = 3 ∨ j = 4 ∨ j = 5) with rfl | rfl | rfl | rfl | rfl | rfl <;> exact (hF2 346 _ rfl).trans (hF1 346 _ rfl))), (dkIm_k (k := 0) hR.2.2.2.1 ((hF2 37 0 rfl).trans (hF1 37 0 rfl)) ((hF2 37 4 rfl).trans (hF1 37 4 rfl)) ((hF2 37 11 rfl).trans (hF1 37 11 rfl)) ((funext fun j => hF2 44 j rfl).trans (funext fun j => hF1 44 j rfl)) ((funext fun j => hF2 350 j rfl).trans (funext fun j => hF1 350 j rfl)) ((funext fun j => hF2 351 j rfl).trans (funext fun j => hF1 351 j rfl))), (dkIm_k (k := 1) hR.2.2.2.2.1 ((hF2 48 0 rfl).trans (hF1 48 0 rfl)) ((hF2 48 4 rfl).trans (hF1 48 4 rfl)) ((hF2 48 11 rfl).trans (hF1 48 11 rfl)) ((funext fun j => hF2 55 j rfl).trans (funext fun j => hF1 55 j rfl)) ((funext fun j => hF2 350 j rfl).trans (funext fun j => hF1 350 j rfl)) ((funext fun j => hF2 351 j rfl).trans (funext fun j => hF1 351 j rfl))), (dkr_ask0 (a2 := 0) hR.2.2.1 hR.2.2.2.2.2 hF1 hF2 hc1 hc2)⟩⟩ hS hl
  ·
    refine lv_aload_n hx hb dL_law_1210 rfl (lv_at hl 2 rfl) ?_
    refine lv_aload_n hx hb dL_law_1211 rfl (lv_at hl 3 rfl) ?_
    refine lv_iload_n hx hb dL_law_1212 rfl (lv_at hl 0 rfl) ?_
    refine lv_iconst (v := 1) hx hb dL_law_1213 (by decide) ?_
    refine lv_iadd hx hb dL_law_1214 ?_
    refine va_sld hx hb hX hbl hbA hS (hin 1 (by decide)) dL_law_1215 ?_
    rw [ha1]
    refine lv_aload_n hx hb dL_law_1216 rfl (lv_at hl 3 rfl) ?_
    refine lv_iload_n hx hb dL_law_1217 rfl (lv_at hl 0 rfl) ?_
    refine lv_iconst (v := 2) hx hb dL_law_1218 (by decide) ?_
    refine lv_iadd hx hb dL_law_1219 ?_
    refine va_sld hx hb hX hbl hbA hS (hin 2 (by decide)) dL_law_1220 ?_
    rw [ha2]
    refine dk_Vi (As := [.int a1, .int a2]) (rest := []) ⟨hx, hb, hml, hown, hts⟩ (fx_X5_ask_2 l g z I a1 a2 (dkN_sub haq rfl) hO) (cwV 2 hts gL_law_X5_ask rfl rfl rfl (by decide +kernel) ⟨Nat.le_of_ble_eq_true rfl, Nat.le_of_ble_eq_true rfl⟩) (dk_at0 hW) rfl hK hT hW hS rfl hl.1 rfl (Nat.le_of_ble_eq_true rfl) dL_law_1221 ⟨Nat.le_of_ble_eq_true rfl, Nat.le_of_ble_eq_true rfl⟩ (fun v1 I1 H L hp1 hW hS => ?_)
    obtain ⟨hF1, hO, hc1⟩ := hp1
    have hP := dkPP_F hP hF1 rfl
    refine lv_pop hx hb dL_law_1224 rfl ?_
    refine lv_aload_n hx hb dL_law_1225 rfl (lv_at hl 1 rfl) ?_
    refine lv_aload_n hx hb dL_law_1226 rfl (lv_at hl 3 rfl) ?_
    refine lv_iload_n hx hb dL_law_1227 rfl (lv_at hl 0 rfl) ?_
    refine lv_iconst (v := 1) hx hb dL_law_1228 (by decide) ?_
    refine lv_iadd hx hb dL_law_1229 ?_
    refine va_sld hx hb hX hbl hbA hS (hin 1 (by decide)) dL_law_1230 ?_
    rw [ha1]
    refine lv_aload_n hx hb dL_law_1231 rfl (lv_at hl 3 rfl) ?_
    refine lv_iload_n hx hb dL_law_1232 rfl (lv_at hl 0 rfl) ?_
    refine lv_iconst (v := 2) hx hb dL_law_1233 (by decide) ?_
    refine lv_iadd hx hb dL_law_1234 ?_
    refine va_sld hx hb hX hbl hbA hS (hin 2 (by decide)) dL_law_1235 ?_
    rw [ha2]
    refine dk_Vi (As := [.int a1, .int a2]) (rest := []) ⟨hx, hb, hml, hown, hts⟩ (fx_X6_ask_2 l g z I1 a1 a2 (dkN_sub haq rfl) hO) (cwV 2 hts gL_law_X6_ask rfl rfl rfl (by decide +kernel) ⟨Nat.le_of_ble_eq_true rfl, Nat.le_of_ble_eq_true rfl⟩) (dk_at340 hW) rfl hK hT hW hS rfl hl.1 rfl (Nat.le_of_ble_eq_true rfl) dL_law_1236 ⟨Nat.le_of_ble_eq_true rfl, Nat.le_of_ble_eq_true rfl⟩ (fun v2 I2 H L hp2 hW hS => ?_)
    obtain ⟨hF2, hO, hc2⟩ := hp2
    have hP := dkPP_F hP hF2 rfl
    refine lv_pop hx hb dL_law_1239 rfl ?_
    refine lv_goto (tgt := 1302) hx hb dL_law_1240 (by decide) ?_
    exact hend I2 _ _ ls hW ⟨hO, hP, ⟨(dkQQ_F (dkQQ_F hR.1 hF1 rfl) hF2 rfl), (dkTap_k hR.2.1 ((hF2 12 1 rfl).trans (hF1 12 1 rfl)) ((hF2 340 6 rfl).trans (hF1 340 6 rfl)) ((funext fun j => hF2 13 j rfl).trans (funext fun j => hF1 13 j rfl)) ((funext fun j => hF2 345 j rfl).trans (funext fun j => hF1 345 j rfl))), (dkNo_k hR.2.2.1 hO0 ((hF2 25 0 rfl).trans (hF1 25 0 rfl)) ((hF2 25 4 rfl).trans (hF1 25 4 rfl)) ((hF2 25 11 rfl).trans (hF1 25 11 rfl)) ((funext fun j => hF2 32 j rfl).trans (funext fun j => hF1 32 j rfl)) ((hF2 346 0 rfl).trans (hF1 346 0 rfl)) ((hF2 346 4 rfl).trans (hF1 346 4 rfl)) ((hF2 346 5 rfl).trans (hF1 346 5 rfl)) (fun j hj => by rcases (by omega : j = 0 ∨ j = 1 ∨ j = 2 ∨ j = 3 ∨ j = 4 ∨ j = 5) with rfl | rfl | rfl | rfl | rfl | rfl <;> exact (hF2 346 _ rfl).trans (hF1 346 _ rfl))), (dkIm_k (k := 0) hR.2.2.2.1 ((hF2 37 0 rfl).trans (hF1 37 0 rfl)) ((hF2 37 4 rfl).trans (hF1 37 4 rfl)) ((hF2 37 11 rfl).trans (hF1 37 11 rfl)) ((funext fun j => hF2 44 j rfl).trans (funext fun j => hF1 44 j rfl)) ((funext fun j => hF2 350 j rfl).trans (funext fun j => hF1 350 j rfl)) ((funext fun j => hF2 351 j rfl).trans (funext fun j => hF1 351 j rfl))), (dkIm_k (k := 1) hR.2.2.2.2.1 ((hF2 48 0 rfl).trans (hF1 48 0 rfl)) ((hF2 48 4 rfl).trans (hF1 48 4 rfl)) ((hF2 48 11 rfl).trans (hF1 48 11 rfl)) ((funext fun j => hF2 55 j rfl).trans (funext fun j => hF1 55 j rfl)) ((funext fun j => hF2 350 j rfl).trans (funext fun j => hF1 350 j rfl)) ((funext fun j => hF2 351 j rfl).trans (funext fun j => hF1 351 j rfl))), (dkr_ask1 (a2 := 0) hR.2.2.1 hR.2.2.2.2.2 hF1 hF2 hc1 hc2)⟩⟩ hS hl
  ·
    refine lv_aload_n hx hb dL_law_1210 rfl (lv_at hl 2 rfl) ?_
    refine lv_aload_n hx hb dL_law_1211 rfl (lv_at hl 3 rfl) ?_
    refine lv_iload_n hx hb dL_law_1212 rfl (lv_at hl 0 rfl) ?_
    refine lv_iconst (v := 1) hx hb dL_law_1213 (by decide) ?_
    refine lv_iadd hx hb dL_law_1214 ?_
    refine va_sld hx hb hX hbl hbA hS (hin 1 (by decide)) dL_law_1215 ?_
    rw [ha1]
    refine lv_aload_n hx hb dL_law_1216 rfl (lv_at hl 3 rfl) ?_
    refine lv_iload_n hx hb dL_law_1217 rfl (lv_at hl 0 rfl) ?_
    refine lv_iconst (v := 2) hx hb dL_law_1218 (by decide) ?_
    refine lv_iadd hx hb dL_law_1219 ?_
    refine va_sld hx hb hX hbl hbA hS (hin 2 (by decide)) dL_law_1220 ?_
    rw [ha2]
    refine dk_Vi (As := [.int a1, .int a2]) (rest := []) ⟨hx, hb, hml, hown, hts⟩ (fx_X5_ask_3 l g z I a1 a2 haq hO) (cwV 2 hts gL_law_X5_ask rfl rfl rfl (by decide +kernel) ⟨Nat.le_of_ble_eq_true rfl, Nat.le_of_ble_eq_true rfl⟩) (dk_at0 hW) rfl hK hT hW hS rfl hl.1 rfl (Nat.le_of_ble_eq_true rfl) dL_law_1221 ⟨Nat.le_of_ble_eq_true rfl, Nat.le_of_ble_eq_true rfl⟩ (fun v1 I1 H L hp1 hW hS => ?_)
    obtain ⟨hF1, hO, hc1⟩ := hp1
    have hP := dkPP_F hP hF1 rfl
    refine lv_pop hx hb dL_law_1224 rfl ?_
    refine lv_aload_n hx hb dL_law_1225 rfl (lv_at hl 1 rfl) ?_
    refine lv_aload_n hx hb dL_law_1226 rfl (lv_at hl 3 rfl) ?_
    refine lv_iload_n hx hb dL_law_1227 rfl (lv_at hl 0 rfl) ?_
    refine lv_iconst (v := 1) hx hb dL_law_1228 (by decide) ?_
    refine lv_iadd hx hb dL_law_1229 ?_
    refine va_sld hx hb hX hbl hbA hS (hin 1 (by decide)) dL_law_1230 ?_
    rw [ha1]
    refine lv_aload_n hx hb dL_law_1231 rfl (lv_at hl 3 rfl) ?_
    refine lv_iload_n hx hb dL_law_1232 rfl (lv_at hl 0 rfl) ?_
    refine lv_iconst (v := 2) hx hb dL_law_1233 (by decide) ?_
    refine lv_iadd hx hb dL_law_1234 ?_
    refine va_sld hx hb hX hbl hbA hS (hin 2 (by decide)) dL_law_1235 ?_
    rw [ha2]
    refine dk_Vi (As := [.int a1, .int a2]) (rest := []) ⟨hx, hb, hml, hown, hts⟩ (fx_X6_ask_3 l g z I1 a1 a2 (by rw [show I1 346 = I 346 from funext fun j => hF1 346 j rfl]; exact hbq) hO) (cwV 2 hts gL_law_X6_ask rfl rfl rfl (by decide +kernel) ⟨Nat.le_of_ble_eq_true rfl, Nat.le_of_ble_eq_true rfl⟩) (dk_at340 hW) rfl hK hT hW hS rfl hl.1 rfl (Nat.le_of_ble_eq_true rfl) dL_law_1236 ⟨Nat.le_of_ble_eq_true rfl, Nat.le_of_ble_eq_true rfl⟩ (fun v2 I2 H L hp2 hW hS => ?_)
    obtain ⟨hF2, hO, hc2⟩ := hp2
    have hP := dkPP_F hP hF2 rfl
    refine lv_pop hx hb dL_law_1239 rfl ?_
    refine lv_goto (tgt := 1302) hx hb dL_law_1240 (by decide) ?_
    exact hend I2 _ _ ls hW ⟨hO, hP, ⟨(dkQQ_F (dkQQ_F hR.1 hF1 rfl) hF2 rfl), (dkTap_k hR.2.1 ((hF2 12 1 rfl).trans (hF1 12 1 rfl)) ((hF2 340 6 rfl).trans (hF1 340 6 rfl)) ((funext fun j => hF2 13 j rfl).trans (funext fun j => hF1 13 j rfl)) ((funext fun j => hF2 345 j rfl).trans (funext fun j => hF1 345 j rfl))), (dkNo_k hR.2.2.1 hO0 ((hF2 25 0 rfl).trans (hF1 25 0 rfl)) ((hF2 25 4 rfl).trans (hF1 25 4 rfl)) ((hF2 25 11 rfl).trans (hF1 25 11 rfl)) ((funext fun j => hF2 32 j rfl).trans (funext fun j => hF1 32 j rfl)) ((hF2 346 0 rfl).trans (hF1 346 0 rfl)) ((hF2 346 4 rfl).trans (hF1 346 4 rfl)) ((hF2 346 5 rfl).trans (hF1 346 5 rfl)) (fun j hj => by rcases (by omega : j = 0 ∨ j = 1 ∨ j = 2 ∨ j = 3 ∨ j = 4 ∨ j = 5) with rfl | rfl | rfl | rfl | rfl | rfl <;> exact (hF2 346 _ rfl).trans (hF1 346 _ rfl))), (dkIm_k (k := 0) hR.2.2.2.1 ((hF2 37 0 rfl).trans (hF1 37 0 rfl)) ((hF2 37 4 rfl).trans (hF1 37 4 rfl)) ((hF2 37 11 rfl).trans (hF1 37 11 rfl)) ((funext fun j => hF2 44 j rfl).trans (funext fun j => hF1 44 j rfl)) ((funext fun j => hF2 350 j rfl).trans (funext fun j => hF1 350 j rfl)) ((funext fun j => hF2 351 j rfl).trans (funext fun j => hF1 351 j rfl))), (dkIm_k (k := 1) hR.2.2.2.2.1 ((hF2 48 0 rfl).trans (hF1 48 0 rfl)) ((hF2 48 4 rfl).trans (hF1 48 4 rfl)) ((hF2 48 11 rfl).trans (hF1 48 11 rfl)) ((funext fun j => hF2 55 j rfl).trans (funext fun j => hF1 55 j rfl)) ((funext fun j => hF2 350 j rfl).trans (funext fun j => hF1 350 j rfl)) ((funext fun j => hF2 351 j rfl).trans (funext fun j => hF1 351 j rfl))), (dkr_ask2 hR.2.2.1 hR.2.2.2.2.2 hF1 hF2 hc1 hc2)⟩⟩ hS hl
  ·
    refine lv_aload_n hx hb dL_law_1210 rfl (lv_at hl 2 rfl) ?_
    refine lv_aload_n hx hb dL_law_1211 rfl (lv_at hl 3 rfl) ?_
    refine lv_iload_n hx hb dL_law_1212 rfl (lv_at hl 0 rfl) ?_
    refine lv_iconst (v := 1) hx hb dL_law_1213 (by decide) ?_
    refine lv_iadd hx hb dL_law_1214 ?_
    refine va_sld hx hb hX hbl hbA hS (hin 1 (by decide)) dL_law_1215 ?_
    rw [ha1]
    refine lv_aload_n hx hb dL_law_1216 rfl (lv_at hl 3 rfl) ?_
    refine lv_iload_n hx hb dL_law_1217 rfl (lv_at hl 0 rfl) ?_
    refine lv_iconst (v := 2) hx hb dL_law_1218 (by decide) ?_
    refine lv_iadd hx hb dL_law_1219 ?_
    refine va_sld hx hb hX hbl hbA hS (hin 2 (by decide)) dL_law_1220 ?_
    rw [ha2]
    refine dk_Vi (As := [.int a1, .int a2]) (rest := []) ⟨hx, hb, hml, hown, hts⟩ (fx_X5_ask_4 l g z I a1 a2 haq hO) (cwV 2 hts gL_law_X5_ask rfl rfl rfl (by decide +kernel) ⟨Nat.le_of_ble_eq_true rfl, Nat.le_of_ble_eq_true rfl⟩) (dk_at0 hW) rfl hK hT hW hS rfl hl.1 rfl (Nat.le_of_ble_eq_true rfl) dL_law_1221 ⟨Nat.le_of_ble_eq_true rfl, Nat.le_of_ble_eq_true rfl⟩ (fun v1 I1 H L hp1 hW hS => ?_)
    obtain ⟨hF1, hO, hc1⟩ := hp1
    have hP := dkPP_F hP hF1 rfl
    refine lv_pop hx hb dL_law_1224 rfl ?_
    refine lv_aload_n hx hb dL_law_1225 rfl (lv_at hl 1 rfl) ?_
    refine lv_aload_n hx hb dL_law_1226 rfl (lv_at hl 3 rfl) ?_
    refine lv_iload_n hx hb dL_law_1227 rfl (lv_at hl 0 rfl) ?_
    refine lv_iconst (v := 1) hx hb dL_law_1228 (by decide) ?_
    refine lv_iadd hx hb dL_law_1229 ?_
    refine va_sld hx hb hX hbl hbA hS (hin 1 (by decide)) dL_law_1230 ?_
    rw [ha1]
    refine lv_aload_n hx hb dL_law_1231 rfl (lv_at hl 3 rfl) ?_
    refine lv_iload_n hx hb dL_law_1232 rfl (lv_at hl 0 rfl) ?_
    refine lv_iconst (v := 2) hx hb dL_law_1233 (by decide) ?_
    refine lv_iadd hx hb dL_law_1234 ?_
    refine va_sld hx hb hX hbl hbA hS (hin 2 (by decide)) dL_law_1235 ?_
    rw [ha2]
    refine dk_Vi (As := [.int a1, .int a2]) (rest := []) ⟨hx, hb, hml, hown, hts⟩ (fx_X6_ask_4 l g z I1 a1 a2 (by rw [show I1 346 = I 346 from funext fun j => hF1 346 j rfl]; exact hbq) hO) (cwV 2 hts gL_law_X6_ask rfl rfl rfl (by decide +kernel) ⟨Nat.le_of_ble_eq_true rfl, Nat.le_of_ble_eq_true rfl⟩) (dk_at340 hW) rfl hK hT hW hS rfl hl.1 rfl (Nat.le_of_ble_eq_true rfl) dL_law_1236 ⟨Nat.le_of_ble_eq_true rfl, Nat.le_of_ble_eq_true rfl⟩ (fun v2 I2 H L hp2 hW hS => ?_)
    obtain ⟨hF2, hO, hc2⟩ := hp2
    have hP := dkPP_F hP hF2 rfl
    refine lv_pop hx hb dL_law_1239 rfl ?_
    refine lv_goto (tgt := 1302) hx hb dL_law_1240 (by decide) ?_
    exact hend I2 _ _ ls hW ⟨hO, hP, ⟨(dkQQ_F (dkQQ_F hR.1 hF1 rfl) hF2 rfl), (dkTap_k hR.2.1 ((hF2 12 1 rfl).trans (hF1 12 1 rfl)) ((hF2 340 6 rfl).trans (hF1 340 6 rfl)) ((funext fun j => hF2 13 j rfl).trans (funext fun j => hF1 13 j rfl)) ((funext fun j => hF2 345 j rfl).trans (funext fun j => hF1 345 j rfl))), (dkNo_k hR.2.2.1 hO0 ((hF2 25 0 rfl).trans (hF1 25 0 rfl)) ((hF2 25 4 rfl).trans (hF1 25 4 rfl)) ((hF2 25 11 rfl).trans (hF1 25 11 rfl)) ((funext fun j => hF2 32 j rfl).trans (funext fun j => hF1 32 j rfl)) ((hF2 346 0 rfl).trans (hF1 346 0 rfl)) ((hF2 346 4 rfl).trans (hF1 346 4 rfl)) ((hF2 346 5 rfl).trans (hF1 346 5 rfl)) (fun j hj => by rcases (by omega : j = 0 ∨ j = 1 ∨ j = 2 ∨ j = 3 ∨ j = 4 ∨ j = 5) with rfl | rfl | rfl | rfl | rfl | rfl <;> exact (hF2 346 _ rfl).trans (hF1 346 _ rfl))), (dkIm_k (k := 0) hR.2.2.2.1 ((hF2 37 0 rfl).trans (hF1 37 0 rfl)) ((hF2 37 4 rfl).trans (hF1 37 4 rfl)) ((hF2 37 11 rfl).trans (hF1 37 11 rfl)) ((funext fun j => hF2 44 j rfl).trans (funext fun j => hF1 44 j rfl)) ((funext fun j => hF2 350 j rfl).trans (funext fun j => hF1 350 j rfl)) ((funext fun j => hF2 351 j rfl).trans (funext fun j => hF1 351 j rfl))), (dkIm_k (k := 1) hR.2.2.2.2.1 ((hF2 48 0 rfl).trans (hF1 48 0 rfl)) ((hF2 48 4 rfl).trans (hF1 48 4 rfl)) ((hF2 48 11 rfl).trans (hF1 48 11 rfl)) ((funext fun j => hF2 55 j rfl).trans (funext fun j => hF1 55 j rfl)) ((funext fun j => hF2 350 j rfl).trans (funext fun j => hF1 350 j rfl)) ((funext fun j => hF2 351 j rfl).trans (funext fun j => hF1 351 j rfl))), (dkr_ask3 hR.2.2.1 hR.2.2.2.2.2 hF1 hF2 hc1 hc2)⟩⟩ hS hl
  ·
    refine lv_aload_n hx hb dL_law_1210 rfl (lv_at hl 2 rfl) ?_
    refine lv_aload_n hx hb dL_law_1211 rfl (lv_at hl 3 rfl) ?_
    refine lv_iload_n hx hb dL_law_1212 rfl (lv_at hl 0 rfl) ?_
    refine lv_iconst (v := 1) hx hb dL_law_1213 (by decide) ?_
    refine lv_iadd hx hb dL_law_1214 ?_
    refine va_sld hx hb hX hbl hbA hS (hin 1 (by decide)) dL_law_1215 ?_
    rw [ha1]
    refine lv_aload_n hx hb dL_law_1216 rfl (lv_at hl 3 rfl) ?_
    refine lv_iload_n hx hb dL_law_1217 rfl (lv_at hl 0 rfl) ?_
    refine lv_iconst (v := 2) hx hb dL_law_1218 (by decide) ?_
    refine lv_iadd hx hb dL_law_1219 ?_
    refine va_sld hx hb hX hbl hbA hS (hin 2 (by decide)) dL_law_1220 ?_
    rw [ha2]
    refine dk_Vi (As := [.int a1, .int a2]) (rest := []) ⟨hx, hb, hml, hown, hts⟩ (fx_X5_ask_5 l g z I a1 a2 haq hO) (cwV 2 hts gL_law_X5_ask rfl rfl rfl (by decide +kernel) ⟨Nat.le_of_ble_eq_true rfl, Nat.le_of_ble_eq_true rfl⟩) (dk_at0 hW) rfl hK hT hW hS rfl hl.1 rfl (Nat.le_of_ble_eq_true rfl) dL_law_1221 ⟨Nat.le_of_ble_eq_true rfl, Nat.le_of_ble_eq_true rfl⟩ (fun v1 I1 H L hp1 hW hS => ?_)
    obtain ⟨hF1, hO, hc1⟩ := hp1
    have hP := dkPP_F hP hF1 rfl
    refine lv_pop hx hb dL_law_1224 rfl ?_
    refine lv_aload_n hx hb dL_law_1225 rfl (lv_at hl 1 rfl) ?_
    refine lv_aload_n hx hb dL_law_1226 rfl (lv_at hl 3 rfl) ?_
    refine lv_iload_n hx hb dL_law_1227 rfl (lv_at hl 0 rfl) ?_
    refine lv_iconst (v := 1) hx hb dL_law_1228 (by decide) ?_
    refine lv_iadd hx hb dL_law_1229 ?_
    refine va_sld hx hb hX hbl hbA hS (hin 1 (by decide)) dL_law_1230 ?_
    rw [ha1]
    refine lv_aload_n hx hb dL_law_1231 rfl (lv_at hl 3 rfl) ?_
    refine lv_iload_n hx hb dL_law_1232 rfl (lv_at hl 0 rfl) ?_
    refine lv_iconst (v := 2) hx hb dL_law_1233 (by decide) ?_
    refine lv_iadd hx hb dL_law_1234 ?_
    refine va_sld hx hb hX hbl hbA hS (hin 2 (by decide)) dL_law_1235 ?_
    rw [ha2]
    refine dk_Vi (As := [.int a1, .int a2]) (rest := []) ⟨hx, hb, hml, hown, hts⟩ (fx_X6_ask_5 l g z I1 a1 a2 (by rw [show I1 346 = I 346 from funext fun j => hF1 346 j rfl]; exact hbq) hO) (cwV 2 hts gL_law_X6_ask rfl rfl rfl (by decide +kernel) ⟨Nat.le_of_ble_eq_true rfl, Nat.le_of_ble_eq_true rfl⟩) (dk_at340 hW) rfl hK hT hW hS rfl hl.1 rfl (Nat.le_of_ble_eq_true rfl) dL_law_1236 ⟨Nat.le_of_ble_eq_true rfl, Nat.le_of_ble_eq_true rfl⟩ (fun v2 I2 H L hp2 hW hS => ?_)
    obtain ⟨hF2, hO, hc2⟩ := hp2
    have hP := dkPP_F hP hF2 rfl
    refine lv_pop hx hb dL_law_1239 rfl ?_
    refine lv_goto (tgt := 1302) hx hb dL_law_1240 (by decide) ?_
    exact hend I2 _ _ ls hW ⟨hO, hP, ⟨(dkQQ_F (dkQQ_F hR.1 hF1 rfl) hF2 rfl), (dkTap_k hR.2.1 ((hF2 12 1 rfl).trans (hF1 12 1 rfl)) ((hF2 340 6 rfl).trans (hF1 340 6 rfl)) ((funext fun j => hF2 13 j rfl).trans (funext fun j => hF1 13 j rfl)) ((funext fun j => hF2 345 j rfl).trans (funext fun j => hF1 345 j rfl))), (dkNo_k hR.2.2.1 hO0 ((hF2 25 0 rfl).trans (hF1 25 0 rfl)) ((hF2 25 4 rfl).trans (hF1 25 4 rfl)) ((hF2 25 11 rfl).trans (hF1 25 11 rfl)) ((funext fun j => hF2 32 j rfl).trans (funext fun j => hF1 32 j rfl)) ((hF2 346 0 rfl).trans (hF1 346 0 rfl)) ((hF2 346 4 rfl).trans (hF1 346 4 rfl)) ((hF2 346 5 rfl).trans (hF1 346 5 rfl)) (fun j hj => by rcases (by omega : j = 0 ∨ j = 1 ∨ j = 2 ∨ j = 3 ∨ j = 4 ∨ j = 5) with rfl | rfl | rfl | rfl | rfl | rfl <;> exact (hF2 346 _ rfl).trans (hF1 346 _ rfl))), (dkIm_k (k := 0) hR.2.2.2.1 ((hF2 37 0 rfl).trans (hF1 37 0 rfl)) ((hF2 37 4 rfl).trans (hF1 37 4 rfl)) ((hF2 37 11 rfl).trans (hF1 37 11 rfl)) ((funext fun j => hF2 44 j rfl).trans (funext fun j => hF1 44 j rfl)) ((funext fun j => hF2 350 j rfl).trans (funext fun j => hF1 350 j rfl)) ((funext fun j => hF2 351 j rfl).trans (funext fun j => hF1 351 j rfl))), (dkIm_k (k := 1) hR.2.2.2.2.1 ((hF2 48 0 rfl).trans (hF1 48 0 rfl)) ((hF2 48 4 rfl).trans (hF1 48 4 rfl)) ((hF2 48 11 rfl).trans (hF1 48 11 rfl)) ((funext fun j => hF2 55 j rfl).trans (funext fun j => hF1 55 j rfl)) ((funext fun j => hF2 350 j rfl).trans (funext fun j => hF1 350 j rfl)) ((funext fun j => hF2 351 j rfl).trans (funext fun j => hF1 351 j rfl))), (dkr_ask4 hR.2.2.1 hR.2.2.2.2.2 hF1 hF2 hc1 hc2)⟩⟩ hS hl
  ·
    refine lv_aload_n hx hb dL_law_1210 rfl (lv_at hl 2 rfl) ?_
    refine lv_aload_n hx hb dL_law_1211 rfl (lv_at hl 3 rfl) ?_
    refine lv_iload_n hx hb dL_law_1212 rfl (lv_at hl 0 rfl) ?_
    refine lv_iconst (v := 1) hx hb dL_law_1213 (by decide) ?_
    refine lv_iadd hx hb dL_law_1214 ?_
    refine va_sld hx hb hX hbl hbA hS (hin 1 (by decide)) dL_law_1215 ?_
    rw [ha1]
    refine lv_aload_n hx hb dL_law_1216 rfl (lv_at hl 3 rfl) ?_
    refine lv_iload_n hx hb dL_law_1217 rfl (lv_at hl 0 rfl) ?_
    refine lv_iconst (v := 2) hx hb dL_law_1218 (by decide) ?_
    refine lv_iadd hx hb dL_law_1219 ?_
    refine va_sld hx hb hX hbl hbA hS (hin 2 (by decide)) dL_law_1220 ?_
    rw [ha2]
    refine dk_Vi (As := [.int a1, .int a2]) (rest := []) ⟨hx, hb, hml, hown, hts⟩ (fx_X5_ask_6 l g z I a1 a2 haq hO) (cwV 2 hts gL_law_X5_ask rfl rfl rfl (by decide +kernel) ⟨Nat.le_of_ble_eq_true rfl, Nat.le_of_ble_eq_true rfl⟩) (dk_at0 hW) rfl hK hT hW hS rfl hl.1 rfl (Nat.le_of_ble_eq_true rfl) dL_law_1221 ⟨Nat.le_of_ble_eq_true rfl, Nat.le_of_ble_eq_true rfl⟩ (fun v1 I1 H L hp1 hW hS => ?_)
    obtain ⟨hF1, hO, hc1⟩ := hp1
    have hP := dkPP_F hP hF1 rfl
    refine lv_pop hx hb dL_law_1224 rfl ?_
    refine lv_aload_n hx hb dL_law_1225 rfl (lv_at hl 1 rfl) ?_
    refine lv_aload_n hx hb dL_law_1226 rfl (lv_at hl 3 rfl) ?_
    refine lv_iload_n hx hb dL_law_1227 rfl (lv_at hl 0 rfl) ?_
    refine lv_iconst (v := 1) hx hb dL_law_1228 (by decide) ?_
    refine lv_iadd hx hb dL_law_1229 ?_
    refine va_sld hx hb hX hbl hbA hS (hin 1 (by decide)) dL_law_1230 ?_
    rw [ha1]
    refine lv_aload_n hx hb dL_law_1231 rfl (lv_at hl 3 rfl) ?_
    refine lv_iload_n hx hb dL_law_1232 rfl (lv_at hl 0 rfl) ?_
    refine lv_iconst (v := 2) hx hb dL_law_1233 (by decide) ?_
    refine lv_iadd hx hb dL_law_1234 ?_
    refine va_sld hx hb hX hbl hbA hS (hin 2 (by decide)) dL_law_1235 ?_
    rw [ha2]
    refine dk_Vi (As := [.int a1, .int a2]) (rest := []) ⟨hx, hb, hml, hown, hts⟩ (fx_X6_ask_6 l g z I1 a1 a2 (by rw [show I1 346 = I 346 from funext fun j => hF1 346 j rfl]; exact hbq) hO) (cwV 2 hts gL_law_X6_ask rfl rfl rfl (by decide +kernel) ⟨Nat.le_of_ble_eq_true rfl, Nat.le_of_ble_eq_true rfl⟩) (dk_at340 hW) rfl hK hT hW hS rfl hl.1 rfl (Nat.le_of_ble_eq_true rfl) dL_law_1236 ⟨Nat.le_of_ble_eq_true rfl, Nat.le_of_ble_eq_true rfl⟩ (fun v2 I2 H L hp2 hW hS => ?_)
    obtain ⟨hF2, hO, hc2⟩ := hp2
    have hP := dkPP_F hP hF2 rfl
    refine lv_pop hx hb dL_law_1239 rfl ?_
    refine lv_goto (tgt := 1302) hx hb dL_law_1240 (by decide) ?_
    exact hend I2 _ _ ls hW ⟨hO, hP, ⟨(dkQQ_F (dkQQ_F hR.1 hF1 rfl) hF2 rfl), (dkTap_k hR.2.1 ((hF2 12 1 rfl).trans (hF1 12 1 rfl)) ((hF2 340 6 rfl).trans (hF1 340 6 rfl)) ((funext fun j => hF2 13 j rfl).trans (funext fun j => hF1 13 j rfl)) ((funext fun j => hF2 345 j rfl).trans (funext fun j => hF1 345 j rfl))), (dkNo_k hR.2.2.1 hO0 ((hF2 25 0 rfl).trans (hF1 25 0 rfl)) ((hF2 25 4 rfl).trans (hF1 25 4 rfl)) ((hF2 25 11 rfl).trans (hF1 25 11 rfl)) ((funext fun j => hF2 32 j rfl).trans (funext fun j => hF1 32 j rfl)) ((hF2 346 0 rfl).trans (hF1 346 0 rfl)) ((hF2 346 4 rfl).trans (hF1 346 4 rfl)) ((hF2 346 5 rfl).trans (hF1 346 5 rfl)) (fun j hj => by rcases (by omega : j = 0 ∨ j = 1 ∨ j = 2 ∨ j = 3 ∨ j = 4 ∨ j = 5) with rfl | rfl | rfl | rfl | rfl | rfl <;> exact (hF2 346 _ rfl).trans (hF1 346 _ rfl))), (dkIm_k (k := 0) hR.2.2.2.1 ((hF2 37 0 rfl).trans (hF1 37 0 rfl)) ((hF2 37 4 rfl).trans (hF1 37 4 rfl)) ((hF2 37 11 rfl).trans (hF1 37 11 rfl)) ((funext fun j => hF2 44 j rfl).trans (funext fun j => hF1 44 j rfl)) ((funext fun j => hF2 350 j rfl).trans (funext fun j => hF1 350 j rfl)) ((funext fun j => hF2 351 j rfl).trans (funext fun j => hF1 351 j rfl))), (dkIm_k (k := 1) hR.2.2.2.2.1 ((hF2 48 0 rfl).trans (hF1 48 0 rfl)) ((hF2 48 4 rfl).trans (hF1 48 4 rfl)) ((hF2 48 11 rfl).trans (hF1 48 11 rfl)) ((funext fun j => hF2 55 j rfl).trans (funext fun j => hF1 55 j rfl)) ((funext fun j => hF2 350 j rfl).trans (funext fun j => hF1 350 j rfl)) ((funext fun j => hF2 351 j rfl).trans (funext fun j => hF1 351 j rfl))), (dkr_ask5 hR.2.2.1 hR.2.2.2.2.2 hF1 hF2 hc1 hc2)⟩⟩ hS hl
  ·
    refine lv_aload_n hx hb dL_law_1210 rfl (lv_at hl 2 rfl) ?_
    refine lv_aload_n hx hb dL_law_1211 rfl (lv_at hl 3 rfl) ?_
    refine lv_iload_n hx hb dL_law_1212 rfl (lv_at hl 0 rfl) ?_
    refine lv_iconst (v := 1) hx hb dL_law_1213 (by decide) ?_
    refine lv_iadd hx hb dL_law_1214 ?_
    refine va_sld hx hb hX hbl hbA hS (hin 1 (by decide)) dL_law_1215 ?_
    rw [ha1]
    refine lv_aload_n hx hb dL_law_1216 rfl (lv_at hl 3 rfl) ?_
    refine lv_iload_n hx hb dL_law_1217 rfl (lv_at hl 0 rfl) ?_
    refine lv_iconst (v := 2) hx hb dL_law_1218 (by decide) ?_
    refine lv_iadd hx hb dL_law_1219 ?_
    refine va_sld hx hb hX hbl hbA hS (hin 2 (by decide)) dL_law_1220 ?_
    rw [ha2]
    refine dk_Vi (As := [.int a1, .int a2]) (rest := []) ⟨hx, hb, hml, hown, hts⟩ (fx_X5_ask_7 l g z I a1 a2 haq hO) (cwV 2 hts gL_law_X5_ask rfl rfl rfl (by decide +kernel) ⟨Nat.le_of_ble_eq_true rfl, Nat.le_of_ble_eq_true rfl⟩) (dk_at0 hW) rfl hK hT hW hS rfl hl.1 rfl (Nat.le_of_ble_eq_true rfl) dL_law_1221 ⟨Nat.le_of_ble_eq_true rfl, Nat.le_of_ble_eq_true rfl⟩ (fun v1 I1 H L hp1 hW hS => ?_)
    obtain ⟨hF1, hO, hc1⟩ := hp1
    have hP := dkPP_F hP hF1 rfl
    refine lv_pop hx hb dL_law_1224 rfl ?_
    refine lv_aload_n hx hb dL_law_1225 rfl (lv_at hl 1 rfl) ?_
    refine lv_aload_n hx hb dL_law_1226 rfl (lv_at hl 3 rfl) ?_
    refine lv_iload_n hx hb dL_law_1227 rfl (lv_at hl 0 rfl) ?_
    refine lv_iconst (v := 1) hx hb dL_law_1228 (by decide) ?_
    refine lv_iadd hx hb dL_law_1229 ?_
    refine va_sld hx hb hX hbl hbA hS (hin 1 (by decide)) dL_law_1230 ?_
    rw [ha1]
    refine lv_aload_n hx hb dL_law_1231 rfl (lv_at hl 3 rfl) ?_
    refine lv_iload_n hx hb dL_law_1232 rfl (lv_at hl 0 rfl) ?_
    refine lv_iconst (v := 2) hx hb dL_law_1233 (by decide) ?_
    refine lv_iadd hx hb dL_law_1234 ?_
    refine va_sld hx hb hX hbl hbA hS (hin 2 (by decide)) dL_law_1235 ?_
    rw [ha2]
    refine dk_Vi (As := [.int a1, .int a2]) (rest := []) ⟨hx, hb, hml, hown, hts⟩ (fx_X6_ask_7 l g z I1 a1 a2 (by rw [show I1 346 = I 346 from funext fun j => hF1 346 j rfl]; exact hbq) hO) (cwV 2 hts gL_law_X6_ask rfl rfl rfl (by decide +kernel) ⟨Nat.le_of_ble_eq_true rfl, Nat.le_of_ble_eq_true rfl⟩) (dk_at340 hW) rfl hK hT hW hS rfl hl.1 rfl (Nat.le_of_ble_eq_true rfl) dL_law_1236 ⟨Nat.le_of_ble_eq_true rfl, Nat.le_of_ble_eq_true rfl⟩ (fun v2 I2 H L hp2 hW hS => ?_)
    obtain ⟨hF2, hO, hc2⟩ := hp2
    have hP := dkPP_F hP hF2 rfl
    refine lv_pop hx hb dL_law_1239 rfl ?_
    refine lv_goto (tgt := 1302) hx hb dL_law_1240 (by decide) ?_
    exact hend I2 _ _ ls hW ⟨hO, hP, ⟨(dkQQ_F (dkQQ_F hR.1 hF1 rfl) hF2 rfl), (dkTap_k hR.2.1 ((hF2 12 1 rfl).trans (hF1 12 1 rfl)) ((hF2 340 6 rfl).trans (hF1 340 6 rfl)) ((funext fun j => hF2 13 j rfl).trans (funext fun j => hF1 13 j rfl)) ((funext fun j => hF2 345 j rfl).trans (funext fun j => hF1 345 j rfl))), (dkNo_k hR.2.2.1 hO0 ((hF2 25 0 rfl).trans (hF1 25 0 rfl)) ((hF2 25 4 rfl).trans (hF1 25 4 rfl)) ((hF2 25 11 rfl).trans (hF1 25 11 rfl)) ((funext fun j => hF2 32 j rfl).trans (funext fun j => hF1 32 j rfl)) ((hF2 346 0 rfl).trans (hF1 346 0 rfl)) ((hF2 346 4 rfl).trans (hF1 346 4 rfl)) ((hF2 346 5 rfl).trans (hF1 346 5 rfl)) (fun j hj => by rcases (by omega : j = 0 ∨ j = 1 ∨ j = 2 ∨ j = 3 ∨ j = 4 ∨ j = 5) with rfl | rfl | rfl | rfl | rfl | rfl <;> exact (hF2 346 _ rfl).trans (hF1 346 _ rfl))), (dkIm_k (k := 0) hR.2.2.2.1 ((hF2 37 0 rfl).trans (hF1 37 0 rfl)) ((hF2 37 4 rfl).trans (hF1 37 4 rfl)) ((hF2 37 11 rfl).trans (hF1 37 11 rfl)) ((funext fun j => hF2 44 j rfl).trans (funext fun j => hF1 44 j rfl)) ((funext fun j => hF2 350 j rfl).trans (funext fun j => hF1 350 j rfl)) ((funext fun j => hF2 351 j rfl).trans (funext fun j => hF1 351 j rfl))), (dkIm_k (k := 1) hR.2.2.2.2.1 ((hF2 48 0 rfl).trans (hF1 48 0 rfl)) ((hF2 48 4 rfl).trans (hF1 48 4 rfl)) ((hF2 48 11 rfl).trans (hF1 48 11 rfl)) ((funext fun j => hF2 55 j rfl).trans (funext fun j => hF1 55 j rfl)) ((funext fun j => hF2 350 j rfl).trans (funext fun j => hF1 350 j rfl)) ((funext fun j => hF2 351 j rfl).trans (funext fun j => hF1 351 j rfl))), (dkr_ask6 hR.2.2.1 hR.2.2.2.2.2 hF1 hF2 hc1 hc2)⟩⟩ hS hl

set_option maxHeartbeats 4000000 in
set_option maxRecDepth 100000 in
theorem k_trace {p : Program} {e : Env} {s : State} {m : MethodId} {below : List Frame} {meth : Method} {c : Code} (l : Launch) {b L z : Nat} {xs : Nat → Int32} {g : dkG} {Q : State → Prop} {H : Heap} {locs : List Loc} {ls : Array Slot} {I : dkI} {x : Int32} (hz0 : z = s.heap.size) (hx : p.tables.exec = Jvm.exec) (hb : c.code = code) (hml : c.maxLocals = 4) (hown : s.vm.findClass RL = some m.cls) (hts : ∀ w ∈ wsL_law, w.before #[Value.ref b] s = true) (hX : va_X b L xs s s.heap) (hbl : b < s.heap.size) (hL : L ≤ 448) (hx0 : 0 ≤ x.toInt) (hx1 : x.toInt + 7 ≤ (L : Int)) (hK : dkK g s) (hT : dkST z s) (hW : dkW g z I H) (hI : dkInv I) (hS : va_S (dkA z) s.heap H locs) (hl : lv_has ls 4 [(3, .int x), (2, .ref (z + 340)), (1, .ref (z + 0)), (0, .ref b)]) (hend : ∀ (I : dkI) (H : Heap) (locs : List Loc) (ls : Array Slot), dkW g z I H → dkInv I → va_S (dkA z) s.heap H locs → lv_has ls 4 [(3, .int x), (2, .ref (z + 340)), (1, .ref (z + 0)), (0, .ref b)] → W p l e room_1 s m #[Value.ref b] below meth c H locs (0 + 1 + 339 + 1 + 13) (0 + 10 + 2701 + 26 + 2055) Q (F0 m 1302 ls [])) : W p l e room_1 s m #[Value.ref b] below meth c H locs (0 + 1 + 339 + 1 + 13) (0 + 10 + 2701 + 26 + 2055) Q (F0 m 1243 ls []) := by
  have hbA : ¬ dkA z b := by unfold dkA; omega
  obtain ⟨hO, hP, hR⟩ := hI
  have hO0 := hO
  have hP0 := hP
  have hin : ∀ k : Nat, k < 7 → vp_in (x + Int32.ofNat k) L := fun k hk => dk_lawIn hx0 hx1 hL hk
  obtain ⟨a1, ha1⟩ : ∃ y : Int32, xs (Int32.toNatClampNeg (x + 1)) = y := ⟨_, rfl⟩
  refine lv_aload_n hx hb dL_law_1243 rfl (lv_at hl 2 rfl) ?_
  refine lv_aload_n hx hb dL_law_1244 rfl (lv_at hl 3 rfl) ?_
  refine lv_iload_n hx hb dL_law_1245 rfl (lv_at hl 0 rfl) ?_
  refine lv_iconst (v := 1) hx hb dL_law_1246 (by decide) ?_
  refine lv_iadd hx hb dL_law_1247 ?_
  refine va_sld hx hb hX hbl hbA hS (hin 1 (by decide)) dL_law_1248 ?_
  rw [ha1]
  refine dk_Vi (As := [.int a1]) (rest := []) ⟨hx, hb, hml, hown, hts⟩ (fx_X5_trace_1 l g z I a1 hO) (cwV 1 hts gL_law_X5_trace rfl rfl rfl (by decide +kernel) ⟨Nat.le_of_ble_eq_true rfl, Nat.le_of_ble_eq_true rfl⟩) (dk_at0 hW) rfl hK hT hW hS rfl hl.1 rfl (Nat.le_of_ble_eq_true rfl) dL_law_1249 ⟨Nat.le_of_ble_eq_true rfl, Nat.le_of_ble_eq_true rfl⟩ (fun v1 I1 H L hp1 hW hS => ?_)
  obtain ⟨hF1, hO, hc1⟩ := hp1
  have hP := dkPP_F hP hF1 rfl
  refine lv_aload_n hx hb dL_law_1252 rfl (lv_at hl 1 rfl) ?_
  refine lv_aload_n hx hb dL_law_1253 rfl (lv_at hl 3 rfl) ?_
  refine lv_iload_n hx hb dL_law_1254 rfl (lv_at hl 0 rfl) ?_
  refine lv_iconst (v := 1) hx hb dL_law_1255 (by decide) ?_
  refine lv_iadd hx hb dL_law_1256 ?_
  refine va_sld hx hb hX hbl hbA hS (hin 1 (by decide)) dL_law_1257 ?_
  rw [ha1]
  refine dk_Vi (As := [.int a1]) (rest := [.int v1]) ⟨hx, hb, hml, hown, hts⟩ (fx_X6_trace_1 l g z I1 a1 hO) (cwV 1 hts gL_law_X6_trace rfl rfl rfl (by decide +kernel) ⟨Nat.le_of_ble_eq_true rfl, Nat.le_of_ble_eq_true rfl⟩) (dk_at340 hW) rfl hK hT hW hS rfl hl.1 rfl (Nat.le_of_ble_eq_true rfl) dL_law_1258 ⟨Nat.le_of_ble_eq_true rfl, Nat.le_of_ble_eq_true rfl⟩ (fun v2 I2 H L hp2 hW hS => ?_)
  obtain ⟨hF2, hO, hc2⟩ := hp2
  have hP := dkPP_F hP hF2 rfl
  refine lv_icmp_eq (tgt := 1302) hx hb dL_law_1261 (by decide) (fun c9 => ?_) (fun c9 => ?_)
  ·
    exact hend I2 _ _ ls hW ⟨hO, hP, ⟨(dkQQ_F (dkQQ_F hR.1 hF1 rfl) hF2 rfl), (dkTap_k hR.2.1 ((hF2 12 1 rfl).trans (hF1 12 1 rfl)) ((hF2 340 6 rfl).trans (hF1 340 6 rfl)) ((funext fun j => hF2 13 j rfl).trans (funext fun j => hF1 13 j rfl)) ((funext fun j => hF2 345 j rfl).trans (funext fun j => hF1 345 j rfl))), (dkNo_k hR.2.2.1 hO0 ((hF2 25 0 rfl).trans (hF1 25 0 rfl)) ((hF2 25 4 rfl).trans (hF1 25 4 rfl)) ((hF2 25 11 rfl).trans (hF1 25 11 rfl)) ((funext fun j => hF2 32 j rfl).trans (funext fun j => hF1 32 j rfl)) ((hF2 346 0 rfl).trans (hF1 346 0 rfl)) ((hF2 346 4 rfl).trans (hF1 346 4 rfl)) ((hF2 346 5 rfl).trans (hF1 346 5 rfl)) (fun j hj => by rcases (by omega : j = 0 ∨ j = 1 ∨ j = 2 ∨ j = 3 ∨ j = 4 ∨ j = 5) with rfl | rfl | rfl | rfl | rfl | rfl <;> exact (hF2 346 _ rfl).trans (hF1 346 _ rfl))), (dkIm_k (k := 0) hR.2.2.2.1 ((hF2 37 0 rfl).trans (hF1 37 0 rfl)) ((hF2 37 4 rfl).trans (hF1 37 4 rfl)) ((hF2 37 11 rfl).trans (hF1 37 11 rfl)) ((funext fun j => hF2 44 j rfl).trans (funext fun j => hF1 44 j rfl)) ((funext fun j => hF2 350 j rfl).trans (funext fun j => hF1 350 j rfl)) ((funext fun j => hF2 351 j rfl).trans (funext fun j => hF1 351 j rfl))), (dkIm_k (k := 1) hR.2.2.2.2.1 ((hF2 48 0 rfl).trans (hF1 48 0 rfl)) ((hF2 48 4 rfl).trans (hF1 48 4 rfl)) ((hF2 48 11 rfl).trans (hF1 48 11 rfl)) ((funext fun j => hF2 55 j rfl).trans (funext fun j => hF1 55 j rfl)) ((funext fun j => hF2 350 j rfl).trans (funext fun j => hF1 350 j rfl)) ((funext fun j => hF2 351 j rfl).trans (funext fun j => hF1 351 j rfl))), (dkTr_k hR.2.2.2.2.2 ((hF2 338 2 rfl).trans (hF1 338 2 rfl)) ((hF2 340 25 rfl).trans (hF1 340 25 rfl)) ((funext fun j => hF2 339 j rfl).trans (funext fun j => hF1 339 j rfl)) ((funext fun j => hF2 353 j rfl).trans (funext fun j => hF1 353 j rfl)))⟩⟩ hS hl
  · exact absurd ((dkr_trace hR.2.2.2.2.2 hF1 hF2 hc1 hc2)) c9

set_option maxHeartbeats 4000000 in
set_option maxRecDepth 100000 in
theorem k_count {p : Program} {e : Env} {s : State} {m : MethodId} {below : List Frame} {meth : Method} {c : Code} (l : Launch) {b L z : Nat} {xs : Nat → Int32} {g : dkG} {Q : State → Prop} {H : Heap} {locs : List Loc} {ls : Array Slot} {I : dkI} {x : Int32} (hz0 : z = s.heap.size) (hx : p.tables.exec = Jvm.exec) (hb : c.code = code) (hml : c.maxLocals = 4) (hown : s.vm.findClass RL = some m.cls) (hts : ∀ w ∈ wsL_law, w.before #[Value.ref b] s = true) (hX : va_X b L xs s s.heap) (hbl : b < s.heap.size) (hL : L ≤ 448) (hx0 : 0 ≤ x.toInt) (hx1 : x.toInt + 7 ≤ (L : Int)) (hK : dkK g s) (hT : dkST z s) (hW : dkW g z I H) (hI : dkInv I) (hS : va_S (dkA z) s.heap H locs) (hl : lv_has ls 4 [(3, .int x), (2, .ref (z + 340)), (1, .ref (z + 0)), (0, .ref b)]) (hend : ∀ (I : dkI) (H : Heap) (locs : List Loc) (ls : Array Slot), dkW g z I H → dkInv I → va_S (dkA z) s.heap H locs → lv_has ls 4 [(3, .int x), (2, .ref (z + 340)), (1, .ref (z + 0)), (0, .ref b)] → W p l e room_1 s m #[Value.ref b] below meth c H locs (0 + 1 + 339 + 1 + 13) (0 + 10 + 2701 + 26 + 2055) Q (F0 m 1302 ls [])) : W p l e room_1 s m #[Value.ref b] below meth c H locs (0 + 1 + 339 + 1 + 13) (0 + 10 + 2701 + 26 + 2055) Q (F0 m 1266 ls []) := by
  have hbA : ¬ dkA z b := by unfold dkA; omega
  obtain ⟨hO, hP, hR⟩ := hI
  have hO0 := hO
  have hP0 := hP
  have hin : ∀ k : Nat, k < 7 → vp_in (x + Int32.ofNat k) L := fun k hk => dk_lawIn hx0 hx1 hL hk
  obtain ⟨a1, ha1⟩ : ∃ y : Int32, xs (Int32.toNatClampNeg (x + 1)) = y := ⟨_, rfl⟩
  refine lv_aload_n hx hb dL_law_1266 rfl (lv_at hl 2 rfl) ?_
  refine lv_aload_n hx hb dL_law_1267 rfl (lv_at hl 3 rfl) ?_
  refine lv_iload_n hx hb dL_law_1268 rfl (lv_at hl 0 rfl) ?_
  refine lv_iconst (v := 1) hx hb dL_law_1269 (by decide) ?_
  refine lv_iadd hx hb dL_law_1270 ?_
  refine va_sld hx hb hX hbl hbA hS (hin 1 (by decide)) dL_law_1271 ?_
  rw [ha1]
  refine dk_Vi (As := [.int a1]) (rest := []) ⟨hx, hb, hml, hown, hts⟩ (c_X5_count_0 l g z I a1 hO) (cwV 1 hts gL_law_X5_count rfl rfl rfl (by decide +kernel) ⟨Nat.le_of_ble_eq_true rfl, Nat.le_of_ble_eq_true rfl⟩) (dk_at0 hW) rfl hK hT hW hS rfl hl.1 rfl (Nat.le_of_ble_eq_true rfl) dL_law_1272 ⟨Nat.le_of_ble_eq_true rfl, Nat.le_of_ble_eq_true rfl⟩ (fun v1 I1 H L hp1 hW hS => ?_)
  obtain ⟨hF1, hO, hc1⟩ := hp1
  have hP := dkPP_F hP hF1 rfl
  refine lv_pop hx hb dL_law_1275 rfl ?_
  refine lv_aload_n hx hb dL_law_1276 rfl (lv_at hl 1 rfl) ?_
  refine lv_aload_n hx hb dL_law_1277 rfl (lv_at hl 3 rfl) ?_
  refine lv_iload_n hx hb dL_law_1278 rfl (lv_at hl 0 rfl) ?_
  refine lv_iconst (v := 1) hx hb dL_law_1279 (by decide) ?_
  refine lv_iadd hx hb dL_law_1280 ?_
  refine va_sld hx hb hX hbl hbA hS (hin 1 (by decide)) dL_law_1281 ?_
  rw [ha1]
  refine dk_Vi (As := [.int a1]) (rest := []) ⟨hx, hb, hml, hown, hts⟩ (c_X6_count_0 l g z I1 a1 hO) (cwV 1 hts gL_law_X6_count rfl rfl rfl (by decide +kernel) ⟨Nat.le_of_ble_eq_true rfl, Nat.le_of_ble_eq_true rfl⟩) (dk_at340 hW) rfl hK hT hW hS rfl hl.1 rfl (Nat.le_of_ble_eq_true rfl) dL_law_1282 ⟨Nat.le_of_ble_eq_true rfl, Nat.le_of_ble_eq_true rfl⟩ (fun v2 I2 H L hp2 hW hS => ?_)
  obtain ⟨hF2, hO, hc2⟩ := hp2
  have hP := dkPP_F hP hF2 rfl
  refine lv_pop hx hb dL_law_1285 rfl ?_
  refine lv_goto (tgt := 1302) hx hb dL_law_1286 (by decide) ?_
  exact hend I2 _ _ ls hW ⟨hO, hP, ⟨(dkQQ_F (dkQQ_F hR.1 hF1 rfl) hF2 rfl), (dkTap_k hR.2.1 ((hF2 12 1 rfl).trans (hF1 12 1 rfl)) ((hF2 340 6 rfl).trans (hF1 340 6 rfl)) ((funext fun j => hF2 13 j rfl).trans (funext fun j => hF1 13 j rfl)) ((funext fun j => hF2 345 j rfl).trans (funext fun j => hF1 345 j rfl))), (dkNo_k hR.2.2.1 hO0 ((hF2 25 0 rfl).trans (hF1 25 0 rfl)) ((hF2 25 4 rfl).trans (hF1 25 4 rfl)) ((hF2 25 11 rfl).trans (hF1 25 11 rfl)) ((funext fun j => hF2 32 j rfl).trans (funext fun j => hF1 32 j rfl)) ((hF2 346 0 rfl).trans (hF1 346 0 rfl)) ((hF2 346 4 rfl).trans (hF1 346 4 rfl)) ((hF2 346 5 rfl).trans (hF1 346 5 rfl)) (fun j hj => by rcases (by omega : j = 0 ∨ j = 1 ∨ j = 2 ∨ j = 3 ∨ j = 4 ∨ j = 5) with rfl | rfl | rfl | rfl | rfl | rfl <;> exact (hF2 346 _ rfl).trans (hF1 346 _ rfl))), (dkIm_k (k := 0) hR.2.2.2.1 ((hF2 37 0 rfl).trans (hF1 37 0 rfl)) ((hF2 37 4 rfl).trans (hF1 37 4 rfl)) ((hF2 37 11 rfl).trans (hF1 37 11 rfl)) ((funext fun j => hF2 44 j rfl).trans (funext fun j => hF1 44 j rfl)) ((funext fun j => hF2 350 j rfl).trans (funext fun j => hF1 350 j rfl)) ((funext fun j => hF2 351 j rfl).trans (funext fun j => hF1 351 j rfl))), (dkIm_k (k := 1) hR.2.2.2.2.1 ((hF2 48 0 rfl).trans (hF1 48 0 rfl)) ((hF2 48 4 rfl).trans (hF1 48 4 rfl)) ((hF2 48 11 rfl).trans (hF1 48 11 rfl)) ((funext fun j => hF2 55 j rfl).trans (funext fun j => hF1 55 j rfl)) ((funext fun j => hF2 350 j rfl).trans (funext fun j => hF1 350 j rfl)) ((funext fun j => hF2 351 j rfl).trans (funext fun j => hF1 351 j rfl))), (dkTr_k hR.2.2.2.2.2 ((hF2 338 2 rfl).trans (hF1 338 2 rfl)) ((hF2 340 25 rfl).trans (hF1 340 25 rfl)) ((funext fun j => hF2 339 j rfl).trans (funext fun j => hF1 339 j rfl)) ((funext fun j => hF2 353 j rfl).trans (funext fun j => hF1 353 j rfl)))⟩⟩ hS hl

set_option maxHeartbeats 4000000 in
set_option maxRecDepth 100000 in
theorem k_status {p : Program} {e : Env} {s : State} {m : MethodId} {below : List Frame} {meth : Method} {c : Code} (l : Launch) {b L z : Nat} {xs : Nat → Int32} {g : dkG} {Q : State → Prop} {H : Heap} {locs : List Loc} {ls : Array Slot} {I : dkI} {x : Int32} (hz0 : z = s.heap.size) (hx : p.tables.exec = Jvm.exec) (hb : c.code = code) (hml : c.maxLocals = 4) (hown : s.vm.findClass RL = some m.cls) (hts : ∀ w ∈ wsL_law, w.before #[Value.ref b] s = true) (hX : va_X b L xs s s.heap) (hbl : b < s.heap.size) (hL : L ≤ 448) (hx0 : 0 ≤ x.toInt) (hx1 : x.toInt + 7 ≤ (L : Int)) (hK : dkK g s) (hT : dkST z s) (hW : dkW g z I H) (hI : dkInv I) (hS : va_S (dkA z) s.heap H locs) (hl : lv_has ls 4 [(3, .int x), (2, .ref (z + 340)), (1, .ref (z + 0)), (0, .ref b)]) (hend : ∀ (I : dkI) (H : Heap) (locs : List Loc) (ls : Array Slot), dkW g z I H → dkInv I → va_S (dkA z) s.heap H locs → lv_has ls 4 [(3, .int x), (2, .ref (z + 340)), (1, .ref (z + 0)), (0, .ref b)] → W p l e room_1 s m #[Value.ref b] below meth c H locs (0 + 1 + 339 + 1 + 13) (0 + 10 + 2701 + 26 + 2055) Q (F0 m 1302 ls [])) : W p l e room_1 s m #[Value.ref b] below meth c H locs (0 + 1 + 339 + 1 + 13) (0 + 10 + 2701 + 26 + 2055) Q (F0 m 1289 ls []) := by
  have hbA : ¬ dkA z b := by unfold dkA; omega
  obtain ⟨hO, hP, hR⟩ := hI
  have hO0 := hO
  have hP0 := hP
  have hin : ∀ k : Nat, k < 7 → vp_in (x + Int32.ofNat k) L := fun k hk => dk_lawIn hx0 hx1 hL hk
  refine lv_aload_n hx hb dL_law_1289 rfl (lv_at hl 2 rfl) ?_
  refine dk_Vi (As := []) (rest := []) ⟨hx, hb, hml, hown, hts⟩ (c_X5_status_0 l g z I hO) (cwV 0 hts gL_law_X5_status rfl rfl rfl (by decide +kernel) ⟨Nat.le_of_ble_eq_true rfl, Nat.le_of_ble_eq_true rfl⟩) (dk_at0 hW) rfl hK hT hW hS rfl hl.1 rfl (Nat.le_of_ble_eq_true rfl) dL_law_1290 ⟨Nat.le_of_ble_eq_true rfl, Nat.le_of_ble_eq_true rfl⟩ (fun v1 I1 H L hp1 hW hS => ?_)
  obtain ⟨hF1, hO, hc1⟩ := hp1
  have hP := dkPP_F hP hF1 rfl
  refine lv_pop hx hb dL_law_1293 rfl ?_
  refine lv_aload_n hx hb dL_law_1294 rfl (lv_at hl 1 rfl) ?_
  refine dk_Vi (As := []) (rest := []) ⟨hx, hb, hml, hown, hts⟩ (c_X6_status_0 l g z I1 hO) (cwV 0 hts gL_law_X6_status rfl rfl rfl (by decide +kernel) ⟨Nat.le_of_ble_eq_true rfl, Nat.le_of_ble_eq_true rfl⟩) (dk_at340 hW) rfl hK hT hW hS rfl hl.1 rfl (Nat.le_of_ble_eq_true rfl) dL_law_1295 ⟨Nat.le_of_ble_eq_true rfl, Nat.le_of_ble_eq_true rfl⟩ (fun v2 I2 H L hp2 hW hS => ?_)
  obtain ⟨hF2, hO, hc2⟩ := hp2
  have hP := dkPP_F hP hF2 rfl
  refine lv_pop hx hb dL_law_1298 rfl ?_
  refine lv_goto (tgt := 1302) hx hb dL_law_1299 (by decide) ?_
  exact hend I2 _ _ ls hW ⟨hO, hP, ⟨(dkQQ_F (dkQQ_F hR.1 hF1 rfl) hF2 rfl), (dkTap_k hR.2.1 ((hF2 12 1 rfl).trans (hF1 12 1 rfl)) ((hF2 340 6 rfl).trans (hF1 340 6 rfl)) ((funext fun j => hF2 13 j rfl).trans (funext fun j => hF1 13 j rfl)) ((funext fun j => hF2 345 j rfl).trans (funext fun j => hF1 345 j rfl))), (dkNo_k hR.2.2.1 hO0 ((hF2 25 0 rfl).trans (hF1 25 0 rfl)) ((hF2 25 4 rfl).trans (hF1 25 4 rfl)) ((hF2 25 11 rfl).trans (hF1 25 11 rfl)) ((funext fun j => hF2 32 j rfl).trans (funext fun j => hF1 32 j rfl)) ((hF2 346 0 rfl).trans (hF1 346 0 rfl)) ((hF2 346 4 rfl).trans (hF1 346 4 rfl)) ((hF2 346 5 rfl).trans (hF1 346 5 rfl)) (fun j hj => by rcases (by omega : j = 0 ∨ j = 1 ∨ j = 2 ∨ j = 3 ∨ j = 4 ∨ j = 5) with rfl | rfl | rfl | rfl | rfl | rfl <;> exact (hF2 346 _ rfl).trans (hF1 346 _ rfl))), (dkIm_k (k := 0) hR.2.2.2.1 ((hF2 37 0 rfl).trans (hF1 37 0 rfl)) ((hF2 37 4 rfl).trans (hF1 37 4 rfl)) ((hF2 37 11 rfl).trans (hF1 37 11 rfl)) ((funext fun j => hF2 44 j rfl).trans (funext fun j => hF1 44 j rfl)) ((funext fun j => hF2 350 j rfl).trans (funext fun j => hF1 350 j rfl)) ((funext fun j => hF2 351 j rfl).trans (funext fun j => hF1 351 j rfl))), (dkIm_k (k := 1) hR.2.2.2.2.1 ((hF2 48 0 rfl).trans (hF1 48 0 rfl)) ((hF2 48 4 rfl).trans (hF1 48 4 rfl)) ((hF2 48 11 rfl).trans (hF1 48 11 rfl)) ((funext fun j => hF2 55 j rfl).trans (funext fun j => hF1 55 j rfl)) ((funext fun j => hF2 350 j rfl).trans (funext fun j => hF1 350 j rfl)) ((funext fun j => hF2 351 j rfl).trans (funext fun j => hF1 351 j rfl))), (dkTr_k hR.2.2.2.2.2 ((hF2 338 2 rfl).trans (hF1 338 2 rfl)) ((hF2 340 25 rfl).trans (hF1 340 25 rfl)) ((funext fun j => hF2 339 j rfl).trans (funext fun j => hF1 339 j rfl)) ((funext fun j => hF2 353 j rfl).trans (funext fun j => hF1 353 j rfl)))⟩⟩ hS hl
