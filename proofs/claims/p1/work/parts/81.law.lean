set_option maxHeartbeats 4000000 in
set_option maxRecDepth 100000 in
theorem k_least {p : Program} {e : Env} {s : State} {m : MethodId} {below : List Frame} {meth : Method} {c : Code} (l : Launch) {b L z : Nat} {xs : Nat → Int32} {g : dkG} {Q : State → Prop} {H : Heap} {locs : List Loc} {ls : Array Slot} (hz0 : z = s.heap.size) (hx : p.tables.exec = Jvm.exec) (hb : c.code = code) (hml : c.maxLocals = 4) (hown : s.vm.findClass RL = some m.cls) (hts : ∀ w ∈ wsL_law, w.before #[Value.ref b] s = true) (hX : va_X b L xs s s.heap) (hbl : b < s.heap.size) (hL : L = 7) (hK : dkK g s) (hW : dkW g z dkI0 H) (hS : va_S (dkA z) s.heap H locs) (hl : lv_has ls 4 [(3, .int 0), (2, .ref (z + 340)), (1, .ref (z + 0)), (0, .ref b)]) (hend : ∀ (H : Heap) (locs : List Loc) (ls : Array Slot), va_S (dkA z) s.heap H locs → lv_has ls 4 [(3, .int 0), (2, .ref (z + 340)), (1, .ref (z + 0)), (0, .ref b)] → W p l e room_1 s m #[Value.ref b] below meth c H locs (0 + 1 + 339 + 1 + 13) (0 + 10 + 2701 + 26 + 2055) Q (F0 m 1302 ls [])) : W p l e room_1 s m #[Value.ref b] below meth c H locs (0 + 1 + 339 + 1 + 13) (0 + 10 + 2701 + 26 + 2055) Q (F0 m 726 ls []) := by
  have hbA : ¬ dkA z b := by unfold dkA; omega
  have hin : ∀ k : Nat, k < 7 → vp_in (0 + Int32.ofNat k) L := by
    intro k hk
    rw [hL]
    rcases (by omega : k = 0 ∨ k = 1 ∨ k = 2 ∨ k = 3 ∨ k = 4 ∨ k = 5 ∨ k = 6) with rfl | rfl | rfl | rfl | rfl | rfl | rfl <;> exact vp_in_iff.mpr ⟨by decide, by decide⟩
  obtain ⟨a1, ha1⟩ : ∃ y : Int32, xs (Int32.toNatClampNeg (0 + 1)) = y := ⟨_, rfl⟩
  refine lv_aload_n hx hb dL_law_726 rfl (lv_at hl 2 rfl) ?_
  refine lv_aload_n hx hb dL_law_727 rfl (lv_at hl 3 rfl) ?_
  refine lv_iload_n hx hb dL_law_728 rfl (lv_at hl 0 rfl) ?_
  refine lv_iconst (v := 1) hx hb dL_law_729 (by decide) ?_
  refine lv_iadd hx hb dL_law_730 ?_
  refine va_sld hx hb hX hbl hbA hS (hin 1 (by decide)) dL_law_731 ?_
  rw [ha1]
  refine dk_Vi (As := [.int a1]) (rest := []) ⟨hx, hb, hml, hown, hts⟩ (c_X5_least_0 l g z dkI0 a1 (dkN_lit (0) rfl)) (cwV 1 hts gL_law_X5_least rfl rfl rfl (by decide +kernel) ⟨Nat.le_of_ble_eq_true rfl, Nat.le_of_ble_eq_true rfl⟩) (dk_at0 hW) rfl hK hW hS rfl hl.1 rfl (Nat.le_of_ble_eq_true rfl) dL_law_732 ⟨Nat.le_of_ble_eq_true rfl, Nat.le_of_ble_eq_true rfl⟩ (fun v1 I1 H L hp1 hW hS => ?_)
  obtain ⟨dv1, hF1, -⟩ := hp1
  refine lv_aload_n hx hb dL_law_735 rfl (lv_at hl 1 rfl) ?_
  refine lv_aload_n hx hb dL_law_736 rfl (lv_at hl 3 rfl) ?_
  refine lv_iload_n hx hb dL_law_737 rfl (lv_at hl 0 rfl) ?_
  refine lv_iconst (v := 1) hx hb dL_law_738 (by decide) ?_
  refine lv_iadd hx hb dL_law_739 ?_
  refine va_sld hx hb hX hbl hbA hS (hin 1 (by decide)) dL_law_740 ?_
  rw [ha1]
  refine dk_Vi (As := [.int a1]) (rest := [.int v1]) ⟨hx, hb, hml, hown, hts⟩ (c_X6_least_0 l g z I1 a1 (by rw [hF1 346 4 rfl]; exact dkN_lit (0) rfl)) (cwV 1 hts gL_law_X6_least rfl rfl rfl (by decide +kernel) ⟨Nat.le_of_ble_eq_true rfl, Nat.le_of_ble_eq_true rfl⟩) (dk_at340 hW) rfl hK hW hS rfl hl.1 rfl (Nat.le_of_ble_eq_true rfl) dL_law_741 ⟨Nat.le_of_ble_eq_true rfl, Nat.le_of_ble_eq_true rfl⟩ (fun v2 I2 H L hp2 hW hS => ?_)
  obtain ⟨dv2, hF2, -⟩ := hp2
  refine lv_icmp_eq (tgt := 1302) hx hb dL_law_744 (by decide) (fun c9 => ?_) (fun c9 => ?_)
  · exact hend _ _ ls hS hl
  · exact absurd (Int32.toInt_inj.mp ((dkN_one dv1).trans (dkN_one dv2).symm)) c9

set_option maxHeartbeats 4000000 in
set_option maxRecDepth 100000 in
theorem k_walks {p : Program} {e : Env} {s : State} {m : MethodId} {below : List Frame} {meth : Method} {c : Code} (l : Launch) {b L z : Nat} {xs : Nat → Int32} {g : dkG} {Q : State → Prop} {H : Heap} {locs : List Loc} {ls : Array Slot} (hz0 : z = s.heap.size) (hx : p.tables.exec = Jvm.exec) (hb : c.code = code) (hml : c.maxLocals = 4) (hown : s.vm.findClass RL = some m.cls) (hts : ∀ w ∈ wsL_law, w.before #[Value.ref b] s = true) (hX : va_X b L xs s s.heap) (hbl : b < s.heap.size) (hL : L = 7) (hK : dkK g s) (hW : dkW g z dkI0 H) (hS : va_S (dkA z) s.heap H locs) (hl : lv_has ls 4 [(3, .int 0), (2, .ref (z + 340)), (1, .ref (z + 0)), (0, .ref b)]) (hend : ∀ (H : Heap) (locs : List Loc) (ls : Array Slot), va_S (dkA z) s.heap H locs → lv_has ls 4 [(3, .int 0), (2, .ref (z + 340)), (1, .ref (z + 0)), (0, .ref b)] → W p l e room_1 s m #[Value.ref b] below meth c H locs (0 + 1 + 339 + 1 + 13) (0 + 10 + 2701 + 26 + 2055) Q (F0 m 1302 ls [])) : W p l e room_1 s m #[Value.ref b] below meth c H locs (0 + 1 + 339 + 1 + 13) (0 + 10 + 2701 + 26 + 2055) Q (F0 m 749 ls []) := by
  have hbA : ¬ dkA z b := by unfold dkA; omega
  have hin : ∀ k : Nat, k < 7 → vp_in (0 + Int32.ofNat k) L := by
    intro k hk
    rw [hL]
    rcases (by omega : k = 0 ∨ k = 1 ∨ k = 2 ∨ k = 3 ∨ k = 4 ∨ k = 5 ∨ k = 6) with rfl | rfl | rfl | rfl | rfl | rfl | rfl <;> exact vp_in_iff.mpr ⟨by decide, by decide⟩
  obtain ⟨a1, ha1⟩ : ∃ y : Int32, xs (Int32.toNatClampNeg (0 + 1)) = y := ⟨_, rfl⟩
  refine lv_aload_n hx hb dL_law_749 rfl (lv_at hl 2 rfl) ?_
  refine lv_aload_n hx hb dL_law_750 rfl (lv_at hl 3 rfl) ?_
  refine lv_iload_n hx hb dL_law_751 rfl (lv_at hl 0 rfl) ?_
  refine lv_iconst (v := 1) hx hb dL_law_752 (by decide) ?_
  refine lv_iadd hx hb dL_law_753 ?_
  refine va_sld hx hb hX hbl hbA hS (hin 1 (by decide)) dL_law_754 ?_
  rw [ha1]
  refine dk_Vi (As := [.int a1]) (rest := []) ⟨hx, hb, hml, hown, hts⟩ (c_X5_walks_0 l g z dkI0 a1 (dkN_lit (0) rfl)) (cwV 1 hts gL_law_X5_walks rfl rfl rfl (by decide +kernel) ⟨Nat.le_of_ble_eq_true rfl, Nat.le_of_ble_eq_true rfl⟩) (dk_at0 hW) rfl hK hW hS rfl hl.1 rfl (Nat.le_of_ble_eq_true rfl) dL_law_755 ⟨Nat.le_of_ble_eq_true rfl, Nat.le_of_ble_eq_true rfl⟩ (fun v1 I1 H L hp1 hW hS => ?_)
  obtain ⟨dv1, hF1, -⟩ := hp1
  refine lv_aload_n hx hb dL_law_758 rfl (lv_at hl 1 rfl) ?_
  refine lv_aload_n hx hb dL_law_759 rfl (lv_at hl 3 rfl) ?_
  refine lv_iload_n hx hb dL_law_760 rfl (lv_at hl 0 rfl) ?_
  refine lv_iconst (v := 1) hx hb dL_law_761 (by decide) ?_
  refine lv_iadd hx hb dL_law_762 ?_
  refine va_sld hx hb hX hbl hbA hS (hin 1 (by decide)) dL_law_763 ?_
  rw [ha1]
  refine dk_Vi (As := [.int a1]) (rest := [.int v1]) ⟨hx, hb, hml, hown, hts⟩ (c_X6_walks_0 l g z I1 a1 (by rw [hF1 346 4 rfl]; exact dkN_lit (0) rfl)) (cwV 1 hts gL_law_X6_walks rfl rfl rfl (by decide +kernel) ⟨Nat.le_of_ble_eq_true rfl, Nat.le_of_ble_eq_true rfl⟩) (dk_at340 hW) rfl hK hW hS rfl hl.1 rfl (Nat.le_of_ble_eq_true rfl) dL_law_764 ⟨Nat.le_of_ble_eq_true rfl, Nat.le_of_ble_eq_true rfl⟩ (fun v2 I2 H L hp2 hW hS => ?_)
  obtain ⟨dv2, hF2, -⟩ := hp2
  refine lv_icmp_eq (tgt := 1302) hx hb dL_law_767 (by decide) (fun c9 => ?_) (fun c9 => ?_)
  · exact hend _ _ ls hS hl
  · exact absurd (Int32.toInt_inj.mp ((dkN_one dv1).trans (dkN_one dv2).symm)) c9

set_option maxHeartbeats 4000000 in
set_option maxRecDepth 100000 in
theorem k_cats {p : Program} {e : Env} {s : State} {m : MethodId} {below : List Frame} {meth : Method} {c : Code} (l : Launch) {b L z : Nat} {xs : Nat → Int32} {g : dkG} {Q : State → Prop} {H : Heap} {locs : List Loc} {ls : Array Slot} (hz0 : z = s.heap.size) (hx : p.tables.exec = Jvm.exec) (hb : c.code = code) (hml : c.maxLocals = 4) (hown : s.vm.findClass RL = some m.cls) (hts : ∀ w ∈ wsL_law, w.before #[Value.ref b] s = true) (hX : va_X b L xs s s.heap) (hbl : b < s.heap.size) (hL : L = 7) (hK : dkK g s) (hW : dkW g z dkI0 H) (hS : va_S (dkA z) s.heap H locs) (hl : lv_has ls 4 [(3, .int 0), (2, .ref (z + 340)), (1, .ref (z + 0)), (0, .ref b)]) (hend : ∀ (H : Heap) (locs : List Loc) (ls : Array Slot), va_S (dkA z) s.heap H locs → lv_has ls 4 [(3, .int 0), (2, .ref (z + 340)), (1, .ref (z + 0)), (0, .ref b)] → W p l e room_1 s m #[Value.ref b] below meth c H locs (0 + 1 + 339 + 1 + 13) (0 + 10 + 2701 + 26 + 2055) Q (F0 m 1302 ls [])) : W p l e room_1 s m #[Value.ref b] below meth c H locs (0 + 1 + 339 + 1 + 13) (0 + 10 + 2701 + 26 + 2055) Q (F0 m 772 ls []) := by
  have hbA : ¬ dkA z b := by unfold dkA; omega
  have hin : ∀ k : Nat, k < 7 → vp_in (0 + Int32.ofNat k) L := by
    intro k hk
    rw [hL]
    rcases (by omega : k = 0 ∨ k = 1 ∨ k = 2 ∨ k = 3 ∨ k = 4 ∨ k = 5 ∨ k = 6) with rfl | rfl | rfl | rfl | rfl | rfl | rfl <;> exact vp_in_iff.mpr ⟨by decide, by decide⟩
  obtain ⟨a1, ha1⟩ : ∃ y : Int32, xs (Int32.toNatClampNeg (0 + 1)) = y := ⟨_, rfl⟩
  obtain ⟨a2, ha2⟩ : ∃ y : Int32, xs (Int32.toNatClampNeg (0 + 2)) = y := ⟨_, rfl⟩
  refine lv_aload_n hx hb dL_law_772 rfl (lv_at hl 2 rfl) ?_
  refine lv_aload_n hx hb dL_law_773 rfl (lv_at hl 3 rfl) ?_
  refine lv_iload_n hx hb dL_law_774 rfl (lv_at hl 0 rfl) ?_
  refine lv_iconst (v := 1) hx hb dL_law_775 (by decide) ?_
  refine lv_iadd hx hb dL_law_776 ?_
  refine va_sld hx hb hX hbl hbA hS (hin 1 (by decide)) dL_law_777 ?_
  rw [ha1]
  refine lv_aload_n hx hb dL_law_778 rfl (lv_at hl 3 rfl) ?_
  refine lv_iload_n hx hb dL_law_779 rfl (lv_at hl 0 rfl) ?_
  refine lv_iconst (v := 2) hx hb dL_law_780 (by decide) ?_
  refine lv_iadd hx hb dL_law_781 ?_
  refine va_sld hx hb hX hbl hbA hS (hin 2 (by decide)) dL_law_782 ?_
  rw [ha2]
  refine dk_Vi (As := [.int a1, .int a2]) (rest := []) ⟨hx, hb, hml, hown, hts⟩ (c_X5_cats_0 l g z dkI0 a1 a2 (dkN_lit (0) rfl)) (cwV 2 hts gL_law_X5_cats rfl rfl rfl (by decide +kernel) ⟨Nat.le_of_ble_eq_true rfl, Nat.le_of_ble_eq_true rfl⟩) (dk_at0 hW) rfl hK hW hS rfl hl.1 rfl (Nat.le_of_ble_eq_true rfl) dL_law_783 ⟨Nat.le_of_ble_eq_true rfl, Nat.le_of_ble_eq_true rfl⟩ (fun v1 I1 H L hp1 hW hS => ?_)
  obtain ⟨dv1, hF1, -⟩ := hp1
  refine lv_aload_n hx hb dL_law_786 rfl (lv_at hl 1 rfl) ?_
  refine lv_aload_n hx hb dL_law_787 rfl (lv_at hl 3 rfl) ?_
  refine lv_iload_n hx hb dL_law_788 rfl (lv_at hl 0 rfl) ?_
  refine lv_iconst (v := 1) hx hb dL_law_789 (by decide) ?_
  refine lv_iadd hx hb dL_law_790 ?_
  refine va_sld hx hb hX hbl hbA hS (hin 1 (by decide)) dL_law_791 ?_
  rw [ha1]
  refine lv_aload_n hx hb dL_law_792 rfl (lv_at hl 3 rfl) ?_
  refine lv_iload_n hx hb dL_law_793 rfl (lv_at hl 0 rfl) ?_
  refine lv_iconst (v := 2) hx hb dL_law_794 (by decide) ?_
  refine lv_iadd hx hb dL_law_795 ?_
  refine va_sld hx hb hX hbl hbA hS (hin 2 (by decide)) dL_law_796 ?_
  rw [ha2]
  refine dk_Vi (As := [.int a1, .int a2]) (rest := [.int v1]) ⟨hx, hb, hml, hown, hts⟩ (c_X6_cats_0 l g z I1 a1 a2 (by rw [hF1 346 0 rfl]; exact dkN_lit (0) rfl)) (cwV 2 hts gL_law_X6_cats rfl rfl rfl (by decide +kernel) ⟨Nat.le_of_ble_eq_true rfl, Nat.le_of_ble_eq_true rfl⟩) (dk_at340 hW) rfl hK hW hS rfl hl.1 rfl (Nat.le_of_ble_eq_true rfl) dL_law_797 ⟨Nat.le_of_ble_eq_true rfl, Nat.le_of_ble_eq_true rfl⟩ (fun v2 I2 H L hp2 hW hS => ?_)
  obtain ⟨dv2, hF2, -⟩ := hp2
  refine lv_icmp_eq (tgt := 1302) hx hb dL_law_800 (by decide) (fun c9 => ?_) (fun c9 => ?_)
  · exact hend _ _ ls hS hl
  · exact absurd (Int32.toInt_inj.mp ((dkN_one dv1).trans (dkN_one dv2).symm)) c9

set_option maxHeartbeats 4000000 in
set_option maxRecDepth 100000 in
theorem k_shows {p : Program} {e : Env} {s : State} {m : MethodId} {below : List Frame} {meth : Method} {c : Code} (l : Launch) {b L z : Nat} {xs : Nat → Int32} {g : dkG} {Q : State → Prop} {H : Heap} {locs : List Loc} {ls : Array Slot} (hz0 : z = s.heap.size) (hx : p.tables.exec = Jvm.exec) (hb : c.code = code) (hml : c.maxLocals = 4) (hown : s.vm.findClass RL = some m.cls) (hts : ∀ w ∈ wsL_law, w.before #[Value.ref b] s = true) (hX : va_X b L xs s s.heap) (hbl : b < s.heap.size) (hL : L = 7) (hK : dkK g s) (hW : dkW g z dkI0 H) (hS : va_S (dkA z) s.heap H locs) (hl : lv_has ls 4 [(3, .int 0), (2, .ref (z + 340)), (1, .ref (z + 0)), (0, .ref b)]) (hend : ∀ (H : Heap) (locs : List Loc) (ls : Array Slot), va_S (dkA z) s.heap H locs → lv_has ls 4 [(3, .int 0), (2, .ref (z + 340)), (1, .ref (z + 0)), (0, .ref b)] → W p l e room_1 s m #[Value.ref b] below meth c H locs (0 + 1 + 339 + 1 + 13) (0 + 10 + 2701 + 26 + 2055) Q (F0 m 1302 ls [])) : W p l e room_1 s m #[Value.ref b] below meth c H locs (0 + 1 + 339 + 1 + 13) (0 + 10 + 2701 + 26 + 2055) Q (F0 m 805 ls []) := by
  have hbA : ¬ dkA z b := by unfold dkA; omega
  have hin : ∀ k : Nat, k < 7 → vp_in (0 + Int32.ofNat k) L := by
    intro k hk
    rw [hL]
    rcases (by omega : k = 0 ∨ k = 1 ∨ k = 2 ∨ k = 3 ∨ k = 4 ∨ k = 5 ∨ k = 6) with rfl | rfl | rfl | rfl | rfl | rfl | rfl <;> exact vp_in_iff.mpr ⟨by decide, by decide⟩
  obtain ⟨a1, ha1⟩ : ∃ y : Int32, xs (Int32.toNatClampNeg (0 + 1)) = y := ⟨_, rfl⟩
  obtain ⟨a2, ha2⟩ : ∃ y : Int32, xs (Int32.toNatClampNeg (0 + 2)) = y := ⟨_, rfl⟩
  obtain ⟨a3, ha3⟩ : ∃ y : Int32, xs (Int32.toNatClampNeg (0 + 3)) = y := ⟨_, rfl⟩
  refine lv_aload_n hx hb dL_law_805 rfl (lv_at hl 2 rfl) ?_
  refine lv_aload_n hx hb dL_law_806 rfl (lv_at hl 3 rfl) ?_
  refine lv_iload_n hx hb dL_law_807 rfl (lv_at hl 0 rfl) ?_
  refine lv_iconst (v := 1) hx hb dL_law_808 (by decide) ?_
  refine lv_iadd hx hb dL_law_809 ?_
  refine va_sld hx hb hX hbl hbA hS (hin 1 (by decide)) dL_law_810 ?_
  rw [ha1]
  refine lv_aload_n hx hb dL_law_811 rfl (lv_at hl 3 rfl) ?_
  refine lv_iload_n hx hb dL_law_812 rfl (lv_at hl 0 rfl) ?_
  refine lv_iconst (v := 2) hx hb dL_law_813 (by decide) ?_
  refine lv_iadd hx hb dL_law_814 ?_
  refine va_sld hx hb hX hbl hbA hS (hin 2 (by decide)) dL_law_815 ?_
  rw [ha2]
  refine lv_aload_n hx hb dL_law_816 rfl (lv_at hl 3 rfl) ?_
  refine lv_iload_n hx hb dL_law_817 rfl (lv_at hl 0 rfl) ?_
  refine lv_iconst (v := 3) hx hb dL_law_818 (by decide) ?_
  refine lv_iadd hx hb dL_law_819 ?_
  refine va_sld hx hb hX hbl hbA hS (hin 3 (by decide)) dL_law_820 ?_
  rw [ha3]
  refine dk_Vi (As := [.int a1, .int a2, .int a3]) (rest := []) ⟨hx, hb, hml, hown, hts⟩ (c_X5_shows_0 l g z dkI0 a1 a2 a3 (dkN_lit (0) rfl)) (cwV 3 hts gL_law_X5_shows rfl rfl rfl (by decide +kernel) ⟨Nat.le_of_ble_eq_true rfl, Nat.le_of_ble_eq_true rfl⟩) (dk_at0 hW) rfl hK hW hS rfl hl.1 rfl (Nat.le_of_ble_eq_true rfl) dL_law_821 ⟨Nat.le_of_ble_eq_true rfl, Nat.le_of_ble_eq_true rfl⟩ (fun v1 I1 H L hp1 hW hS => ?_)
  obtain ⟨dv1, hF1, -⟩ := hp1
  refine lv_aload_n hx hb dL_law_824 rfl (lv_at hl 1 rfl) ?_
  refine lv_aload_n hx hb dL_law_825 rfl (lv_at hl 3 rfl) ?_
  refine lv_iload_n hx hb dL_law_826 rfl (lv_at hl 0 rfl) ?_
  refine lv_iconst (v := 1) hx hb dL_law_827 (by decide) ?_
  refine lv_iadd hx hb dL_law_828 ?_
  refine va_sld hx hb hX hbl hbA hS (hin 1 (by decide)) dL_law_829 ?_
  rw [ha1]
  refine lv_aload_n hx hb dL_law_830 rfl (lv_at hl 3 rfl) ?_
  refine lv_iload_n hx hb dL_law_831 rfl (lv_at hl 0 rfl) ?_
  refine lv_iconst (v := 2) hx hb dL_law_832 (by decide) ?_
  refine lv_iadd hx hb dL_law_833 ?_
  refine va_sld hx hb hX hbl hbA hS (hin 2 (by decide)) dL_law_834 ?_
  rw [ha2]
  refine lv_aload_n hx hb dL_law_835 rfl (lv_at hl 3 rfl) ?_
  refine lv_iload_n hx hb dL_law_836 rfl (lv_at hl 0 rfl) ?_
  refine lv_iconst (v := 3) hx hb dL_law_837 (by decide) ?_
  refine lv_iadd hx hb dL_law_838 ?_
  refine va_sld hx hb hX hbl hbA hS (hin 3 (by decide)) dL_law_839 ?_
  rw [ha3]
  refine dk_Vi (As := [.int a1, .int a2, .int a3]) (rest := [.int v1]) ⟨hx, hb, hml, hown, hts⟩ (c_X6_shows_0 l g z I1 a1 a2 a3 (by rw [hF1 346 4 rfl]; exact dkN_lit (0) rfl)) (cwV 3 hts gL_law_X6_shows rfl rfl rfl (by decide +kernel) ⟨Nat.le_of_ble_eq_true rfl, Nat.le_of_ble_eq_true rfl⟩) (dk_at340 hW) rfl hK hW hS rfl hl.1 rfl (Nat.le_of_ble_eq_true rfl) dL_law_840 ⟨Nat.le_of_ble_eq_true rfl, Nat.le_of_ble_eq_true rfl⟩ (fun v2 I2 H L hp2 hW hS => ?_)
  obtain ⟨dv2, hF2, -⟩ := hp2
  refine lv_icmp_eq (tgt := 1302) hx hb dL_law_843 (by decide) (fun c9 => ?_) (fun c9 => ?_)
  · exact hend _ _ ls hS hl
  · exact absurd (Int32.toInt_inj.mp ((dkN_one dv1).trans (dkN_one dv2).symm)) c9

set_option maxHeartbeats 4000000 in
set_option maxRecDepth 100000 in
theorem k_packs {p : Program} {e : Env} {s : State} {m : MethodId} {below : List Frame} {meth : Method} {c : Code} (l : Launch) {b L z : Nat} {xs : Nat → Int32} {g : dkG} {Q : State → Prop} {H : Heap} {locs : List Loc} {ls : Array Slot} (hz0 : z = s.heap.size) (hx : p.tables.exec = Jvm.exec) (hb : c.code = code) (hml : c.maxLocals = 4) (hown : s.vm.findClass RL = some m.cls) (hts : ∀ w ∈ wsL_law, w.before #[Value.ref b] s = true) (hX : va_X b L xs s s.heap) (hbl : b < s.heap.size) (hL : L = 7) (hK : dkK g s) (hW : dkW g z dkI0 H) (hS : va_S (dkA z) s.heap H locs) (hl : lv_has ls 4 [(3, .int 0), (2, .ref (z + 340)), (1, .ref (z + 0)), (0, .ref b)]) (hend : ∀ (H : Heap) (locs : List Loc) (ls : Array Slot), va_S (dkA z) s.heap H locs → lv_has ls 4 [(3, .int 0), (2, .ref (z + 340)), (1, .ref (z + 0)), (0, .ref b)] → W p l e room_1 s m #[Value.ref b] below meth c H locs (0 + 1 + 339 + 1 + 13) (0 + 10 + 2701 + 26 + 2055) Q (F0 m 1302 ls [])) : W p l e room_1 s m #[Value.ref b] below meth c H locs (0 + 1 + 339 + 1 + 13) (0 + 10 + 2701 + 26 + 2055) Q (F0 m 848 ls []) := by
  have hbA : ¬ dkA z b := by unfold dkA; omega
  have hin : ∀ k : Nat, k < 7 → vp_in (0 + Int32.ofNat k) L := by
    intro k hk
    rw [hL]
    rcases (by omega : k = 0 ∨ k = 1 ∨ k = 2 ∨ k = 3 ∨ k = 4 ∨ k = 5 ∨ k = 6) with rfl | rfl | rfl | rfl | rfl | rfl | rfl <;> exact vp_in_iff.mpr ⟨by decide, by decide⟩
  obtain ⟨a1, ha1⟩ : ∃ y : Int32, xs (Int32.toNatClampNeg (0 + 1)) = y := ⟨_, rfl⟩
  refine lv_aload_n hx hb dL_law_848 rfl (lv_at hl 2 rfl) ?_
  refine lv_aload_n hx hb dL_law_849 rfl (lv_at hl 3 rfl) ?_
  refine lv_iload_n hx hb dL_law_850 rfl (lv_at hl 0 rfl) ?_
  refine lv_iconst (v := 1) hx hb dL_law_851 (by decide) ?_
  refine lv_iadd hx hb dL_law_852 ?_
  refine va_sld hx hb hX hbl hbA hS (hin 1 (by decide)) dL_law_853 ?_
  rw [ha1]
  refine dk_Vi (As := [.int a1]) (rest := []) ⟨hx, hb, hml, hown, hts⟩ (c_X5_packs_0 l g z dkI0 a1 (dkN_lit (0) rfl)) (cwV 1 hts gL_law_X5_packs rfl rfl rfl (by decide +kernel) ⟨Nat.le_of_ble_eq_true rfl, Nat.le_of_ble_eq_true rfl⟩) (dk_at0 hW) rfl hK hW hS rfl hl.1 rfl (Nat.le_of_ble_eq_true rfl) dL_law_854 ⟨Nat.le_of_ble_eq_true rfl, Nat.le_of_ble_eq_true rfl⟩ (fun v1 I1 H L hp1 hW hS => ?_)
  obtain ⟨dv1, hF1, -⟩ := hp1
  refine lv_aload_n hx hb dL_law_857 rfl (lv_at hl 1 rfl) ?_
  refine lv_aload_n hx hb dL_law_858 rfl (lv_at hl 3 rfl) ?_
  refine lv_iload_n hx hb dL_law_859 rfl (lv_at hl 0 rfl) ?_
  refine lv_iconst (v := 1) hx hb dL_law_860 (by decide) ?_
  refine lv_iadd hx hb dL_law_861 ?_
  refine va_sld hx hb hX hbl hbA hS (hin 1 (by decide)) dL_law_862 ?_
  rw [ha1]
  refine dk_Vi (As := [.int a1]) (rest := [.int v1]) ⟨hx, hb, hml, hown, hts⟩ (c_X6_packs_0 l g z I1 a1 (by rw [hF1 346 4 rfl]; exact dkN_lit (0) rfl)) (cwV 1 hts gL_law_X6_packs rfl rfl rfl (by decide +kernel) ⟨Nat.le_of_ble_eq_true rfl, Nat.le_of_ble_eq_true rfl⟩) (dk_at340 hW) rfl hK hW hS rfl hl.1 rfl (Nat.le_of_ble_eq_true rfl) dL_law_863 ⟨Nat.le_of_ble_eq_true rfl, Nat.le_of_ble_eq_true rfl⟩ (fun v2 I2 H L hp2 hW hS => ?_)
  obtain ⟨dv2, hF2, -⟩ := hp2
  refine lv_icmp_eq (tgt := 1302) hx hb dL_law_866 (by decide) (fun c9 => ?_) (fun c9 => ?_)
  · exact hend _ _ ls hS hl
  · exact absurd (Int32.toInt_inj.mp ((dkN_one dv1).trans (dkN_one dv2).symm)) c9

set_option maxHeartbeats 4000000 in
set_option maxRecDepth 100000 in
theorem k_hangs {p : Program} {e : Env} {s : State} {m : MethodId} {below : List Frame} {meth : Method} {c : Code} (l : Launch) {b L z : Nat} {xs : Nat → Int32} {g : dkG} {Q : State → Prop} {H : Heap} {locs : List Loc} {ls : Array Slot} (hz0 : z = s.heap.size) (hx : p.tables.exec = Jvm.exec) (hb : c.code = code) (hml : c.maxLocals = 4) (hown : s.vm.findClass RL = some m.cls) (hts : ∀ w ∈ wsL_law, w.before #[Value.ref b] s = true) (hX : va_X b L xs s s.heap) (hbl : b < s.heap.size) (hL : L = 7) (hK : dkK g s) (hW : dkW g z dkI0 H) (hS : va_S (dkA z) s.heap H locs) (hl : lv_has ls 4 [(3, .int 0), (2, .ref (z + 340)), (1, .ref (z + 0)), (0, .ref b)]) (hend : ∀ (H : Heap) (locs : List Loc) (ls : Array Slot), va_S (dkA z) s.heap H locs → lv_has ls 4 [(3, .int 0), (2, .ref (z + 340)), (1, .ref (z + 0)), (0, .ref b)] → W p l e room_1 s m #[Value.ref b] below meth c H locs (0 + 1 + 339 + 1 + 13) (0 + 10 + 2701 + 26 + 2055) Q (F0 m 1302 ls [])) : W p l e room_1 s m #[Value.ref b] below meth c H locs (0 + 1 + 339 + 1 + 13) (0 + 10 + 2701 + 26 + 2055) Q (F0 m 871 ls []) := by
  have hbA : ¬ dkA z b := by unfold dkA; omega
  have hin : ∀ k : Nat, k < 7 → vp_in (0 + Int32.ofNat k) L := by
    intro k hk
    rw [hL]
    rcases (by omega : k = 0 ∨ k = 1 ∨ k = 2 ∨ k = 3 ∨ k = 4 ∨ k = 5 ∨ k = 6) with rfl | rfl | rfl | rfl | rfl | rfl | rfl <;> exact vp_in_iff.mpr ⟨by decide, by decide⟩
  refine lv_aload_n hx hb dL_law_871 rfl (lv_at hl 2 rfl) ?_
  refine dk_Vi (As := []) (rest := []) ⟨hx, hb, hml, hown, hts⟩ (c_X5_hangs_0 l g z dkI0 (dkN_lit (0) rfl)) (cwV 0 hts gL_law_X5_hangs rfl rfl rfl (by decide +kernel) ⟨Nat.le_of_ble_eq_true rfl, Nat.le_of_ble_eq_true rfl⟩) (dk_at0 hW) rfl hK hW hS rfl hl.1 rfl (Nat.le_of_ble_eq_true rfl) dL_law_872 ⟨Nat.le_of_ble_eq_true rfl, Nat.le_of_ble_eq_true rfl⟩ (fun v1 I1 H L hp1 hW hS => ?_)
  obtain ⟨dv1, hF1, -⟩ := hp1
  refine lv_aload_n hx hb dL_law_875 rfl (lv_at hl 1 rfl) ?_
  refine dk_Vi (As := []) (rest := [.int v1]) ⟨hx, hb, hml, hown, hts⟩ (c_X6_hangs_0 l g z I1 (by rw [hF1 346 0 rfl]; exact dkN_lit (0) rfl)) (cwV 0 hts gL_law_X6_hangs rfl rfl rfl (by decide +kernel) ⟨Nat.le_of_ble_eq_true rfl, Nat.le_of_ble_eq_true rfl⟩) (dk_at340 hW) rfl hK hW hS rfl hl.1 rfl (Nat.le_of_ble_eq_true rfl) dL_law_876 ⟨Nat.le_of_ble_eq_true rfl, Nat.le_of_ble_eq_true rfl⟩ (fun v2 I2 H L hp2 hW hS => ?_)
  obtain ⟨dv2, hF2, -⟩ := hp2
  refine lv_icmp_eq (tgt := 1302) hx hb dL_law_879 (by decide) (fun c9 => ?_) (fun c9 => ?_)
  · exact hend _ _ ls hS hl
  · exact absurd (Int32.toInt_inj.mp ((dkN_one dv1).trans (dkN_one dv2).symm)) c9

set_option maxHeartbeats 4000000 in
set_option maxRecDepth 100000 in
theorem k_fits {p : Program} {e : Env} {s : State} {m : MethodId} {below : List Frame} {meth : Method} {c : Code} (l : Launch) {b L z : Nat} {xs : Nat → Int32} {g : dkG} {Q : State → Prop} {H : Heap} {locs : List Loc} {ls : Array Slot} (hz0 : z = s.heap.size) (hx : p.tables.exec = Jvm.exec) (hb : c.code = code) (hml : c.maxLocals = 4) (hown : s.vm.findClass RL = some m.cls) (hts : ∀ w ∈ wsL_law, w.before #[Value.ref b] s = true) (hX : va_X b L xs s s.heap) (hbl : b < s.heap.size) (hL : L = 7) (hK : dkK g s) (hW : dkW g z dkI0 H) (hS : va_S (dkA z) s.heap H locs) (hl : lv_has ls 4 [(3, .int 0), (2, .ref (z + 340)), (1, .ref (z + 0)), (0, .ref b)]) (hend : ∀ (H : Heap) (locs : List Loc) (ls : Array Slot), va_S (dkA z) s.heap H locs → lv_has ls 4 [(3, .int 0), (2, .ref (z + 340)), (1, .ref (z + 0)), (0, .ref b)] → W p l e room_1 s m #[Value.ref b] below meth c H locs (0 + 1 + 339 + 1 + 13) (0 + 10 + 2701 + 26 + 2055) Q (F0 m 1302 ls [])) : W p l e room_1 s m #[Value.ref b] below meth c H locs (0 + 1 + 339 + 1 + 13) (0 + 10 + 2701 + 26 + 2055) Q (F0 m 884 ls []) := by
  have hbA : ¬ dkA z b := by unfold dkA; omega
  have hin : ∀ k : Nat, k < 7 → vp_in (0 + Int32.ofNat k) L := by
    intro k hk
    rw [hL]
    rcases (by omega : k = 0 ∨ k = 1 ∨ k = 2 ∨ k = 3 ∨ k = 4 ∨ k = 5 ∨ k = 6) with rfl | rfl | rfl | rfl | rfl | rfl | rfl <;> exact vp_in_iff.mpr ⟨by decide, by decide⟩
  obtain ⟨a1, ha1⟩ : ∃ y : Int32, xs (Int32.toNatClampNeg (0 + 1)) = y := ⟨_, rfl⟩
  obtain ⟨a2, ha2⟩ : ∃ y : Int32, xs (Int32.toNatClampNeg (0 + 2)) = y := ⟨_, rfl⟩
  obtain ⟨a3, ha3⟩ : ∃ y : Int32, xs (Int32.toNatClampNeg (0 + 3)) = y := ⟨_, rfl⟩
  obtain ⟨a4, ha4⟩ : ∃ y : Int32, xs (Int32.toNatClampNeg (0 + 4)) = y := ⟨_, rfl⟩
  obtain ⟨a5, ha5⟩ : ∃ y : Int32, xs (Int32.toNatClampNeg (0 + 5)) = y := ⟨_, rfl⟩
  refine lv_aload_n hx hb dL_law_884 rfl (lv_at hl 2 rfl) ?_
  refine lv_aload_n hx hb dL_law_885 rfl (lv_at hl 3 rfl) ?_
  refine lv_iload_n hx hb dL_law_886 rfl (lv_at hl 0 rfl) ?_
  refine lv_iconst (v := 1) hx hb dL_law_887 (by decide) ?_
  refine lv_iadd hx hb dL_law_888 ?_
  refine va_sld hx hb hX hbl hbA hS (hin 1 (by decide)) dL_law_889 ?_
  rw [ha1]
  refine lv_aload_n hx hb dL_law_890 rfl (lv_at hl 3 rfl) ?_
  refine lv_iload_n hx hb dL_law_891 rfl (lv_at hl 0 rfl) ?_
  refine lv_iconst (v := 2) hx hb dL_law_892 (by decide) ?_
  refine lv_iadd hx hb dL_law_893 ?_
  refine va_sld hx hb hX hbl hbA hS (hin 2 (by decide)) dL_law_894 ?_
  rw [ha2]
  refine lv_aload_n hx hb dL_law_895 rfl (lv_at hl 3 rfl) ?_
  refine lv_iload_n hx hb dL_law_896 rfl (lv_at hl 0 rfl) ?_
  refine lv_iconst (v := 3) hx hb dL_law_897 (by decide) ?_
  refine lv_iadd hx hb dL_law_898 ?_
  refine va_sld hx hb hX hbl hbA hS (hin 3 (by decide)) dL_law_899 ?_
  rw [ha3]
  refine lv_aload_n hx hb dL_law_900 rfl (lv_at hl 3 rfl) ?_
  refine lv_iload_n hx hb dL_law_901 rfl (lv_at hl 0 rfl) ?_
  refine lv_iconst (v := 4) hx hb dL_law_902 (by decide) ?_
  refine lv_iadd hx hb dL_law_903 ?_
  refine va_sld hx hb hX hbl hbA hS (hin 4 (by decide)) dL_law_904 ?_
  rw [ha4]
  refine lv_aload_n hx hb dL_law_905 rfl (lv_at hl 3 rfl) ?_
  refine lv_iload_n hx hb dL_law_906 rfl (lv_at hl 0 rfl) ?_
  refine lv_iconst (v := 5) hx hb dL_law_907 (by decide) ?_
  refine lv_iadd hx hb dL_law_908 ?_
  refine va_sld hx hb hX hbl hbA hS (hin 5 (by decide)) dL_law_909 ?_
  rw [ha5]
  refine dk_Vi (As := [.int a1, .int a2, .int a3, .int a4, .int a5]) (rest := []) ⟨hx, hb, hml, hown, hts⟩ (c_X5_fits_0 l g z dkI0 a1 a2 a3 a4 a5 (dkN_lit (0) rfl)) (cwV 5 hts gL_law_X5_fits rfl rfl rfl (by decide +kernel) ⟨Nat.le_of_ble_eq_true rfl, Nat.le_of_ble_eq_true rfl⟩) (dk_at0 hW) rfl hK hW hS rfl hl.1 rfl (Nat.le_of_ble_eq_true rfl) dL_law_910 ⟨Nat.le_of_ble_eq_true rfl, Nat.le_of_ble_eq_true rfl⟩ (fun v1 I1 H L hp1 hW hS => ?_)
  obtain ⟨dv1, hF1, -⟩ := hp1
  refine lv_aload_n hx hb dL_law_913 rfl (lv_at hl 1 rfl) ?_
  refine lv_aload_n hx hb dL_law_914 rfl (lv_at hl 3 rfl) ?_
  refine lv_iload_n hx hb dL_law_915 rfl (lv_at hl 0 rfl) ?_
  refine lv_iconst (v := 1) hx hb dL_law_916 (by decide) ?_
  refine lv_iadd hx hb dL_law_917 ?_
  refine va_sld hx hb hX hbl hbA hS (hin 1 (by decide)) dL_law_918 ?_
  rw [ha1]
  refine lv_aload_n hx hb dL_law_919 rfl (lv_at hl 3 rfl) ?_
  refine lv_iload_n hx hb dL_law_920 rfl (lv_at hl 0 rfl) ?_
  refine lv_iconst (v := 2) hx hb dL_law_921 (by decide) ?_
  refine lv_iadd hx hb dL_law_922 ?_
  refine va_sld hx hb hX hbl hbA hS (hin 2 (by decide)) dL_law_923 ?_
  rw [ha2]
  refine lv_aload_n hx hb dL_law_924 rfl (lv_at hl 3 rfl) ?_
  refine lv_iload_n hx hb dL_law_925 rfl (lv_at hl 0 rfl) ?_
  refine lv_iconst (v := 3) hx hb dL_law_926 (by decide) ?_
  refine lv_iadd hx hb dL_law_927 ?_
  refine va_sld hx hb hX hbl hbA hS (hin 3 (by decide)) dL_law_928 ?_
  rw [ha3]
  refine lv_aload_n hx hb dL_law_929 rfl (lv_at hl 3 rfl) ?_
  refine lv_iload_n hx hb dL_law_930 rfl (lv_at hl 0 rfl) ?_
  refine lv_iconst (v := 4) hx hb dL_law_931 (by decide) ?_
  refine lv_iadd hx hb dL_law_932 ?_
  refine va_sld hx hb hX hbl hbA hS (hin 4 (by decide)) dL_law_933 ?_
  rw [ha4]
  refine lv_aload_n hx hb dL_law_934 rfl (lv_at hl 3 rfl) ?_
  refine lv_iload_n hx hb dL_law_935 rfl (lv_at hl 0 rfl) ?_
  refine lv_iconst (v := 5) hx hb dL_law_936 (by decide) ?_
  refine lv_iadd hx hb dL_law_937 ?_
  refine va_sld hx hb hX hbl hbA hS (hin 5 (by decide)) dL_law_938 ?_
  rw [ha5]
  refine dk_Vi (As := [.int a1, .int a2, .int a3, .int a4, .int a5]) (rest := [.int v1]) ⟨hx, hb, hml, hown, hts⟩ (c_X6_fits_0 l g z I1 a1 a2 a3 a4 a5 (by rw [hF1 346 5 rfl]; exact dkN_lit (0) rfl)) (cwV 5 hts gL_law_X6_fits rfl rfl rfl (by decide +kernel) ⟨Nat.le_of_ble_eq_true rfl, Nat.le_of_ble_eq_true rfl⟩) (dk_at340 hW) rfl hK hW hS rfl hl.1 rfl (Nat.le_of_ble_eq_true rfl) dL_law_939 ⟨Nat.le_of_ble_eq_true rfl, Nat.le_of_ble_eq_true rfl⟩ (fun v2 I2 H L hp2 hW hS => ?_)
  obtain ⟨dv2, hF2, -⟩ := hp2
  refine lv_icmp_eq (tgt := 1302) hx hb dL_law_942 (by decide) (fun c9 => ?_) (fun c9 => ?_)
  · exact hend _ _ ls hS hl
  · exact absurd (Int32.toInt_inj.mp ((dkN_one dv1).trans (dkN_one dv2).symm)) c9

set_option maxHeartbeats 4000000 in
set_option maxRecDepth 100000 in
theorem k_suits {p : Program} {e : Env} {s : State} {m : MethodId} {below : List Frame} {meth : Method} {c : Code} (l : Launch) {b L z : Nat} {xs : Nat → Int32} {g : dkG} {Q : State → Prop} {H : Heap} {locs : List Loc} {ls : Array Slot} (hz0 : z = s.heap.size) (hx : p.tables.exec = Jvm.exec) (hb : c.code = code) (hml : c.maxLocals = 4) (hown : s.vm.findClass RL = some m.cls) (hts : ∀ w ∈ wsL_law, w.before #[Value.ref b] s = true) (hX : va_X b L xs s s.heap) (hbl : b < s.heap.size) (hL : L = 7) (hK : dkK g s) (hW : dkW g z dkI0 H) (hS : va_S (dkA z) s.heap H locs) (hl : lv_has ls 4 [(3, .int 0), (2, .ref (z + 340)), (1, .ref (z + 0)), (0, .ref b)]) (hend : ∀ (H : Heap) (locs : List Loc) (ls : Array Slot), va_S (dkA z) s.heap H locs → lv_has ls 4 [(3, .int 0), (2, .ref (z + 340)), (1, .ref (z + 0)), (0, .ref b)] → W p l e room_1 s m #[Value.ref b] below meth c H locs (0 + 1 + 339 + 1 + 13) (0 + 10 + 2701 + 26 + 2055) Q (F0 m 1302 ls [])) : W p l e room_1 s m #[Value.ref b] below meth c H locs (0 + 1 + 339 + 1 + 13) (0 + 10 + 2701 + 26 + 2055) Q (F0 m 947 ls []) := by
  have hbA : ¬ dkA z b := by unfold dkA; omega
  have hin : ∀ k : Nat, k < 7 → vp_in (0 + Int32.ofNat k) L := by
    intro k hk
    rw [hL]
    rcases (by omega : k = 0 ∨ k = 1 ∨ k = 2 ∨ k = 3 ∨ k = 4 ∨ k = 5 ∨ k = 6) with rfl | rfl | rfl | rfl | rfl | rfl | rfl <;> exact vp_in_iff.mpr ⟨by decide, by decide⟩
  obtain ⟨a1, ha1⟩ : ∃ y : Int32, xs (Int32.toNatClampNeg (0 + 1)) = y := ⟨_, rfl⟩
  obtain ⟨a2, ha2⟩ : ∃ y : Int32, xs (Int32.toNatClampNeg (0 + 2)) = y := ⟨_, rfl⟩
  obtain ⟨a3, ha3⟩ : ∃ y : Int32, xs (Int32.toNatClampNeg (0 + 3)) = y := ⟨_, rfl⟩
  obtain ⟨a4, ha4⟩ : ∃ y : Int32, xs (Int32.toNatClampNeg (0 + 4)) = y := ⟨_, rfl⟩
  obtain ⟨a5, ha5⟩ : ∃ y : Int32, xs (Int32.toNatClampNeg (0 + 5)) = y := ⟨_, rfl⟩
  obtain ⟨a6, ha6⟩ : ∃ y : Int32, xs (Int32.toNatClampNeg (0 + 6)) = y := ⟨_, rfl⟩
  refine lv_aload_n hx hb dL_law_947 rfl (lv_at hl 2 rfl) ?_
  refine lv_aload_n hx hb dL_law_948 rfl (lv_at hl 3 rfl) ?_
  refine lv_iload_n hx hb dL_law_949 rfl (lv_at hl 0 rfl) ?_
  refine lv_iconst (v := 1) hx hb dL_law_950 (by decide) ?_
  refine lv_iadd hx hb dL_law_951 ?_
  refine va_sld hx hb hX hbl hbA hS (hin 1 (by decide)) dL_law_952 ?_
  rw [ha1]
  refine lv_aload_n hx hb dL_law_953 rfl (lv_at hl 3 rfl) ?_
  refine lv_iload_n hx hb dL_law_954 rfl (lv_at hl 0 rfl) ?_
  refine lv_iconst (v := 2) hx hb dL_law_955 (by decide) ?_
  refine lv_iadd hx hb dL_law_956 ?_
  refine va_sld hx hb hX hbl hbA hS (hin 2 (by decide)) dL_law_957 ?_
  rw [ha2]
  refine lv_aload_n hx hb dL_law_958 rfl (lv_at hl 3 rfl) ?_
  refine lv_iload_n hx hb dL_law_959 rfl (lv_at hl 0 rfl) ?_
  refine lv_iconst (v := 3) hx hb dL_law_960 (by decide) ?_
  refine lv_iadd hx hb dL_law_961 ?_
  refine va_sld hx hb hX hbl hbA hS (hin 3 (by decide)) dL_law_962 ?_
  rw [ha3]
  refine lv_aload_n hx hb dL_law_963 rfl (lv_at hl 3 rfl) ?_
  refine lv_iload_n hx hb dL_law_964 rfl (lv_at hl 0 rfl) ?_
  refine lv_iconst (v := 4) hx hb dL_law_965 (by decide) ?_
  refine lv_iadd hx hb dL_law_966 ?_
  refine va_sld hx hb hX hbl hbA hS (hin 4 (by decide)) dL_law_967 ?_
  rw [ha4]
  refine lv_aload_n hx hb dL_law_968 rfl (lv_at hl 3 rfl) ?_
  refine lv_iload_n hx hb dL_law_969 rfl (lv_at hl 0 rfl) ?_
  refine lv_iconst (v := 5) hx hb dL_law_970 (by decide) ?_
  refine lv_iadd hx hb dL_law_971 ?_
  refine va_sld hx hb hX hbl hbA hS (hin 5 (by decide)) dL_law_972 ?_
  rw [ha5]
  refine lv_aload_n hx hb dL_law_973 rfl (lv_at hl 3 rfl) ?_
  refine lv_iload_n hx hb dL_law_974 rfl (lv_at hl 0 rfl) ?_
  refine lv_bipush (v := 6) hx hb dL_law_975 (by decide) ?_
  refine lv_iadd hx hb dL_law_977 ?_
  refine va_sld hx hb hX hbl hbA hS (hin 6 (by decide)) dL_law_978 ?_
  rw [ha6]
  refine dk_Vi (As := [.int a1, .int a2, .int a3, .int a4, .int a5, .int a6]) (rest := []) ⟨hx, hb, hml, hown, hts⟩ (c_X5_suits_0 l g z dkI0 a1 a2 a3 a4 a5 a6 (dkN_lit (0) rfl)) (cwV 6 hts gL_law_X5_suits rfl rfl rfl (by decide +kernel) ⟨Nat.le_of_ble_eq_true rfl, Nat.le_of_ble_eq_true rfl⟩) (dk_at0 hW) rfl hK hW hS rfl hl.1 rfl (Nat.le_of_ble_eq_true rfl) dL_law_979 ⟨Nat.le_of_ble_eq_true rfl, Nat.le_of_ble_eq_true rfl⟩ (fun v1 I1 H L hp1 hW hS => ?_)
  obtain ⟨dv1, hF1, -⟩ := hp1
  refine lv_aload_n hx hb dL_law_982 rfl (lv_at hl 1 rfl) ?_
  refine lv_aload_n hx hb dL_law_983 rfl (lv_at hl 3 rfl) ?_
  refine lv_iload_n hx hb dL_law_984 rfl (lv_at hl 0 rfl) ?_
  refine lv_iconst (v := 1) hx hb dL_law_985 (by decide) ?_
  refine lv_iadd hx hb dL_law_986 ?_
  refine va_sld hx hb hX hbl hbA hS (hin 1 (by decide)) dL_law_987 ?_
  rw [ha1]
  refine lv_aload_n hx hb dL_law_988 rfl (lv_at hl 3 rfl) ?_
  refine lv_iload_n hx hb dL_law_989 rfl (lv_at hl 0 rfl) ?_
  refine lv_iconst (v := 2) hx hb dL_law_990 (by decide) ?_
  refine lv_iadd hx hb dL_law_991 ?_
  refine va_sld hx hb hX hbl hbA hS (hin 2 (by decide)) dL_law_992 ?_
  rw [ha2]
  refine lv_aload_n hx hb dL_law_993 rfl (lv_at hl 3 rfl) ?_
  refine lv_iload_n hx hb dL_law_994 rfl (lv_at hl 0 rfl) ?_
  refine lv_iconst (v := 3) hx hb dL_law_995 (by decide) ?_
  refine lv_iadd hx hb dL_law_996 ?_
  refine va_sld hx hb hX hbl hbA hS (hin 3 (by decide)) dL_law_997 ?_
  rw [ha3]
  refine lv_aload_n hx hb dL_law_998 rfl (lv_at hl 3 rfl) ?_
  refine lv_iload_n hx hb dL_law_999 rfl (lv_at hl 0 rfl) ?_
  refine lv_iconst (v := 4) hx hb dL_law_1000 (by decide) ?_
  refine lv_iadd hx hb dL_law_1001 ?_
  refine va_sld hx hb hX hbl hbA hS (hin 4 (by decide)) dL_law_1002 ?_
  rw [ha4]
  refine lv_aload_n hx hb dL_law_1003 rfl (lv_at hl 3 rfl) ?_
  refine lv_iload_n hx hb dL_law_1004 rfl (lv_at hl 0 rfl) ?_
  refine lv_iconst (v := 5) hx hb dL_law_1005 (by decide) ?_
  refine lv_iadd hx hb dL_law_1006 ?_
  refine va_sld hx hb hX hbl hbA hS (hin 5 (by decide)) dL_law_1007 ?_
  rw [ha5]
  refine lv_aload_n hx hb dL_law_1008 rfl (lv_at hl 3 rfl) ?_
  refine lv_iload_n hx hb dL_law_1009 rfl (lv_at hl 0 rfl) ?_
  refine lv_bipush (v := 6) hx hb dL_law_1010 (by decide) ?_
  refine lv_iadd hx hb dL_law_1012 ?_
  refine va_sld hx hb hX hbl hbA hS (hin 6 (by decide)) dL_law_1013 ?_
  rw [ha6]
  refine dk_Vi (As := [.int a1, .int a2, .int a3, .int a4, .int a5, .int a6]) (rest := [.int v1]) ⟨hx, hb, hml, hown, hts⟩ (c_X6_suits_0 l g z I1 a1 a2 a3 a4 a5 a6 (by rw [hF1 346 4 rfl]; exact dkN_lit (0) rfl)) (cwV 6 hts gL_law_X6_suits rfl rfl rfl (by decide +kernel) ⟨Nat.le_of_ble_eq_true rfl, Nat.le_of_ble_eq_true rfl⟩) (dk_at340 hW) rfl hK hW hS rfl hl.1 rfl (Nat.le_of_ble_eq_true rfl) dL_law_1014 ⟨Nat.le_of_ble_eq_true rfl, Nat.le_of_ble_eq_true rfl⟩ (fun v2 I2 H L hp2 hW hS => ?_)
  obtain ⟨dv2, hF2, -⟩ := hp2
  refine lv_icmp_eq (tgt := 1302) hx hb dL_law_1017 (by decide) (fun c9 => ?_) (fun c9 => ?_)
  · exact hend _ _ ls hS hl
  · exact absurd (Int32.toInt_inj.mp ((dkN_one dv1).trans (dkN_one dv2).symm)) c9

set_option maxHeartbeats 4000000 in
set_option maxRecDepth 100000 in
theorem k_asleep {p : Program} {e : Env} {s : State} {m : MethodId} {below : List Frame} {meth : Method} {c : Code} (l : Launch) {b L z : Nat} {xs : Nat → Int32} {g : dkG} {Q : State → Prop} {H : Heap} {locs : List Loc} {ls : Array Slot} (hz0 : z = s.heap.size) (hx : p.tables.exec = Jvm.exec) (hb : c.code = code) (hml : c.maxLocals = 4) (hown : s.vm.findClass RL = some m.cls) (hts : ∀ w ∈ wsL_law, w.before #[Value.ref b] s = true) (hX : va_X b L xs s s.heap) (hbl : b < s.heap.size) (hL : L = 7) (hK : dkK g s) (hW : dkW g z dkI0 H) (hS : va_S (dkA z) s.heap H locs) (hl : lv_has ls 4 [(3, .int 0), (2, .ref (z + 340)), (1, .ref (z + 0)), (0, .ref b)]) (hend : ∀ (H : Heap) (locs : List Loc) (ls : Array Slot), va_S (dkA z) s.heap H locs → lv_has ls 4 [(3, .int 0), (2, .ref (z + 340)), (1, .ref (z + 0)), (0, .ref b)] → W p l e room_1 s m #[Value.ref b] below meth c H locs (0 + 1 + 339 + 1 + 13) (0 + 10 + 2701 + 26 + 2055) Q (F0 m 1302 ls [])) : W p l e room_1 s m #[Value.ref b] below meth c H locs (0 + 1 + 339 + 1 + 13) (0 + 10 + 2701 + 26 + 2055) Q (F0 m 1022 ls []) := by
  have hbA : ¬ dkA z b := by unfold dkA; omega
  have hin : ∀ k : Nat, k < 7 → vp_in (0 + Int32.ofNat k) L := by
    intro k hk
    rw [hL]
    rcases (by omega : k = 0 ∨ k = 1 ∨ k = 2 ∨ k = 3 ∨ k = 4 ∨ k = 5 ∨ k = 6) with rfl | rfl | rfl | rfl | rfl | rfl | rfl <;> exact vp_in_iff.mpr ⟨by decide, by decide⟩
  obtain ⟨a1, ha1⟩ : ∃ y : Int32, xs (Int32.toNatClampNeg (0 + 1)) = y := ⟨_, rfl⟩
  obtain ⟨a2, ha2⟩ : ∃ y : Int32, xs (Int32.toNatClampNeg (0 + 2)) = y := ⟨_, rfl⟩
  obtain ⟨a3, ha3⟩ : ∃ y : Int32, xs (Int32.toNatClampNeg (0 + 3)) = y := ⟨_, rfl⟩
  refine lv_aload_n hx hb dL_law_1022 rfl (lv_at hl 2 rfl) ?_
  refine lv_aload_n hx hb dL_law_1023 rfl (lv_at hl 3 rfl) ?_
  refine lv_iload_n hx hb dL_law_1024 rfl (lv_at hl 0 rfl) ?_
  refine lv_iconst (v := 1) hx hb dL_law_1025 (by decide) ?_
  refine lv_iadd hx hb dL_law_1026 ?_
  refine va_sld hx hb hX hbl hbA hS (hin 1 (by decide)) dL_law_1027 ?_
  rw [ha1]
  refine lv_aload_n hx hb dL_law_1028 rfl (lv_at hl 3 rfl) ?_
  refine lv_iload_n hx hb dL_law_1029 rfl (lv_at hl 0 rfl) ?_
  refine lv_iconst (v := 2) hx hb dL_law_1030 (by decide) ?_
  refine lv_iadd hx hb dL_law_1031 ?_
  refine va_sld hx hb hX hbl hbA hS (hin 2 (by decide)) dL_law_1032 ?_
  rw [ha2]
  refine lv_aload_n hx hb dL_law_1033 rfl (lv_at hl 3 rfl) ?_
  refine lv_iload_n hx hb dL_law_1034 rfl (lv_at hl 0 rfl) ?_
  refine lv_iconst (v := 3) hx hb dL_law_1035 (by decide) ?_
  refine lv_iadd hx hb dL_law_1036 ?_
  refine va_sld hx hb hX hbl hbA hS (hin 3 (by decide)) dL_law_1037 ?_
  rw [ha3]
  refine dk_Vi (As := [.int a1, .int a2, .int a3]) (rest := []) ⟨hx, hb, hml, hown, hts⟩ (c_X5_asleep_0 l g z dkI0 a1 a2 a3 (dkN_lit (0) rfl)) (cwV 3 hts gL_law_X5_asleep rfl rfl rfl (by decide +kernel) ⟨Nat.le_of_ble_eq_true rfl, Nat.le_of_ble_eq_true rfl⟩) (dk_at0 hW) rfl hK hW hS rfl hl.1 rfl (Nat.le_of_ble_eq_true rfl) dL_law_1038 ⟨Nat.le_of_ble_eq_true rfl, Nat.le_of_ble_eq_true rfl⟩ (fun v1 I1 H L hp1 hW hS => ?_)
  obtain ⟨dv1, hF1, -⟩ := hp1
  refine lv_aload_n hx hb dL_law_1041 rfl (lv_at hl 1 rfl) ?_
  refine lv_aload_n hx hb dL_law_1042 rfl (lv_at hl 3 rfl) ?_
  refine lv_iload_n hx hb dL_law_1043 rfl (lv_at hl 0 rfl) ?_
  refine lv_iconst (v := 1) hx hb dL_law_1044 (by decide) ?_
  refine lv_iadd hx hb dL_law_1045 ?_
  refine va_sld hx hb hX hbl hbA hS (hin 1 (by decide)) dL_law_1046 ?_
  rw [ha1]
  refine lv_aload_n hx hb dL_law_1047 rfl (lv_at hl 3 rfl) ?_
  refine lv_iload_n hx hb dL_law_1048 rfl (lv_at hl 0 rfl) ?_
  refine lv_iconst (v := 2) hx hb dL_law_1049 (by decide) ?_
  refine lv_iadd hx hb dL_law_1050 ?_
  refine va_sld hx hb hX hbl hbA hS (hin 2 (by decide)) dL_law_1051 ?_
  rw [ha2]
  refine lv_aload_n hx hb dL_law_1052 rfl (lv_at hl 3 rfl) ?_
  refine lv_iload_n hx hb dL_law_1053 rfl (lv_at hl 0 rfl) ?_
  refine lv_iconst (v := 3) hx hb dL_law_1054 (by decide) ?_
  refine lv_iadd hx hb dL_law_1055 ?_
  refine va_sld hx hb hX hbl hbA hS (hin 3 (by decide)) dL_law_1056 ?_
  rw [ha3]
  refine dk_Vi (As := [.int a1, .int a2, .int a3]) (rest := [.int v1]) ⟨hx, hb, hml, hown, hts⟩ (c_X6_asleep_0 l g z I1 a1 a2 a3 (by rw [hF1 346 4 rfl]; exact dkN_lit (0) rfl)) (cwV 3 hts gL_law_X6_asleep rfl rfl rfl (by decide +kernel) ⟨Nat.le_of_ble_eq_true rfl, Nat.le_of_ble_eq_true rfl⟩) (dk_at340 hW) rfl hK hW hS rfl hl.1 rfl (Nat.le_of_ble_eq_true rfl) dL_law_1057 ⟨Nat.le_of_ble_eq_true rfl, Nat.le_of_ble_eq_true rfl⟩ (fun v2 I2 H L hp2 hW hS => ?_)
  obtain ⟨dv2, hF2, -⟩ := hp2
  refine lv_icmp_eq (tgt := 1302) hx hb dL_law_1060 (by decide) (fun c9 => ?_) (fun c9 => ?_)
  · exact hend _ _ ls hS hl
  · exact absurd (Int32.toInt_inj.mp ((dkN_one dv1).trans (dkN_one dv2).symm)) c9

set_option maxHeartbeats 4000000 in
set_option maxRecDepth 100000 in
theorem k_drawn {p : Program} {e : Env} {s : State} {m : MethodId} {below : List Frame} {meth : Method} {c : Code} (l : Launch) {b L z : Nat} {xs : Nat → Int32} {g : dkG} {Q : State → Prop} {H : Heap} {locs : List Loc} {ls : Array Slot} (hz0 : z = s.heap.size) (hx : p.tables.exec = Jvm.exec) (hb : c.code = code) (hml : c.maxLocals = 4) (hown : s.vm.findClass RL = some m.cls) (hts : ∀ w ∈ wsL_law, w.before #[Value.ref b] s = true) (hX : va_X b L xs s s.heap) (hbl : b < s.heap.size) (hL : L = 7) (hK : dkK g s) (hW : dkW g z dkI0 H) (hS : va_S (dkA z) s.heap H locs) (hl : lv_has ls 4 [(3, .int 0), (2, .ref (z + 340)), (1, .ref (z + 0)), (0, .ref b)]) (hend : ∀ (H : Heap) (locs : List Loc) (ls : Array Slot), va_S (dkA z) s.heap H locs → lv_has ls 4 [(3, .int 0), (2, .ref (z + 340)), (1, .ref (z + 0)), (0, .ref b)] → W p l e room_1 s m #[Value.ref b] below meth c H locs (0 + 1 + 339 + 1 + 13) (0 + 10 + 2701 + 26 + 2055) Q (F0 m 1302 ls [])) : W p l e room_1 s m #[Value.ref b] below meth c H locs (0 + 1 + 339 + 1 + 13) (0 + 10 + 2701 + 26 + 2055) Q (F0 m 1065 ls []) := by
  have hbA : ¬ dkA z b := by unfold dkA; omega
  have hin : ∀ k : Nat, k < 7 → vp_in (0 + Int32.ofNat k) L := by
    intro k hk
    rw [hL]
    rcases (by omega : k = 0 ∨ k = 1 ∨ k = 2 ∨ k = 3 ∨ k = 4 ∨ k = 5 ∨ k = 6) with rfl | rfl | rfl | rfl | rfl | rfl | rfl <;> exact vp_in_iff.mpr ⟨by decide, by decide⟩
  obtain ⟨a1, ha1⟩ : ∃ y : Int32, xs (Int32.toNatClampNeg (0 + 1)) = y := ⟨_, rfl⟩
  obtain ⟨a2, ha2⟩ : ∃ y : Int32, xs (Int32.toNatClampNeg (0 + 2)) = y := ⟨_, rfl⟩
  obtain ⟨a3, ha3⟩ : ∃ y : Int32, xs (Int32.toNatClampNeg (0 + 3)) = y := ⟨_, rfl⟩
  refine lv_aload_n hx hb dL_law_1065 rfl (lv_at hl 2 rfl) ?_
  refine lv_aload_n hx hb dL_law_1066 rfl (lv_at hl 3 rfl) ?_
  refine lv_iload_n hx hb dL_law_1067 rfl (lv_at hl 0 rfl) ?_
  refine lv_iconst (v := 1) hx hb dL_law_1068 (by decide) ?_
  refine lv_iadd hx hb dL_law_1069 ?_
  refine va_sld hx hb hX hbl hbA hS (hin 1 (by decide)) dL_law_1070 ?_
  rw [ha1]
  refine lv_aload_n hx hb dL_law_1071 rfl (lv_at hl 3 rfl) ?_
  refine lv_iload_n hx hb dL_law_1072 rfl (lv_at hl 0 rfl) ?_
  refine lv_iconst (v := 2) hx hb dL_law_1073 (by decide) ?_
  refine lv_iadd hx hb dL_law_1074 ?_
  refine va_sld hx hb hX hbl hbA hS (hin 2 (by decide)) dL_law_1075 ?_
  rw [ha2]
  refine lv_aload_n hx hb dL_law_1076 rfl (lv_at hl 3 rfl) ?_
  refine lv_iload_n hx hb dL_law_1077 rfl (lv_at hl 0 rfl) ?_
  refine lv_iconst (v := 3) hx hb dL_law_1078 (by decide) ?_
  refine lv_iadd hx hb dL_law_1079 ?_
  refine va_sld hx hb hX hbl hbA hS (hin 3 (by decide)) dL_law_1080 ?_
  rw [ha3]
  refine dk_Vi (As := [.int a1, .int a2, .int a3]) (rest := []) ⟨hx, hb, hml, hown, hts⟩ (c_X5_drawn_0 l g z dkI0 a1 a2 a3 (dkN_lit (0) rfl)) (cwV 3 hts gL_law_X5_drawn rfl rfl rfl (by decide +kernel) ⟨Nat.le_of_ble_eq_true rfl, Nat.le_of_ble_eq_true rfl⟩) (dk_at0 hW) rfl hK hW hS rfl hl.1 rfl (Nat.le_of_ble_eq_true rfl) dL_law_1081 ⟨Nat.le_of_ble_eq_true rfl, Nat.le_of_ble_eq_true rfl⟩ (fun v1 I1 H L hp1 hW hS => ?_)
  obtain ⟨dv1, hF1, -⟩ := hp1
  refine lv_aload_n hx hb dL_law_1084 rfl (lv_at hl 1 rfl) ?_
  refine lv_aload_n hx hb dL_law_1085 rfl (lv_at hl 3 rfl) ?_
  refine lv_iload_n hx hb dL_law_1086 rfl (lv_at hl 0 rfl) ?_
  refine lv_iconst (v := 1) hx hb dL_law_1087 (by decide) ?_
  refine lv_iadd hx hb dL_law_1088 ?_
  refine va_sld hx hb hX hbl hbA hS (hin 1 (by decide)) dL_law_1089 ?_
  rw [ha1]
  refine lv_aload_n hx hb dL_law_1090 rfl (lv_at hl 3 rfl) ?_
  refine lv_iload_n hx hb dL_law_1091 rfl (lv_at hl 0 rfl) ?_
  refine lv_iconst (v := 2) hx hb dL_law_1092 (by decide) ?_
  refine lv_iadd hx hb dL_law_1093 ?_
  refine va_sld hx hb hX hbl hbA hS (hin 2 (by decide)) dL_law_1094 ?_
  rw [ha2]
  refine lv_aload_n hx hb dL_law_1095 rfl (lv_at hl 3 rfl) ?_
  refine lv_iload_n hx hb dL_law_1096 rfl (lv_at hl 0 rfl) ?_
  refine lv_iconst (v := 3) hx hb dL_law_1097 (by decide) ?_
  refine lv_iadd hx hb dL_law_1098 ?_
  refine va_sld hx hb hX hbl hbA hS (hin 3 (by decide)) dL_law_1099 ?_
  rw [ha3]
  refine dk_Vi (As := [.int a1, .int a2, .int a3]) (rest := [.int v1]) ⟨hx, hb, hml, hown, hts⟩ (c_X6_drawn_0 l g z I1 a1 a2 a3 (by rw [hF1 346 0 rfl]; exact dkN_lit (0) rfl)) (cwV 3 hts gL_law_X6_drawn rfl rfl rfl (by decide +kernel) ⟨Nat.le_of_ble_eq_true rfl, Nat.le_of_ble_eq_true rfl⟩) (dk_at340 hW) rfl hK hW hS rfl hl.1 rfl (Nat.le_of_ble_eq_true rfl) dL_law_1100 ⟨Nat.le_of_ble_eq_true rfl, Nat.le_of_ble_eq_true rfl⟩ (fun v2 I2 H L hp2 hW hS => ?_)
  obtain ⟨dv2, hF2, -⟩ := hp2
  refine lv_icmp_eq (tgt := 1302) hx hb dL_law_1103 (by decide) (fun c9 => ?_) (fun c9 => ?_)
  · exact hend _ _ ls hS hl
  · exact absurd (Int32.toInt_inj.mp ((dkN_one dv1).trans (dkN_one dv2).symm)) c9

set_option maxHeartbeats 4000000 in
set_option maxRecDepth 100000 in
theorem k_image {p : Program} {e : Env} {s : State} {m : MethodId} {below : List Frame} {meth : Method} {c : Code} (l : Launch) {b L z : Nat} {xs : Nat → Int32} {g : dkG} {Q : State → Prop} {H : Heap} {locs : List Loc} {ls : Array Slot} (hz0 : z = s.heap.size) (hx : p.tables.exec = Jvm.exec) (hb : c.code = code) (hml : c.maxLocals = 4) (hown : s.vm.findClass RL = some m.cls) (hts : ∀ w ∈ wsL_law, w.before #[Value.ref b] s = true) (hX : va_X b L xs s s.heap) (hbl : b < s.heap.size) (hL : L = 7) (hK : dkK g s) (hW : dkW g z dkI0 H) (hS : va_S (dkA z) s.heap H locs) (hl : lv_has ls 4 [(3, .int 0), (2, .ref (z + 340)), (1, .ref (z + 0)), (0, .ref b)]) (hend : ∀ (H : Heap) (locs : List Loc) (ls : Array Slot), va_S (dkA z) s.heap H locs → lv_has ls 4 [(3, .int 0), (2, .ref (z + 340)), (1, .ref (z + 0)), (0, .ref b)] → W p l e room_1 s m #[Value.ref b] below meth c H locs (0 + 1 + 339 + 1 + 13) (0 + 10 + 2701 + 26 + 2055) Q (F0 m 1302 ls [])) : W p l e room_1 s m #[Value.ref b] below meth c H locs (0 + 1 + 339 + 1 + 13) (0 + 10 + 2701 + 26 + 2055) Q (F0 m 1108 ls []) := by
  have hbA : ¬ dkA z b := by unfold dkA; omega
  have hin : ∀ k : Nat, k < 7 → vp_in (0 + Int32.ofNat k) L := by
    intro k hk
    rw [hL]
    rcases (by omega : k = 0 ∨ k = 1 ∨ k = 2 ∨ k = 3 ∨ k = 4 ∨ k = 5 ∨ k = 6) with rfl | rfl | rfl | rfl | rfl | rfl | rfl <;> exact vp_in_iff.mpr ⟨by decide, by decide⟩
  obtain ⟨a1, ha1⟩ : ∃ y : Int32, xs (Int32.toNatClampNeg (0 + 1)) = y := ⟨_, rfl⟩
  rcases dkN_cut (-1) (0) rfl (dkN_top a1) with h52 | h52
  ·
    refine lv_aload_n hx hb dL_law_1108 rfl (lv_at hl 2 rfl) ?_
    refine lv_aload_n hx hb dL_law_1109 rfl (lv_at hl 3 rfl) ?_
    refine lv_iload_n hx hb dL_law_1110 rfl (lv_at hl 0 rfl) ?_
    refine lv_iconst (v := 1) hx hb dL_law_1111 (by decide) ?_
    refine lv_iadd hx hb dL_law_1112 ?_
    refine va_sld hx hb hX hbl hbA hS (hin 1 (by decide)) dL_law_1113 ?_
    rw [ha1]
    refine dk_Vi (As := [.int a1]) (rest := []) ⟨hx, hb, hml, hown, hts⟩ (c_X5_image_0 l g z dkI0 a1 (dkN_sub h52 rfl)) (cwV 1 hts gL_law_X5_image rfl rfl rfl (by decide +kernel) ⟨Nat.le_of_ble_eq_true rfl, Nat.le_of_ble_eq_true rfl⟩) (dk_at0 hW) rfl hK hW hS rfl hl.1 rfl (Nat.le_of_ble_eq_true rfl) dL_law_1114 ⟨Nat.le_of_ble_eq_true rfl, Nat.le_of_ble_eq_true rfl⟩ (fun v1 I1 H L hp1 hW hS => ?_)
    obtain ⟨dv1, hF1, -⟩ := hp1
    refine lv_aload_n hx hb dL_law_1117 rfl (lv_at hl 1 rfl) ?_
    refine lv_aload_n hx hb dL_law_1118 rfl (lv_at hl 3 rfl) ?_
    refine lv_iload_n hx hb dL_law_1119 rfl (lv_at hl 0 rfl) ?_
    refine lv_iconst (v := 1) hx hb dL_law_1120 (by decide) ?_
    refine lv_iadd hx hb dL_law_1121 ?_
    refine va_sld hx hb hX hbl hbA hS (hin 1 (by decide)) dL_law_1122 ?_
    rw [ha1]
    refine dk_Vi (As := [.int a1]) (rest := [.int v1]) ⟨hx, hb, hml, hown, hts⟩ (c_X6_image_0 l g z I1 a1 (dkN_sub h52 rfl)) (cwV 1 hts gL_law_X6_image rfl rfl rfl (by decide +kernel) ⟨Nat.le_of_ble_eq_true rfl, Nat.le_of_ble_eq_true rfl⟩) (dk_at340 hW) rfl hK hW hS rfl hl.1 rfl (Nat.le_of_ble_eq_true rfl) dL_law_1123 ⟨Nat.le_of_ble_eq_true rfl, Nat.le_of_ble_eq_true rfl⟩ (fun v2 I2 H L hp2 hW hS => ?_)
    obtain ⟨dv2, hF2, -⟩ := hp2
    refine lv_icmp_eq (tgt := 1302) hx hb dL_law_1126 (by decide) (fun c9 => ?_) (fun c9 => ?_)
    · exact hend _ _ ls hS hl
    · exact absurd (Int32.toInt_inj.mp ((dkN_one dv1).trans (dkN_one dv2).symm)) c9
  ·
    rcases dkN_cut (1) (2) rfl h52 with h53 | h53
    ·
      refine lv_aload_n hx hb dL_law_1108 rfl (lv_at hl 2 rfl) ?_
      refine lv_aload_n hx hb dL_law_1109 rfl (lv_at hl 3 rfl) ?_
      refine lv_iload_n hx hb dL_law_1110 rfl (lv_at hl 0 rfl) ?_
      refine lv_iconst (v := 1) hx hb dL_law_1111 (by decide) ?_
      refine lv_iadd hx hb dL_law_1112 ?_
      refine va_sld hx hb hX hbl hbA hS (hin 1 (by decide)) dL_law_1113 ?_
      rw [ha1]
      refine dk_Vi (As := [.int a1]) (rest := []) ⟨hx, hb, hml, hown, hts⟩ (c_X5_image_1 l g z dkI0 a1 (dkN_sub h53 rfl) (dkN_lit (0) rfl)) (cwV 1 hts gL_law_X5_image rfl rfl rfl (by decide +kernel) ⟨Nat.le_of_ble_eq_true rfl, Nat.le_of_ble_eq_true rfl⟩) (dk_at0 hW) rfl hK hW hS rfl hl.1 rfl (Nat.le_of_ble_eq_true rfl) dL_law_1114 ⟨Nat.le_of_ble_eq_true rfl, Nat.le_of_ble_eq_true rfl⟩ (fun v1 I1 H L hp1 hW hS => ?_)
      obtain ⟨dv1, hF1, -⟩ := hp1
      refine lv_aload_n hx hb dL_law_1117 rfl (lv_at hl 1 rfl) ?_
      refine lv_aload_n hx hb dL_law_1118 rfl (lv_at hl 3 rfl) ?_
      refine lv_iload_n hx hb dL_law_1119 rfl (lv_at hl 0 rfl) ?_
      refine lv_iconst (v := 1) hx hb dL_law_1120 (by decide) ?_
      refine lv_iadd hx hb dL_law_1121 ?_
      refine va_sld hx hb hX hbl hbA hS (hin 1 (by decide)) dL_law_1122 ?_
      rw [ha1]
      refine dk_Vi (As := [.int a1]) (rest := [.int v1]) ⟨hx, hb, hml, hown, hts⟩ (c_X6_image_1 l g z I1 a1 (dkN_sub h53 rfl) (by rw [hF1 346 0 rfl]; exact dkN_lit (0) rfl)) (cwV 1 hts gL_law_X6_image rfl rfl rfl (by decide +kernel) ⟨Nat.le_of_ble_eq_true rfl, Nat.le_of_ble_eq_true rfl⟩) (dk_at340 hW) rfl hK hW hS rfl hl.1 rfl (Nat.le_of_ble_eq_true rfl) dL_law_1123 ⟨Nat.le_of_ble_eq_true rfl, Nat.le_of_ble_eq_true rfl⟩ (fun v2 I2 H L hp2 hW hS => ?_)
      obtain ⟨dv2, hF2, -⟩ := hp2
      refine lv_icmp_eq (tgt := 1302) hx hb dL_law_1126 (by decide) (fun c9 => ?_) (fun c9 => ?_)
      · exact hend _ _ ls hS hl
      · exact absurd (Int32.toInt_inj.mp ((dkN_one dv1).trans (dkN_one dv2).symm)) c9
    ·
      refine lv_aload_n hx hb dL_law_1108 rfl (lv_at hl 2 rfl) ?_
      refine lv_aload_n hx hb dL_law_1109 rfl (lv_at hl 3 rfl) ?_
      refine lv_iload_n hx hb dL_law_1110 rfl (lv_at hl 0 rfl) ?_
      refine lv_iconst (v := 1) hx hb dL_law_1111 (by decide) ?_
      refine lv_iadd hx hb dL_law_1112 ?_
      refine va_sld hx hb hX hbl hbA hS (hin 1 (by decide)) dL_law_1113 ?_
      rw [ha1]
      refine dk_Vi (As := [.int a1]) (rest := []) ⟨hx, hb, hml, hown, hts⟩ (c_X5_image_0 l g z dkI0 a1 (dkN_sub h53 rfl)) (cwV 1 hts gL_law_X5_image rfl rfl rfl (by decide +kernel) ⟨Nat.le_of_ble_eq_true rfl, Nat.le_of_ble_eq_true rfl⟩) (dk_at0 hW) rfl hK hW hS rfl hl.1 rfl (Nat.le_of_ble_eq_true rfl) dL_law_1114 ⟨Nat.le_of_ble_eq_true rfl, Nat.le_of_ble_eq_true rfl⟩ (fun v1 I1 H L hp1 hW hS => ?_)
      obtain ⟨dv1, hF1, -⟩ := hp1
      refine lv_aload_n hx hb dL_law_1117 rfl (lv_at hl 1 rfl) ?_
      refine lv_aload_n hx hb dL_law_1118 rfl (lv_at hl 3 rfl) ?_
      refine lv_iload_n hx hb dL_law_1119 rfl (lv_at hl 0 rfl) ?_
      refine lv_iconst (v := 1) hx hb dL_law_1120 (by decide) ?_
      refine lv_iadd hx hb dL_law_1121 ?_
      refine va_sld hx hb hX hbl hbA hS (hin 1 (by decide)) dL_law_1122 ?_
      rw [ha1]
      refine dk_Vi (As := [.int a1]) (rest := [.int v1]) ⟨hx, hb, hml, hown, hts⟩ (c_X6_image_0 l g z I1 a1 (dkN_sub h53 rfl)) (cwV 1 hts gL_law_X6_image rfl rfl rfl (by decide +kernel) ⟨Nat.le_of_ble_eq_true rfl, Nat.le_of_ble_eq_true rfl⟩) (dk_at340 hW) rfl hK hW hS rfl hl.1 rfl (Nat.le_of_ble_eq_true rfl) dL_law_1123 ⟨Nat.le_of_ble_eq_true rfl, Nat.le_of_ble_eq_true rfl⟩ (fun v2 I2 H L hp2 hW hS => ?_)
      obtain ⟨dv2, hF2, -⟩ := hp2
      refine lv_icmp_eq (tgt := 1302) hx hb dL_law_1126 (by decide) (fun c9 => ?_) (fun c9 => ?_)
      · exact hend _ _ ls hS hl
      · exact absurd (Int32.toInt_inj.mp ((dkN_one dv1).trans (dkN_one dv2).symm)) c9

set_option maxHeartbeats 4000000 in
set_option maxRecDepth 100000 in
theorem k_restore {p : Program} {e : Env} {s : State} {m : MethodId} {below : List Frame} {meth : Method} {c : Code} (l : Launch) {b L z : Nat} {xs : Nat → Int32} {g : dkG} {Q : State → Prop} {H : Heap} {locs : List Loc} {ls : Array Slot} (hz0 : z = s.heap.size) (hx : p.tables.exec = Jvm.exec) (hb : c.code = code) (hml : c.maxLocals = 4) (hown : s.vm.findClass RL = some m.cls) (hts : ∀ w ∈ wsL_law, w.before #[Value.ref b] s = true) (hX : va_X b L xs s s.heap) (hbl : b < s.heap.size) (hL : L = 7) (hK : dkK g s) (hW : dkW g z dkI0 H) (hS : va_S (dkA z) s.heap H locs) (hl : lv_has ls 4 [(3, .int 0), (2, .ref (z + 340)), (1, .ref (z + 0)), (0, .ref b)]) (hend : ∀ (H : Heap) (locs : List Loc) (ls : Array Slot), va_S (dkA z) s.heap H locs → lv_has ls 4 [(3, .int 0), (2, .ref (z + 340)), (1, .ref (z + 0)), (0, .ref b)] → W p l e room_1 s m #[Value.ref b] below meth c H locs (0 + 1 + 339 + 1 + 13) (0 + 10 + 2701 + 26 + 2055) Q (F0 m 1302 ls [])) : W p l e room_1 s m #[Value.ref b] below meth c H locs (0 + 1 + 339 + 1 + 13) (0 + 10 + 2701 + 26 + 2055) Q (F0 m 1131 ls []) := by
  have hbA : ¬ dkA z b := by unfold dkA; omega
  have hin : ∀ k : Nat, k < 7 → vp_in (0 + Int32.ofNat k) L := by
    intro k hk
    rw [hL]
    rcases (by omega : k = 0 ∨ k = 1 ∨ k = 2 ∨ k = 3 ∨ k = 4 ∨ k = 5 ∨ k = 6) with rfl | rfl | rfl | rfl | rfl | rfl | rfl <;> exact vp_in_iff.mpr ⟨by decide, by decide⟩
  obtain ⟨a1, ha1⟩ : ∃ y : Int32, xs (Int32.toNatClampNeg (0 + 1)) = y := ⟨_, rfl⟩
  rcases dkN_cut (-1) (0) rfl (dkN_top a1) with h54 | h54
  ·
    refine lv_aload_n hx hb dL_law_1131 rfl (lv_at hl 2 rfl) ?_
    refine lv_aload_n hx hb dL_law_1132 rfl (lv_at hl 3 rfl) ?_
    refine lv_iload_n hx hb dL_law_1133 rfl (lv_at hl 0 rfl) ?_
    refine lv_iconst (v := 1) hx hb dL_law_1134 (by decide) ?_
    refine lv_iadd hx hb dL_law_1135 ?_
    refine va_sld hx hb hX hbl hbA hS (hin 1 (by decide)) dL_law_1136 ?_
    rw [ha1]
    refine dk_Vi (As := [.int a1]) (rest := []) ⟨hx, hb, hml, hown, hts⟩ (c_X5_restore_0 l g z dkI0 a1 (dkN_sub h54 rfl)) (cwV 1 hts gL_law_X5_restore rfl rfl rfl (by decide +kernel) ⟨Nat.le_of_ble_eq_true rfl, Nat.le_of_ble_eq_true rfl⟩) (dk_at0 hW) rfl hK hW hS rfl hl.1 rfl (Nat.le_of_ble_eq_true rfl) dL_law_1137 ⟨Nat.le_of_ble_eq_true rfl, Nat.le_of_ble_eq_true rfl⟩ (fun v1 I1 H L hp1 hW hS => ?_)
    obtain ⟨dv1, hF1, -⟩ := hp1
    refine lv_aload_n hx hb dL_law_1140 rfl (lv_at hl 1 rfl) ?_
    refine lv_aload_n hx hb dL_law_1141 rfl (lv_at hl 3 rfl) ?_
    refine lv_iload_n hx hb dL_law_1142 rfl (lv_at hl 0 rfl) ?_
    refine lv_iconst (v := 1) hx hb dL_law_1143 (by decide) ?_
    refine lv_iadd hx hb dL_law_1144 ?_
    refine va_sld hx hb hX hbl hbA hS (hin 1 (by decide)) dL_law_1145 ?_
    rw [ha1]
    refine dk_Vi (As := [.int a1]) (rest := [.int v1]) ⟨hx, hb, hml, hown, hts⟩ (c_X6_restore_0 l g z I1 a1 (dkN_sub h54 rfl)) (cwV 1 hts gL_law_X6_restore rfl rfl rfl (by decide +kernel) ⟨Nat.le_of_ble_eq_true rfl, Nat.le_of_ble_eq_true rfl⟩) (dk_at340 hW) rfl hK hW hS rfl hl.1 rfl (Nat.le_of_ble_eq_true rfl) dL_law_1146 ⟨Nat.le_of_ble_eq_true rfl, Nat.le_of_ble_eq_true rfl⟩ (fun v2 I2 H L hp2 hW hS => ?_)
    obtain ⟨dv2, hF2, -⟩ := hp2
    refine lv_icmp_eq (tgt := 1302) hx hb dL_law_1149 (by decide) (fun c9 => ?_) (fun c9 => ?_)
    · exact hend _ _ ls hS hl
    · exact absurd (Int32.toInt_inj.mp ((dkN_one dv1).trans (dkN_one dv2).symm)) c9
  ·
    rcases dkN_cut (0) (1) rfl h54 with h55 | h55
    ·
      refine lv_aload_n hx hb dL_law_1131 rfl (lv_at hl 2 rfl) ?_
      refine lv_aload_n hx hb dL_law_1132 rfl (lv_at hl 3 rfl) ?_
      refine lv_iload_n hx hb dL_law_1133 rfl (lv_at hl 0 rfl) ?_
      refine lv_iconst (v := 1) hx hb dL_law_1134 (by decide) ?_
      refine lv_iadd hx hb dL_law_1135 ?_
      refine va_sld hx hb hX hbl hbA hS (hin 1 (by decide)) dL_law_1136 ?_
      rw [ha1]
      refine dk_Vi (As := [.int a1]) (rest := []) ⟨hx, hb, hml, hown, hts⟩ (c_X5_restore_1 l g z dkI0 a1 (dkN_sub h55 rfl) (dkN_lit (0) rfl)) (cwV 1 hts gL_law_X5_restore rfl rfl rfl (by decide +kernel) ⟨Nat.le_of_ble_eq_true rfl, Nat.le_of_ble_eq_true rfl⟩) (dk_at0 hW) rfl hK hW hS rfl hl.1 rfl (Nat.le_of_ble_eq_true rfl) dL_law_1137 ⟨Nat.le_of_ble_eq_true rfl, Nat.le_of_ble_eq_true rfl⟩ (fun v1 I1 H L hp1 hW hS => ?_)
      obtain ⟨dv1, hF1, -⟩ := hp1
      refine lv_aload_n hx hb dL_law_1140 rfl (lv_at hl 1 rfl) ?_
      refine lv_aload_n hx hb dL_law_1141 rfl (lv_at hl 3 rfl) ?_
      refine lv_iload_n hx hb dL_law_1142 rfl (lv_at hl 0 rfl) ?_
      refine lv_iconst (v := 1) hx hb dL_law_1143 (by decide) ?_
      refine lv_iadd hx hb dL_law_1144 ?_
      refine va_sld hx hb hX hbl hbA hS (hin 1 (by decide)) dL_law_1145 ?_
      rw [ha1]
      refine dk_Vi (As := [.int a1]) (rest := [.int v1]) ⟨hx, hb, hml, hown, hts⟩ (c_X6_restore_1 l g z I1 a1 (dkN_sub h55 rfl) (by rw [hF1 351 0 rfl]; exact dkN_lit (0) rfl)) (cwV 1 hts gL_law_X6_restore rfl rfl rfl (by decide +kernel) ⟨Nat.le_of_ble_eq_true rfl, Nat.le_of_ble_eq_true rfl⟩) (dk_at340 hW) rfl hK hW hS rfl hl.1 rfl (Nat.le_of_ble_eq_true rfl) dL_law_1146 ⟨Nat.le_of_ble_eq_true rfl, Nat.le_of_ble_eq_true rfl⟩ (fun v2 I2 H L hp2 hW hS => ?_)
      obtain ⟨dv2, hF2, -⟩ := hp2
      refine lv_icmp_eq (tgt := 1302) hx hb dL_law_1149 (by decide) (fun c9 => ?_) (fun c9 => ?_)
      · exact hend _ _ ls hS hl
      · exact absurd (Int32.toInt_inj.mp ((dkN_one dv1).trans (dkN_one dv2).symm)) c9
    ·
      rcases dkN_cut (1) (2) rfl h55 with h56 | h56
      ·
        refine lv_aload_n hx hb dL_law_1131 rfl (lv_at hl 2 rfl) ?_
        refine lv_aload_n hx hb dL_law_1132 rfl (lv_at hl 3 rfl) ?_
        refine lv_iload_n hx hb dL_law_1133 rfl (lv_at hl 0 rfl) ?_
        refine lv_iconst (v := 1) hx hb dL_law_1134 (by decide) ?_
        refine lv_iadd hx hb dL_law_1135 ?_
        refine va_sld hx hb hX hbl hbA hS (hin 1 (by decide)) dL_law_1136 ?_
        rw [ha1]
        refine dk_Vi (As := [.int a1]) (rest := []) ⟨hx, hb, hml, hown, hts⟩ (c_X5_restore_2 l g z dkI0 a1 (dkN_sub h56 rfl) (dkN_lit (0) rfl)) (cwV 1 hts gL_law_X5_restore rfl rfl rfl (by decide +kernel) ⟨Nat.le_of_ble_eq_true rfl, Nat.le_of_ble_eq_true rfl⟩) (dk_at0 hW) rfl hK hW hS rfl hl.1 rfl (Nat.le_of_ble_eq_true rfl) dL_law_1137 ⟨Nat.le_of_ble_eq_true rfl, Nat.le_of_ble_eq_true rfl⟩ (fun v1 I1 H L hp1 hW hS => ?_)
        obtain ⟨dv1, hF1, -⟩ := hp1
        refine lv_aload_n hx hb dL_law_1140 rfl (lv_at hl 1 rfl) ?_
        refine lv_aload_n hx hb dL_law_1141 rfl (lv_at hl 3 rfl) ?_
        refine lv_iload_n hx hb dL_law_1142 rfl (lv_at hl 0 rfl) ?_
        refine lv_iconst (v := 1) hx hb dL_law_1143 (by decide) ?_
        refine lv_iadd hx hb dL_law_1144 ?_
        refine va_sld hx hb hX hbl hbA hS (hin 1 (by decide)) dL_law_1145 ?_
        rw [ha1]
        refine dk_Vi (As := [.int a1]) (rest := [.int v1]) ⟨hx, hb, hml, hown, hts⟩ (c_X6_restore_2 l g z I1 a1 (dkN_sub h56 rfl) (by rw [hF1 351 1 rfl]; exact dkN_lit (0) rfl)) (cwV 1 hts gL_law_X6_restore rfl rfl rfl (by decide +kernel) ⟨Nat.le_of_ble_eq_true rfl, Nat.le_of_ble_eq_true rfl⟩) (dk_at340 hW) rfl hK hW hS rfl hl.1 rfl (Nat.le_of_ble_eq_true rfl) dL_law_1146 ⟨Nat.le_of_ble_eq_true rfl, Nat.le_of_ble_eq_true rfl⟩ (fun v2 I2 H L hp2 hW hS => ?_)
        obtain ⟨dv2, hF2, -⟩ := hp2
        refine lv_icmp_eq (tgt := 1302) hx hb dL_law_1149 (by decide) (fun c9 => ?_) (fun c9 => ?_)
        · exact hend _ _ ls hS hl
        · exact absurd (Int32.toInt_inj.mp ((dkN_one dv1).trans (dkN_one dv2).symm)) c9
      ·
        refine lv_aload_n hx hb dL_law_1131 rfl (lv_at hl 2 rfl) ?_
        refine lv_aload_n hx hb dL_law_1132 rfl (lv_at hl 3 rfl) ?_
        refine lv_iload_n hx hb dL_law_1133 rfl (lv_at hl 0 rfl) ?_
        refine lv_iconst (v := 1) hx hb dL_law_1134 (by decide) ?_
        refine lv_iadd hx hb dL_law_1135 ?_
        refine va_sld hx hb hX hbl hbA hS (hin 1 (by decide)) dL_law_1136 ?_
        rw [ha1]
        refine dk_Vi (As := [.int a1]) (rest := []) ⟨hx, hb, hml, hown, hts⟩ (c_X5_restore_0 l g z dkI0 a1 (dkN_sub h56 rfl)) (cwV 1 hts gL_law_X5_restore rfl rfl rfl (by decide +kernel) ⟨Nat.le_of_ble_eq_true rfl, Nat.le_of_ble_eq_true rfl⟩) (dk_at0 hW) rfl hK hW hS rfl hl.1 rfl (Nat.le_of_ble_eq_true rfl) dL_law_1137 ⟨Nat.le_of_ble_eq_true rfl, Nat.le_of_ble_eq_true rfl⟩ (fun v1 I1 H L hp1 hW hS => ?_)
        obtain ⟨dv1, hF1, -⟩ := hp1
        refine lv_aload_n hx hb dL_law_1140 rfl (lv_at hl 1 rfl) ?_
        refine lv_aload_n hx hb dL_law_1141 rfl (lv_at hl 3 rfl) ?_
        refine lv_iload_n hx hb dL_law_1142 rfl (lv_at hl 0 rfl) ?_
        refine lv_iconst (v := 1) hx hb dL_law_1143 (by decide) ?_
        refine lv_iadd hx hb dL_law_1144 ?_
        refine va_sld hx hb hX hbl hbA hS (hin 1 (by decide)) dL_law_1145 ?_
        rw [ha1]
        refine dk_Vi (As := [.int a1]) (rest := [.int v1]) ⟨hx, hb, hml, hown, hts⟩ (c_X6_restore_0 l g z I1 a1 (dkN_sub h56 rfl)) (cwV 1 hts gL_law_X6_restore rfl rfl rfl (by decide +kernel) ⟨Nat.le_of_ble_eq_true rfl, Nat.le_of_ble_eq_true rfl⟩) (dk_at340 hW) rfl hK hW hS rfl hl.1 rfl (Nat.le_of_ble_eq_true rfl) dL_law_1146 ⟨Nat.le_of_ble_eq_true rfl, Nat.le_of_ble_eq_true rfl⟩ (fun v2 I2 H L hp2 hW hS => ?_)
        obtain ⟨dv2, hF2, -⟩ := hp2
        refine lv_icmp_eq (tgt := 1302) hx hb dL_law_1149 (by decide) (fun c9 => ?_) (fun c9 => ?_)
        · exact hend _ _ ls hS hl
        · exact absurd (Int32.toInt_inj.mp ((dkN_one dv1).trans (dkN_one dv2).symm)) c9

set_option maxHeartbeats 4000000 in
set_option maxRecDepth 100000 in
theorem k_kind {p : Program} {e : Env} {s : State} {m : MethodId} {below : List Frame} {meth : Method} {c : Code} (l : Launch) {b L z : Nat} {xs : Nat → Int32} {g : dkG} {Q : State → Prop} {H : Heap} {locs : List Loc} {ls : Array Slot} (hz0 : z = s.heap.size) (hx : p.tables.exec = Jvm.exec) (hb : c.code = code) (hml : c.maxLocals = 4) (hown : s.vm.findClass RL = some m.cls) (hts : ∀ w ∈ wsL_law, w.before #[Value.ref b] s = true) (hX : va_X b L xs s s.heap) (hbl : b < s.heap.size) (hL : L = 7) (hK : dkK g s) (hW : dkW g z dkI0 H) (hS : va_S (dkA z) s.heap H locs) (hl : lv_has ls 4 [(3, .int 0), (2, .ref (z + 340)), (1, .ref (z + 0)), (0, .ref b)]) (hend : ∀ (H : Heap) (locs : List Loc) (ls : Array Slot), va_S (dkA z) s.heap H locs → lv_has ls 4 [(3, .int 0), (2, .ref (z + 340)), (1, .ref (z + 0)), (0, .ref b)] → W p l e room_1 s m #[Value.ref b] below meth c H locs (0 + 1 + 339 + 1 + 13) (0 + 10 + 2701 + 26 + 2055) Q (F0 m 1302 ls [])) : W p l e room_1 s m #[Value.ref b] below meth c H locs (0 + 1 + 339 + 1 + 13) (0 + 10 + 2701 + 26 + 2055) Q (F0 m 1154 ls []) := by
  have hbA : ¬ dkA z b := by unfold dkA; omega
  have hin : ∀ k : Nat, k < 7 → vp_in (0 + Int32.ofNat k) L := by
    intro k hk
    rw [hL]
    rcases (by omega : k = 0 ∨ k = 1 ∨ k = 2 ∨ k = 3 ∨ k = 4 ∨ k = 5 ∨ k = 6) with rfl | rfl | rfl | rfl | rfl | rfl | rfl <;> exact vp_in_iff.mpr ⟨by decide, by decide⟩
  obtain ⟨a1, ha1⟩ : ∃ y : Int32, xs (Int32.toNatClampNeg (0 + 1)) = y := ⟨_, rfl⟩
  refine lv_aload_n hx hb dL_law_1154 rfl (lv_at hl 2 rfl) ?_
  refine lv_aload_n hx hb dL_law_1155 rfl (lv_at hl 3 rfl) ?_
  refine lv_iload_n hx hb dL_law_1156 rfl (lv_at hl 0 rfl) ?_
  refine lv_iconst (v := 1) hx hb dL_law_1157 (by decide) ?_
  refine lv_iadd hx hb dL_law_1158 ?_
  refine va_sld hx hb hX hbl hbA hS (hin 1 (by decide)) dL_law_1159 ?_
  rw [ha1]
  refine dk_Vi (As := [.int a1]) (rest := []) ⟨hx, hb, hml, hown, hts⟩ (c_X5_kind_0 l g z dkI0 a1 (dkN_lit (0) rfl)) (cwV 1 hts gL_law_X5_kind rfl rfl rfl (by decide +kernel) ⟨Nat.le_of_ble_eq_true rfl, Nat.le_of_ble_eq_true rfl⟩) (dk_at0 hW) rfl hK hW hS rfl hl.1 rfl (Nat.le_of_ble_eq_true rfl) dL_law_1160 ⟨Nat.le_of_ble_eq_true rfl, Nat.le_of_ble_eq_true rfl⟩ (fun v1 I1 H L hp1 hW hS => ?_)
  obtain ⟨dv1, hF1, -⟩ := hp1
  refine lv_aload_n hx hb dL_law_1163 rfl (lv_at hl 1 rfl) ?_
  refine lv_aload_n hx hb dL_law_1164 rfl (lv_at hl 3 rfl) ?_
  refine lv_iload_n hx hb dL_law_1165 rfl (lv_at hl 0 rfl) ?_
  refine lv_iconst (v := 1) hx hb dL_law_1166 (by decide) ?_
  refine lv_iadd hx hb dL_law_1167 ?_
  refine va_sld hx hb hX hbl hbA hS (hin 1 (by decide)) dL_law_1168 ?_
  rw [ha1]
  refine dk_Vi (As := [.int a1]) (rest := [.int v1]) ⟨hx, hb, hml, hown, hts⟩ (c_X6_kind_0 l g z I1 a1 (by rw [hF1 346 5 rfl]; exact dkN_lit (0) rfl)) (cwV 1 hts gL_law_X6_kind rfl rfl rfl (by decide +kernel) ⟨Nat.le_of_ble_eq_true rfl, Nat.le_of_ble_eq_true rfl⟩) (dk_at340 hW) rfl hK hW hS rfl hl.1 rfl (Nat.le_of_ble_eq_true rfl) dL_law_1169 ⟨Nat.le_of_ble_eq_true rfl, Nat.le_of_ble_eq_true rfl⟩ (fun v2 I2 H L hp2 hW hS => ?_)
  obtain ⟨dv2, hF2, -⟩ := hp2
  refine lv_icmp_eq (tgt := 1302) hx hb dL_law_1172 (by decide) (fun c9 => ?_) (fun c9 => ?_)
  · exact hend _ _ ls hS hl
  · exact absurd (Int32.toInt_inj.mp ((dkN_one dv1).trans (dkN_one dv2).symm)) c9

set_option maxHeartbeats 4000000 in
set_option maxRecDepth 100000 in
theorem k_as {p : Program} {e : Env} {s : State} {m : MethodId} {below : List Frame} {meth : Method} {c : Code} (l : Launch) {b L z : Nat} {xs : Nat → Int32} {g : dkG} {Q : State → Prop} {H : Heap} {locs : List Loc} {ls : Array Slot} (hz0 : z = s.heap.size) (hx : p.tables.exec = Jvm.exec) (hb : c.code = code) (hml : c.maxLocals = 4) (hown : s.vm.findClass RL = some m.cls) (hts : ∀ w ∈ wsL_law, w.before #[Value.ref b] s = true) (hX : va_X b L xs s s.heap) (hbl : b < s.heap.size) (hL : L = 7) (hK : dkK g s) (hW : dkW g z dkI0 H) (hS : va_S (dkA z) s.heap H locs) (hl : lv_has ls 4 [(3, .int 0), (2, .ref (z + 340)), (1, .ref (z + 0)), (0, .ref b)]) (hend : ∀ (H : Heap) (locs : List Loc) (ls : Array Slot), va_S (dkA z) s.heap H locs → lv_has ls 4 [(3, .int 0), (2, .ref (z + 340)), (1, .ref (z + 0)), (0, .ref b)] → W p l e room_1 s m #[Value.ref b] below meth c H locs (0 + 1 + 339 + 1 + 13) (0 + 10 + 2701 + 26 + 2055) Q (F0 m 1302 ls [])) : W p l e room_1 s m #[Value.ref b] below meth c H locs (0 + 1 + 339 + 1 + 13) (0 + 10 + 2701 + 26 + 2055) Q (F0 m 1177 ls []) := by
  have hbA : ¬ dkA z b := by unfold dkA; omega
  have hin : ∀ k : Nat, k < 7 → vp_in (0 + Int32.ofNat k) L := by
    intro k hk
    rw [hL]
    rcases (by omega : k = 0 ∨ k = 1 ∨ k = 2 ∨ k = 3 ∨ k = 4 ∨ k = 5 ∨ k = 6) with rfl | rfl | rfl | rfl | rfl | rfl | rfl <;> exact vp_in_iff.mpr ⟨by decide, by decide⟩
  obtain ⟨a1, ha1⟩ : ∃ y : Int32, xs (Int32.toNatClampNeg (0 + 1)) = y := ⟨_, rfl⟩
  obtain ⟨a2, ha2⟩ : ∃ y : Int32, xs (Int32.toNatClampNeg (0 + 2)) = y := ⟨_, rfl⟩
  refine lv_aload_n hx hb dL_law_1177 rfl (lv_at hl 2 rfl) ?_
  refine lv_aload_n hx hb dL_law_1178 rfl (lv_at hl 3 rfl) ?_
  refine lv_iload_n hx hb dL_law_1179 rfl (lv_at hl 0 rfl) ?_
  refine lv_iconst (v := 1) hx hb dL_law_1180 (by decide) ?_
  refine lv_iadd hx hb dL_law_1181 ?_
  refine va_sld hx hb hX hbl hbA hS (hin 1 (by decide)) dL_law_1182 ?_
  rw [ha1]
  refine lv_aload_n hx hb dL_law_1183 rfl (lv_at hl 3 rfl) ?_
  refine lv_iload_n hx hb dL_law_1184 rfl (lv_at hl 0 rfl) ?_
  refine lv_iconst (v := 2) hx hb dL_law_1185 (by decide) ?_
  refine lv_iadd hx hb dL_law_1186 ?_
  refine va_sld hx hb hX hbl hbA hS (hin 2 (by decide)) dL_law_1187 ?_
  rw [ha2]
  refine dk_Vi (As := [.int a1, .int a2]) (rest := []) ⟨hx, hb, hml, hown, hts⟩ (c_X5_as_0 l g z dkI0 a1 a2 (dkN_lit (0) rfl)) (cwV 2 hts gL_law_X5_as rfl rfl rfl (by decide +kernel) ⟨Nat.le_of_ble_eq_true rfl, Nat.le_of_ble_eq_true rfl⟩) (dk_at0 hW) rfl hK hW hS rfl hl.1 rfl (Nat.le_of_ble_eq_true rfl) dL_law_1188 ⟨Nat.le_of_ble_eq_true rfl, Nat.le_of_ble_eq_true rfl⟩ (fun v1 I1 H L hp1 hW hS => ?_)
  obtain ⟨dv1, hF1, -⟩ := hp1
  refine lv_aload_n hx hb dL_law_1191 rfl (lv_at hl 1 rfl) ?_
  refine lv_aload_n hx hb dL_law_1192 rfl (lv_at hl 3 rfl) ?_
  refine lv_iload_n hx hb dL_law_1193 rfl (lv_at hl 0 rfl) ?_
  refine lv_iconst (v := 1) hx hb dL_law_1194 (by decide) ?_
  refine lv_iadd hx hb dL_law_1195 ?_
  refine va_sld hx hb hX hbl hbA hS (hin 1 (by decide)) dL_law_1196 ?_
  rw [ha1]
  refine lv_aload_n hx hb dL_law_1197 rfl (lv_at hl 3 rfl) ?_
  refine lv_iload_n hx hb dL_law_1198 rfl (lv_at hl 0 rfl) ?_
  refine lv_iconst (v := 2) hx hb dL_law_1199 (by decide) ?_
  refine lv_iadd hx hb dL_law_1200 ?_
  refine va_sld hx hb hX hbl hbA hS (hin 2 (by decide)) dL_law_1201 ?_
  rw [ha2]
  refine dk_Vi (As := [.int a1, .int a2]) (rest := [.int v1]) ⟨hx, hb, hml, hown, hts⟩ (c_X6_as_0 l g z I1 a1 a2 (by rw [hF1 346 5 rfl]; exact dkN_lit (0) rfl)) (cwV 2 hts gL_law_X6_as rfl rfl rfl (by decide +kernel) ⟨Nat.le_of_ble_eq_true rfl, Nat.le_of_ble_eq_true rfl⟩) (dk_at340 hW) rfl hK hW hS rfl hl.1 rfl (Nat.le_of_ble_eq_true rfl) dL_law_1202 ⟨Nat.le_of_ble_eq_true rfl, Nat.le_of_ble_eq_true rfl⟩ (fun v2 I2 H L hp2 hW hS => ?_)
  obtain ⟨dv2, hF2, -⟩ := hp2
  refine lv_icmp_eq (tgt := 1302) hx hb dL_law_1205 (by decide) (fun c9 => ?_) (fun c9 => ?_)
  · exact hend _ _ ls hS hl
  · exact absurd (Int32.toInt_inj.mp ((dkN_one dv1).trans (dkN_one dv2).symm)) c9

set_option maxHeartbeats 4000000 in
set_option maxRecDepth 100000 in
theorem k_ask {p : Program} {e : Env} {s : State} {m : MethodId} {below : List Frame} {meth : Method} {c : Code} (l : Launch) {b L z : Nat} {xs : Nat → Int32} {g : dkG} {Q : State → Prop} {H : Heap} {locs : List Loc} {ls : Array Slot} (hz0 : z = s.heap.size) (hx : p.tables.exec = Jvm.exec) (hb : c.code = code) (hml : c.maxLocals = 4) (hown : s.vm.findClass RL = some m.cls) (hts : ∀ w ∈ wsL_law, w.before #[Value.ref b] s = true) (hX : va_X b L xs s s.heap) (hbl : b < s.heap.size) (hL : L = 7) (hK : dkK g s) (hW : dkW g z dkI0 H) (hS : va_S (dkA z) s.heap H locs) (hl : lv_has ls 4 [(3, .int 0), (2, .ref (z + 340)), (1, .ref (z + 0)), (0, .ref b)]) (hend : ∀ (H : Heap) (locs : List Loc) (ls : Array Slot), va_S (dkA z) s.heap H locs → lv_has ls 4 [(3, .int 0), (2, .ref (z + 340)), (1, .ref (z + 0)), (0, .ref b)] → W p l e room_1 s m #[Value.ref b] below meth c H locs (0 + 1 + 339 + 1 + 13) (0 + 10 + 2701 + 26 + 2055) Q (F0 m 1302 ls [])) : W p l e room_1 s m #[Value.ref b] below meth c H locs (0 + 1 + 339 + 1 + 13) (0 + 10 + 2701 + 26 + 2055) Q (F0 m 1210 ls []) := by
  have hbA : ¬ dkA z b := by unfold dkA; omega
  have hin : ∀ k : Nat, k < 7 → vp_in (0 + Int32.ofNat k) L := by
    intro k hk
    rw [hL]
    rcases (by omega : k = 0 ∨ k = 1 ∨ k = 2 ∨ k = 3 ∨ k = 4 ∨ k = 5 ∨ k = 6) with rfl | rfl | rfl | rfl | rfl | rfl | rfl <;> exact vp_in_iff.mpr ⟨by decide, by decide⟩
  obtain ⟨a1, ha1⟩ : ∃ y : Int32, xs (Int32.toNatClampNeg (0 + 1)) = y := ⟨_, rfl⟩
  obtain ⟨a2, ha2⟩ : ∃ y : Int32, xs (Int32.toNatClampNeg (0 + 2)) = y := ⟨_, rfl⟩
  refine lv_aload_n hx hb dL_law_1210 rfl (lv_at hl 2 rfl) ?_
  refine lv_aload_n hx hb dL_law_1211 rfl (lv_at hl 3 rfl) ?_
  refine lv_iload_n hx hb dL_law_1212 rfl (lv_at hl 0 rfl) ?_
  refine lv_iconst (v := 1) hx hb dL_law_1213 (by decide) ?_
  refine lv_iadd hx hb dL_law_1214 ?_
  refine va_sld hx hb hX hbl hbA hS (hin 1 (by decide)) dL_law_1215 ?_
  rw [ha1]
  refine lv_aload_n hx hb dL_law_1216 rfl (lv_at hl 3 rfl) ?_
  refine lv_iload_n hx hb dL_law_1217 rfl (lv_at hl 0 rfl) ?_
  refine lv_iconst (v := 2) hx hb dL_law_1218 (by decide) ?_
  refine lv_iadd hx hb dL_law_1219 ?_
  refine va_sld hx hb hX hbl hbA hS (hin 2 (by decide)) dL_law_1220 ?_
  rw [ha2]
  refine dk_Vi (As := [.int a1, .int a2]) (rest := []) ⟨hx, hb, hml, hown, hts⟩ (c_X5_ask_0 l g z dkI0 a1 a2 (dkN_lit (0) rfl)) (cwV 2 hts gL_law_X5_ask rfl rfl rfl (by decide +kernel) ⟨Nat.le_of_ble_eq_true rfl, Nat.le_of_ble_eq_true rfl⟩) (dk_at0 hW) rfl hK hW hS rfl hl.1 rfl (Nat.le_of_ble_eq_true rfl) dL_law_1221 ⟨Nat.le_of_ble_eq_true rfl, Nat.le_of_ble_eq_true rfl⟩ (fun v1 I1 H L hp1 hW hS => ?_)
  obtain ⟨dv1, hF1, -⟩ := hp1
  refine lv_aload_n hx hb dL_law_1224 rfl (lv_at hl 1 rfl) ?_
  refine lv_aload_n hx hb dL_law_1225 rfl (lv_at hl 3 rfl) ?_
  refine lv_iload_n hx hb dL_law_1226 rfl (lv_at hl 0 rfl) ?_
  refine lv_iconst (v := 1) hx hb dL_law_1227 (by decide) ?_
  refine lv_iadd hx hb dL_law_1228 ?_
  refine va_sld hx hb hX hbl hbA hS (hin 1 (by decide)) dL_law_1229 ?_
  rw [ha1]
  refine lv_aload_n hx hb dL_law_1230 rfl (lv_at hl 3 rfl) ?_
  refine lv_iload_n hx hb dL_law_1231 rfl (lv_at hl 0 rfl) ?_
  refine lv_iconst (v := 2) hx hb dL_law_1232 (by decide) ?_
  refine lv_iadd hx hb dL_law_1233 ?_
  refine va_sld hx hb hX hbl hbA hS (hin 2 (by decide)) dL_law_1234 ?_
  rw [ha2]
  refine dk_Vi (As := [.int a1, .int a2]) (rest := [.int v1]) ⟨hx, hb, hml, hown, hts⟩ (c_X6_ask_0 l g z I1 a1 a2 (by rw [hF1 346 5 rfl]; exact dkN_lit (0) rfl)) (cwV 2 hts gL_law_X6_ask rfl rfl rfl (by decide +kernel) ⟨Nat.le_of_ble_eq_true rfl, Nat.le_of_ble_eq_true rfl⟩) (dk_at340 hW) rfl hK hW hS rfl hl.1 rfl (Nat.le_of_ble_eq_true rfl) dL_law_1235 ⟨Nat.le_of_ble_eq_true rfl, Nat.le_of_ble_eq_true rfl⟩ (fun v2 I2 H L hp2 hW hS => ?_)
  obtain ⟨dv2, hF2, -⟩ := hp2
  refine lv_icmp_eq (tgt := 1302) hx hb dL_law_1238 (by decide) (fun c9 => ?_) (fun c9 => ?_)
  · exact hend _ _ ls hS hl
  · exact absurd (Int32.toInt_inj.mp ((dkN_one dv1).trans (dkN_one dv2).symm)) c9

set_option maxHeartbeats 4000000 in
set_option maxRecDepth 100000 in
theorem k_trace {p : Program} {e : Env} {s : State} {m : MethodId} {below : List Frame} {meth : Method} {c : Code} (l : Launch) {b L z : Nat} {xs : Nat → Int32} {g : dkG} {Q : State → Prop} {H : Heap} {locs : List Loc} {ls : Array Slot} (hz0 : z = s.heap.size) (hx : p.tables.exec = Jvm.exec) (hb : c.code = code) (hml : c.maxLocals = 4) (hown : s.vm.findClass RL = some m.cls) (hts : ∀ w ∈ wsL_law, w.before #[Value.ref b] s = true) (hX : va_X b L xs s s.heap) (hbl : b < s.heap.size) (hL : L = 7) (hK : dkK g s) (hW : dkW g z dkI0 H) (hS : va_S (dkA z) s.heap H locs) (hl : lv_has ls 4 [(3, .int 0), (2, .ref (z + 340)), (1, .ref (z + 0)), (0, .ref b)]) (hend : ∀ (H : Heap) (locs : List Loc) (ls : Array Slot), va_S (dkA z) s.heap H locs → lv_has ls 4 [(3, .int 0), (2, .ref (z + 340)), (1, .ref (z + 0)), (0, .ref b)] → W p l e room_1 s m #[Value.ref b] below meth c H locs (0 + 1 + 339 + 1 + 13) (0 + 10 + 2701 + 26 + 2055) Q (F0 m 1302 ls [])) : W p l e room_1 s m #[Value.ref b] below meth c H locs (0 + 1 + 339 + 1 + 13) (0 + 10 + 2701 + 26 + 2055) Q (F0 m 1243 ls []) := by
  have hbA : ¬ dkA z b := by unfold dkA; omega
  have hin : ∀ k : Nat, k < 7 → vp_in (0 + Int32.ofNat k) L := by
    intro k hk
    rw [hL]
    rcases (by omega : k = 0 ∨ k = 1 ∨ k = 2 ∨ k = 3 ∨ k = 4 ∨ k = 5 ∨ k = 6) with rfl | rfl | rfl | rfl | rfl | rfl | rfl <;> exact vp_in_iff.mpr ⟨by decide, by decide⟩
  obtain ⟨a1, ha1⟩ : ∃ y : Int32, xs (Int32.toNatClampNeg (0 + 1)) = y := ⟨_, rfl⟩
  refine lv_aload_n hx hb dL_law_1243 rfl (lv_at hl 2 rfl) ?_
  refine lv_aload_n hx hb dL_law_1244 rfl (lv_at hl 3 rfl) ?_
  refine lv_iload_n hx hb dL_law_1245 rfl (lv_at hl 0 rfl) ?_
  refine lv_iconst (v := 1) hx hb dL_law_1246 (by decide) ?_
  refine lv_iadd hx hb dL_law_1247 ?_
  refine va_sld hx hb hX hbl hbA hS (hin 1 (by decide)) dL_law_1248 ?_
  rw [ha1]
  refine dk_Vi (As := [.int a1]) (rest := []) ⟨hx, hb, hml, hown, hts⟩ (c_X5_trace_0 l g z dkI0 a1 (dkN_lit (0) rfl)) (cwV 1 hts gL_law_X5_trace rfl rfl rfl (by decide +kernel) ⟨Nat.le_of_ble_eq_true rfl, Nat.le_of_ble_eq_true rfl⟩) (dk_at0 hW) rfl hK hW hS rfl hl.1 rfl (Nat.le_of_ble_eq_true rfl) dL_law_1249 ⟨Nat.le_of_ble_eq_true rfl, Nat.le_of_ble_eq_true rfl⟩ (fun v1 I1 H L hp1 hW hS => ?_)
  obtain ⟨dv1, hF1, -⟩ := hp1
  refine lv_aload_n hx hb dL_law_1252 rfl (lv_at hl 1 rfl) ?_
  refine lv_aload_n hx hb dL_law_1253 rfl (lv_at hl 3 rfl) ?_
  refine lv_iload_n hx hb dL_law_1254 rfl (lv_at hl 0 rfl) ?_
  refine lv_iconst (v := 1) hx hb dL_law_1255 (by decide) ?_
  refine lv_iadd hx hb dL_law_1256 ?_
  refine va_sld hx hb hX hbl hbA hS (hin 1 (by decide)) dL_law_1257 ?_
  rw [ha1]
  refine dk_Vi (As := [.int a1]) (rest := [.int v1]) ⟨hx, hb, hml, hown, hts⟩ (c_X6_trace_0 l g z I1 a1 (by rw [hF1 340 25 rfl]; exact dkN_lit (0) rfl)) (cwV 1 hts gL_law_X6_trace rfl rfl rfl (by decide +kernel) ⟨Nat.le_of_ble_eq_true rfl, Nat.le_of_ble_eq_true rfl⟩) (dk_at340 hW) rfl hK hW hS rfl hl.1 rfl (Nat.le_of_ble_eq_true rfl) dL_law_1258 ⟨Nat.le_of_ble_eq_true rfl, Nat.le_of_ble_eq_true rfl⟩ (fun v2 I2 H L hp2 hW hS => ?_)
  obtain ⟨dv2, hF2, -⟩ := hp2
  refine lv_icmp_eq (tgt := 1302) hx hb dL_law_1261 (by decide) (fun c9 => ?_) (fun c9 => ?_)
  · exact hend _ _ ls hS hl
  · exact absurd (Int32.toInt_inj.mp ((dkN_one dv1).trans (dkN_one dv2).symm)) c9

set_option maxHeartbeats 4000000 in
set_option maxRecDepth 100000 in
theorem k_count {p : Program} {e : Env} {s : State} {m : MethodId} {below : List Frame} {meth : Method} {c : Code} (l : Launch) {b L z : Nat} {xs : Nat → Int32} {g : dkG} {Q : State → Prop} {H : Heap} {locs : List Loc} {ls : Array Slot} (hz0 : z = s.heap.size) (hx : p.tables.exec = Jvm.exec) (hb : c.code = code) (hml : c.maxLocals = 4) (hown : s.vm.findClass RL = some m.cls) (hts : ∀ w ∈ wsL_law, w.before #[Value.ref b] s = true) (hX : va_X b L xs s s.heap) (hbl : b < s.heap.size) (hL : L = 7) (hK : dkK g s) (hW : dkW g z dkI0 H) (hS : va_S (dkA z) s.heap H locs) (hl : lv_has ls 4 [(3, .int 0), (2, .ref (z + 340)), (1, .ref (z + 0)), (0, .ref b)]) (hend : ∀ (H : Heap) (locs : List Loc) (ls : Array Slot), va_S (dkA z) s.heap H locs → lv_has ls 4 [(3, .int 0), (2, .ref (z + 340)), (1, .ref (z + 0)), (0, .ref b)] → W p l e room_1 s m #[Value.ref b] below meth c H locs (0 + 1 + 339 + 1 + 13) (0 + 10 + 2701 + 26 + 2055) Q (F0 m 1302 ls [])) : W p l e room_1 s m #[Value.ref b] below meth c H locs (0 + 1 + 339 + 1 + 13) (0 + 10 + 2701 + 26 + 2055) Q (F0 m 1266 ls []) := by
  have hbA : ¬ dkA z b := by unfold dkA; omega
  have hin : ∀ k : Nat, k < 7 → vp_in (0 + Int32.ofNat k) L := by
    intro k hk
    rw [hL]
    rcases (by omega : k = 0 ∨ k = 1 ∨ k = 2 ∨ k = 3 ∨ k = 4 ∨ k = 5 ∨ k = 6) with rfl | rfl | rfl | rfl | rfl | rfl | rfl <;> exact vp_in_iff.mpr ⟨by decide, by decide⟩
  obtain ⟨a1, ha1⟩ : ∃ y : Int32, xs (Int32.toNatClampNeg (0 + 1)) = y := ⟨_, rfl⟩
  rcases dkN_cut (-1) (0) rfl (dkN_top a1) with h57 | h57
  ·
    refine lv_aload_n hx hb dL_law_1266 rfl (lv_at hl 2 rfl) ?_
    refine lv_aload_n hx hb dL_law_1267 rfl (lv_at hl 3 rfl) ?_
    refine lv_iload_n hx hb dL_law_1268 rfl (lv_at hl 0 rfl) ?_
    refine lv_iconst (v := 1) hx hb dL_law_1269 (by decide) ?_
    refine lv_iadd hx hb dL_law_1270 ?_
    refine va_sld hx hb hX hbl hbA hS (hin 1 (by decide)) dL_law_1271 ?_
    rw [ha1]
    refine dk_Vi (As := [.int a1]) (rest := []) ⟨hx, hb, hml, hown, hts⟩ (c_X5_count_0 l g z dkI0 a1 (dkN_sub h57 rfl)) (cwV 1 hts gL_law_X5_count rfl rfl rfl (by decide +kernel) ⟨Nat.le_of_ble_eq_true rfl, Nat.le_of_ble_eq_true rfl⟩) (dk_at0 hW) rfl hK hW hS rfl hl.1 rfl (Nat.le_of_ble_eq_true rfl) dL_law_1272 ⟨Nat.le_of_ble_eq_true rfl, Nat.le_of_ble_eq_true rfl⟩ (fun v1 I1 H L hp1 hW hS => ?_)
    obtain ⟨dv1, hF1, -⟩ := hp1
    refine lv_aload_n hx hb dL_law_1275 rfl (lv_at hl 1 rfl) ?_
    refine lv_aload_n hx hb dL_law_1276 rfl (lv_at hl 3 rfl) ?_
    refine lv_iload_n hx hb dL_law_1277 rfl (lv_at hl 0 rfl) ?_
    refine lv_iconst (v := 1) hx hb dL_law_1278 (by decide) ?_
    refine lv_iadd hx hb dL_law_1279 ?_
    refine va_sld hx hb hX hbl hbA hS (hin 1 (by decide)) dL_law_1280 ?_
    rw [ha1]
    refine dk_Vi (As := [.int a1]) (rest := [.int v1]) ⟨hx, hb, hml, hown, hts⟩ (c_X6_count_0 l g z I1 a1 (dkN_sub h57 rfl)) (cwV 1 hts gL_law_X6_count rfl rfl rfl (by decide +kernel) ⟨Nat.le_of_ble_eq_true rfl, Nat.le_of_ble_eq_true rfl⟩) (dk_at340 hW) rfl hK hW hS rfl hl.1 rfl (Nat.le_of_ble_eq_true rfl) dL_law_1281 ⟨Nat.le_of_ble_eq_true rfl, Nat.le_of_ble_eq_true rfl⟩ (fun v2 I2 H L hp2 hW hS => ?_)
    obtain ⟨dv2, hF2, -⟩ := hp2
    refine lv_icmp_eq (tgt := 1302) hx hb dL_law_1284 (by decide) (fun c9 => ?_) (fun c9 => ?_)
    · exact hend _ _ ls hS hl
    · exact absurd (Int32.toInt_inj.mp ((dkN_one dv1).trans (dkN_one dv2).symm)) c9
  ·
    rcases dkN_cut (9) (10) rfl h57 with h58 | h58
    ·
      refine lv_aload_n hx hb dL_law_1266 rfl (lv_at hl 2 rfl) ?_
      refine lv_aload_n hx hb dL_law_1267 rfl (lv_at hl 3 rfl) ?_
      refine lv_iload_n hx hb dL_law_1268 rfl (lv_at hl 0 rfl) ?_
      refine lv_iconst (v := 1) hx hb dL_law_1269 (by decide) ?_
      refine lv_iadd hx hb dL_law_1270 ?_
      refine va_sld hx hb hX hbl hbA hS (hin 1 (by decide)) dL_law_1271 ?_
      rw [ha1]
      refine dk_Vi (As := [.int a1]) (rest := []) ⟨hx, hb, hml, hown, hts⟩ (c_X5_count_1 l g z dkI0 a1 (dkN_sub h58 rfl) (fun j => dkN_lit (-1) rfl) (dkN_lit (0) rfl) (dkN_lit (0) rfl) (dkN_lit (0) rfl) (dkN_lit (0) rfl) (dkN_lit (0) rfl) (dkN_lit (0) rfl) (dkN_lit (0) rfl) (dkN_lit (0) rfl)) (cwV 1 hts gL_law_X5_count rfl rfl rfl (by decide +kernel) ⟨Nat.le_of_ble_eq_true rfl, Nat.le_of_ble_eq_true rfl⟩) (dk_at0 hW) rfl hK hW hS rfl hl.1 rfl (Nat.le_of_ble_eq_true rfl) dL_law_1272 ⟨Nat.le_of_ble_eq_true rfl, Nat.le_of_ble_eq_true rfl⟩ (fun v1 I1 H L hp1 hW hS => ?_)
      obtain ⟨dv1, hF1, -⟩ := hp1
      refine lv_aload_n hx hb dL_law_1275 rfl (lv_at hl 1 rfl) ?_
      refine lv_aload_n hx hb dL_law_1276 rfl (lv_at hl 3 rfl) ?_
      refine lv_iload_n hx hb dL_law_1277 rfl (lv_at hl 0 rfl) ?_
      refine lv_iconst (v := 1) hx hb dL_law_1278 (by decide) ?_
      refine lv_iadd hx hb dL_law_1279 ?_
      refine va_sld hx hb hX hbl hbA hS (hin 1 (by decide)) dL_law_1280 ?_
      rw [ha1]
      refine dk_Vi (As := [.int a1]) (rest := [.int v1]) ⟨hx, hb, hml, hown, hts⟩ (c_X6_count_1 l g z I1 a1 (dkN_sub h58 rfl) (by rw [hF1 340 17 rfl]; exact dkN_lit (0) rfl) (by rw [hF1 340 6 rfl]; exact dkN_lit (0) rfl) (fun j => by rw [hF1 341 j rfl]; exact dkN_lit (-1000000) rfl) (by rw [hF1 346 0 rfl]; exact dkN_lit (0) rfl) (by rw [hF1 346 1 rfl]; exact dkN_lit (0) rfl) (by rw [hF1 346 2 rfl]; exact dkN_lit (0) rfl) (by rw [hF1 346 3 rfl]; exact dkN_lit (0) rfl) (by rw [hF1 346 4 rfl]; exact dkN_lit (0) rfl) (by rw [hF1 346 5 rfl]; exact dkN_lit (0) rfl)) (cwV 1 hts gL_law_X6_count rfl rfl rfl (by decide +kernel) ⟨Nat.le_of_ble_eq_true rfl, Nat.le_of_ble_eq_true rfl⟩) (dk_at340 hW) rfl hK hW hS rfl hl.1 rfl (Nat.le_of_ble_eq_true rfl) dL_law_1281 ⟨Nat.le_of_ble_eq_true rfl, Nat.le_of_ble_eq_true rfl⟩ (fun v2 I2 H L hp2 hW hS => ?_)
      obtain ⟨dv2, hF2, -⟩ := hp2
      refine lv_icmp_eq (tgt := 1302) hx hb dL_law_1284 (by decide) (fun c9 => ?_) (fun c9 => ?_)
      · exact hend _ _ ls hS hl
      · exact absurd (Int32.toInt_inj.mp ((dkN_one dv1).trans (dkN_one dv2).symm)) c9
    ·
      refine lv_aload_n hx hb dL_law_1266 rfl (lv_at hl 2 rfl) ?_
      refine lv_aload_n hx hb dL_law_1267 rfl (lv_at hl 3 rfl) ?_
      refine lv_iload_n hx hb dL_law_1268 rfl (lv_at hl 0 rfl) ?_
      refine lv_iconst (v := 1) hx hb dL_law_1269 (by decide) ?_
      refine lv_iadd hx hb dL_law_1270 ?_
      refine va_sld hx hb hX hbl hbA hS (hin 1 (by decide)) dL_law_1271 ?_
      rw [ha1]
      refine dk_Vi (As := [.int a1]) (rest := []) ⟨hx, hb, hml, hown, hts⟩ (c_X5_count_0 l g z dkI0 a1 (dkN_sub h58 rfl)) (cwV 1 hts gL_law_X5_count rfl rfl rfl (by decide +kernel) ⟨Nat.le_of_ble_eq_true rfl, Nat.le_of_ble_eq_true rfl⟩) (dk_at0 hW) rfl hK hW hS rfl hl.1 rfl (Nat.le_of_ble_eq_true rfl) dL_law_1272 ⟨Nat.le_of_ble_eq_true rfl, Nat.le_of_ble_eq_true rfl⟩ (fun v1 I1 H L hp1 hW hS => ?_)
      obtain ⟨dv1, hF1, -⟩ := hp1
      refine lv_aload_n hx hb dL_law_1275 rfl (lv_at hl 1 rfl) ?_
      refine lv_aload_n hx hb dL_law_1276 rfl (lv_at hl 3 rfl) ?_
      refine lv_iload_n hx hb dL_law_1277 rfl (lv_at hl 0 rfl) ?_
      refine lv_iconst (v := 1) hx hb dL_law_1278 (by decide) ?_
      refine lv_iadd hx hb dL_law_1279 ?_
      refine va_sld hx hb hX hbl hbA hS (hin 1 (by decide)) dL_law_1280 ?_
      rw [ha1]
      refine dk_Vi (As := [.int a1]) (rest := [.int v1]) ⟨hx, hb, hml, hown, hts⟩ (c_X6_count_0 l g z I1 a1 (dkN_sub h58 rfl)) (cwV 1 hts gL_law_X6_count rfl rfl rfl (by decide +kernel) ⟨Nat.le_of_ble_eq_true rfl, Nat.le_of_ble_eq_true rfl⟩) (dk_at340 hW) rfl hK hW hS rfl hl.1 rfl (Nat.le_of_ble_eq_true rfl) dL_law_1281 ⟨Nat.le_of_ble_eq_true rfl, Nat.le_of_ble_eq_true rfl⟩ (fun v2 I2 H L hp2 hW hS => ?_)
      obtain ⟨dv2, hF2, -⟩ := hp2
      refine lv_icmp_eq (tgt := 1302) hx hb dL_law_1284 (by decide) (fun c9 => ?_) (fun c9 => ?_)
      · exact hend _ _ ls hS hl
      · exact absurd (Int32.toInt_inj.mp ((dkN_one dv1).trans (dkN_one dv2).symm)) c9

set_option maxHeartbeats 4000000 in
set_option maxRecDepth 100000 in
theorem k_status {p : Program} {e : Env} {s : State} {m : MethodId} {below : List Frame} {meth : Method} {c : Code} (l : Launch) {b L z : Nat} {xs : Nat → Int32} {g : dkG} {Q : State → Prop} {H : Heap} {locs : List Loc} {ls : Array Slot} (hz0 : z = s.heap.size) (hx : p.tables.exec = Jvm.exec) (hb : c.code = code) (hml : c.maxLocals = 4) (hown : s.vm.findClass RL = some m.cls) (hts : ∀ w ∈ wsL_law, w.before #[Value.ref b] s = true) (hX : va_X b L xs s s.heap) (hbl : b < s.heap.size) (hL : L = 7) (hK : dkK g s) (hW : dkW g z dkI0 H) (hS : va_S (dkA z) s.heap H locs) (hl : lv_has ls 4 [(3, .int 0), (2, .ref (z + 340)), (1, .ref (z + 0)), (0, .ref b)]) (hend : ∀ (H : Heap) (locs : List Loc) (ls : Array Slot), va_S (dkA z) s.heap H locs → lv_has ls 4 [(3, .int 0), (2, .ref (z + 340)), (1, .ref (z + 0)), (0, .ref b)] → W p l e room_1 s m #[Value.ref b] below meth c H locs (0 + 1 + 339 + 1 + 13) (0 + 10 + 2701 + 26 + 2055) Q (F0 m 1302 ls [])) : W p l e room_1 s m #[Value.ref b] below meth c H locs (0 + 1 + 339 + 1 + 13) (0 + 10 + 2701 + 26 + 2055) Q (F0 m 1289 ls []) := by
  have hbA : ¬ dkA z b := by unfold dkA; omega
  have hin : ∀ k : Nat, k < 7 → vp_in (0 + Int32.ofNat k) L := by
    intro k hk
    rw [hL]
    rcases (by omega : k = 0 ∨ k = 1 ∨ k = 2 ∨ k = 3 ∨ k = 4 ∨ k = 5 ∨ k = 6) with rfl | rfl | rfl | rfl | rfl | rfl | rfl <;> exact vp_in_iff.mpr ⟨by decide, by decide⟩
  refine lv_aload_n hx hb dL_law_1289 rfl (lv_at hl 2 rfl) ?_
  refine dk_Vi (As := []) (rest := []) ⟨hx, hb, hml, hown, hts⟩ (c_X5_status_0 l g z dkI0 (dkN_lit (0) rfl)) (cwV 0 hts gL_law_X5_status rfl rfl rfl (by decide +kernel) ⟨Nat.le_of_ble_eq_true rfl, Nat.le_of_ble_eq_true rfl⟩) (dk_at0 hW) rfl hK hW hS rfl hl.1 rfl (Nat.le_of_ble_eq_true rfl) dL_law_1290 ⟨Nat.le_of_ble_eq_true rfl, Nat.le_of_ble_eq_true rfl⟩ (fun v1 I1 H L hp1 hW hS => ?_)
  obtain ⟨dv1, hF1, -⟩ := hp1
  refine lv_aload_n hx hb dL_law_1293 rfl (lv_at hl 1 rfl) ?_
  refine dk_Vi (As := []) (rest := [.int v1]) ⟨hx, hb, hml, hown, hts⟩ (c_X6_status_0 l g z I1 (by rw [hF1 340 4 rfl]; exact dkN_lit (0) rfl)) (cwV 0 hts gL_law_X6_status rfl rfl rfl (by decide +kernel) ⟨Nat.le_of_ble_eq_true rfl, Nat.le_of_ble_eq_true rfl⟩) (dk_at340 hW) rfl hK hW hS rfl hl.1 rfl (Nat.le_of_ble_eq_true rfl) dL_law_1294 ⟨Nat.le_of_ble_eq_true rfl, Nat.le_of_ble_eq_true rfl⟩ (fun v2 I2 H L hp2 hW hS => ?_)
  obtain ⟨dv2, hF2, -⟩ := hp2
  refine lv_icmp_eq (tgt := 1302) hx hb dL_law_1297 (by decide) (fun c9 => ?_) (fun c9 => ?_)
  · exact hend _ _ ls hS hl
  · exact absurd (Int32.toInt_inj.mp ((dkN_one dv1).trans (dkN_one dv2).symm)) c9
