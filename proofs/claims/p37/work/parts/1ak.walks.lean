set_option maxHeartbeats 4000000 in
set_option maxRecDepth 100000 in
theorem c_X6_isSeen_0 (l : Launch) (g : dkG) (z : Nat) (I0 : dkI) (p0 : Int32) (p1 : Int32) (p2 : Int32) (dp0 : dkN [(0, 5)] p0) (dp1 : dkN [(0, 320)] p1) (dp2 : dkN [(1, 12)] p2)  (m0 : p1.toInt + p2.toInt ≤ 320) (hO : dkOk I0) : Met l yX6_isSeen wsX6_isSeen (dkR 6) (dkPc g z [.ref (z + 340), .int p0, .int p1, .int p2] I0) (dkQi g z (fun r I1 => dkF [(348, 348, 2, 3), (348, 348, 8, 35), (348, 348, 38, 38), (348, 348, 41, 41), (348, 348, 44, 44), (348, 348, 47, 47), (348, 348, 50, 50), (348, 348, 53, 53)] I0 I1 ∧ dkOk I1 ∧ ((dkN [(0, 1)] r ∧ True)))) 0 0 (dkA z) := by
  refine Met.ofW (cc := cX6_isSeen) (maxL := 6) (ret := (some .boolean)) (by decide) rfl ?_
  intro p e s m args below meth c s₁ B hml hv
  obtain ⟨ha, hW, hK, hT⟩ := hv
  have hx := B.exec
  have hb := B.bytes
  have hr := B.returns
  have hts := atoms_spec (ws := wsX6_isSeen) B.pre
  have hown : s.vm.findClass RX6 = some m.cls := findClass_of_methodNamed B.named
  have hlocks := B.notSynchronized
  have hS : va_S (dkA z) s.heap s.heap [] := va_S.rf
  have hF : dkF [(348, 348, 2, 3), (348, 348, 8, 35), (348, 348, 38, 38), (348, 348, 41, 41), (348, 348, 44, 44), (348, 348, 47, 47), (348, 348, 50, 50), (348, 348, 53, 53)] I0 I0 := dkF_rf _ _
  have hl := lv_entry ([.ref (z + 340), .int p0, .int p1, .int p2]) (n := 6) (Nat.le_of_ble_eq_true rfl)
  have hgo : entryFrame m args 6 = entryFrame m ([.ref (z + 340), .int p0, .int p1, .int p2] : List Value).toArray 6 := by rw [ha]
  rw [hgo, lg_entry_eq]
  generalize (lg_sl ([.ref (z + 340), .int p0, .int p1, .int p2]) ++ List.replicate (6 - (lg_sl ([.ref (z + 340), .int p0, .int p1, .int p2])).length) Slot.unset).toArray = ls at hl ⊢
  have hl : lv_has ls 6 [(0, .ref (z + 340)), (1, .int p0), (2, .int p1), (3, .int p2)] := hl
  have C6 : ∀ (n : Nat), ∀ (I : dkI) (H : Heap) (locs : List Loc) (ls : Array Slot) (x6_4 : Int32) (x6_5 : Int32), (12 - x6_5.toInt).toNat < n → dkW g z I H → va_S (dkA z) s.heap H locs → dkF [(348, 348, 2, 3), (348, 348, 8, 35), (348, 348, 38, 38), (348, 348, 41, 41), (348, 348, 44, 44), (348, 348, 47, 47), (348, 348, 50, 50), (348, 348, 53, 53)] I0 I → dkOk I → dkN [(0, 1)] x6_4 → dkN [(0, 12)] x6_5 → p1.toInt + p2.toInt ≤ 320 → lv_has ls 6 [(0, .ref (z + 340)), (1, .int p0), (2, .int p1), (3, .int p2), (4, .int x6_4), (5, .int x6_5)] → W p l e (headSpec wsX6_isSeen (dkR 6)).room s m args below meth c H locs 0 0 (MQ below (dkQi g z (fun r I1 => dkF [(348, 348, 2, 3), (348, 348, 8, 35), (348, 348, 38, 38), (348, 348, 41, 41), (348, 348, 44, 44), (348, 348, 47, 47), (348, 348, 50, 50), (348, 348, 53, 53)] I0 I1 ∧ dkOk I1 ∧ ((dkN [(0, 1)] r ∧ True)))) args s 0 0 (dkA z)) (F0 m 6 ls []) := by
    intro n
    induction n with
    | zero => intro I H locs ls x6_4 x6_5 hn; exact absurd hn (Nat.not_lt_zero _)
    | succ n ih6 =>
      intro I6_ H locs ls x6_4 x6_5 hn6 hW hS hF_6 hO k6_0 k6_1 q6_0 hl
      have hF := hF_6
      have C54 : ∀ (I : dkI) (H : Heap) (locs : List Loc) (ls : Array Slot) (x54_s0 : Int32), dkW g z I H → va_S (dkA z) s.heap H locs → dkF [(348, 348, 2, 3), (348, 348, 8, 35), (348, 348, 38, 38), (348, 348, 41, 41), (348, 348, 44, 44), (348, 348, 47, 47), (348, 348, 50, 50), (348, 348, 53, 53)] I0 I → dkOk I → dkN [(0, 1)] x54_s0 → dkN [(0, 1)] x6_4 → dkN [(0, 11)] x6_5 → p1.toInt + p2.toInt ≤ 320 → lv_has ls 6 [(0, .ref (z + 340)), (1, .int p0), (2, .int p1), (3, .int p2), (4, .int x6_4), (5, .int x6_5)] → W p l e (headSpec wsX6_isSeen (dkR 6)).room s m args below meth c H locs 0 0 (MQ below (dkQi g z (fun r I1 => dkF [(348, 348, 2, 3), (348, 348, 8, 35), (348, 348, 38, 38), (348, 348, 41, 41), (348, 348, 44, 44), (348, 348, 47, 47), (348, 348, 50, 50), (348, 348, 53, 53)] I0 I1 ∧ dkOk I1 ∧ ((dkN [(0, 1)] r ∧ True)))) args s 0 0 (dkA z)) (F0 m 54 ls [.int x54_s0]) := by
        intro I54_ H locs ls x54_s0 hW hS hF_54 hO k54_0 r54_0 r54_1 q54_0 hl
        have hF := hF_54
        refine lv_istore (lv' := [(4, .int x54_s0), (0, .ref (z + 340)), (1, .int p0), (2, .int p1), (3, .int p2), (5, .int x6_5)]) hx hb dX6_isSeen_54 hl (by decide) rfl (fun ls hl => ?_)
        obtain ⟨v1, ev1⟩ : ∃ y : Int32, y = x6_5 + 1 := ⟨_, rfl⟩
        have dv1 : dkN [(1, 12)] v1 := by rw [ev1]; exact dkN_add r54_1 (dkN_lit (x := 1) (1) rfl) rfl
        refine lv_iinc (v := v1) (lv' := [(5, .int v1), (4, .int x54_s0), (0, .ref (z + 340)), (1, .int p0), (2, .int p1), (3, .int p2)]) hx hb dX6_isSeen_56 hl (k := 5) rfl (by rw [ev1]; rfl) (by decide) rfl (fun ls hl => ?_)
        refine lv_goto (tgt := 6) hx hb dX6_isSeen_59 (by decide) ?_
        exact ih6 I54_ _ _ ls x54_s0 v1 (dk_near hn6 (by rw [ev1]; exact dk_inc r54_1 rfl) (dkN_lt r54_1 rfl)) hW hS hF hO (dkN_sub k54_0 rfl) (dkN_sub dv1 rfl) q54_0 (lv_sub hl [2, 3, 4, 5, 1, 0] rfl)
      have C53 : ∀ (I : dkI) (H : Heap) (locs : List Loc) (ls : Array Slot), dkW g z I H → va_S (dkA z) s.heap H locs → dkF [(348, 348, 2, 3), (348, 348, 8, 35), (348, 348, 38, 38), (348, 348, 41, 41), (348, 348, 44, 44), (348, 348, 47, 47), (348, 348, 50, 50), (348, 348, 53, 53)] I0 I → dkOk I → dkN [(0, 1)] x6_4 → dkN [(0, 11)] x6_5 → p1.toInt + p2.toInt ≤ 320 → lv_has ls 6 [(0, .ref (z + 340)), (1, .int p0), (2, .int p1), (3, .int p2), (4, .int x6_4), (5, .int x6_5)] → W p l e (headSpec wsX6_isSeen (dkR 6)).room s m args below meth c H locs 0 0 (MQ below (dkQi g z (fun r I1 => dkF [(348, 348, 2, 3), (348, 348, 8, 35), (348, 348, 38, 38), (348, 348, 41, 41), (348, 348, 44, 44), (348, 348, 47, 47), (348, 348, 50, 50), (348, 348, 53, 53)] I0 I1 ∧ dkOk I1 ∧ ((dkN [(0, 1)] r ∧ True)))) args s 0 0 (dkA z)) (F0 m 53 ls []) := by
        intro I53_ H locs ls hW hS hF_53 hO r53_0 r53_1 q53_0 hl
        have hF := hF_53
        refine lv_iconst (v := 0) hx hb dX6_isSeen_53 (by decide) ?_
        exact C54 I53_ _ _ ls 0 hW hS hF hO (dkN_sub (dkN_lit (x := 0) (0) rfl) rfl) (dkN_sub r53_0 rfl) (dkN_sub r53_1 rfl) q53_0 (lv_sub hl [0, 1, 2, 3, 4, 5] rfl)
      refine lv_iload hx hb dX6_isSeen_6 (lv_at hl 5 rfl) ?_
      refine lv_iload_n hx hb dX6_isSeen_8 rfl (lv_at hl 3 rfl) ?_
      refine lv_icmp_ge (tgt := 62) hx hb dX6_isSeen_9 (by decide) (fun c2 => ?_) (fun c2 => ?_)
      ·
        have d3 : dkN [(1, 12)] x6_5 := dkN_le2 0 dp2 k6_1 (dkc_le c2) rfl
        refine lv_iload hx hb dX6_isSeen_62 (lv_at hl 4 rfl) ?_
        exact W.zret (v := x6_4) (ty := .boolean) hx hb hr (dkN_zr k6_0 rfl) (fun t ht hW9 => ⟨⟨x6_4, I6_, rfl, ⟨hF, hO, ⟨dkN_sub k6_0 rfl, trivial⟩⟩, dkW_eq ht hW⟩, hS.F ht⟩) hS.2.2 dX6_isSeen_64
      ·
        have d4 : dkN [(0, 11)] x6_5 := dkN_le1 1 k6_1 dp2 (dkc_nle c2) rfl
        refine lv_aload_n hx hb dX6_isSeen_12 rfl (lv_at hl 0 rfl) ?_
        refine dk_get (k := 340) hx hb hts iX6_isSeen_6 hown hK (dk_at340 hW) rfl 15 (by decide) (hts (.fieldLink RX6 31 "DogKingsModel" "tried" "[I") (List.mem_of_getElem? (i := 1) rfl)) rfl dX6_isSeen_13 ?_
        refine dk_Sv (As := [.ref (z + 348)]) (rest := []) ⟨hx, hb, hml, hown, hts⟩ (c_X6_passes_1 l g z I6_ hO) (va_cwS 1 hts gX6_isSeen_X6_passes rfl rfl rfl (by decide +kernel) ⟨Nat.le_of_ble_eq_true rfl, Nat.le_of_ble_eq_true rfl⟩) hK hT hW hS rfl hl.1 rfl (Nat.le_of_ble_eq_true rfl) dX6_isSeen_16 ⟨Nat.zero_le _, Nat.zero_le _⟩ (fun I5 H5 L5 hp5 hW hS => ?_)
        obtain ⟨hF5, hO, hc5⟩ := hp5
        have hF := dkF_call hF hF5 rfl
        refine lv_iload hx hb dX6_isSeen_19 (lv_at hl 4 rfl) ?_
        refine lv_if_eq (tgt := 53) hx hb dX6_isSeen_21 (by decide) (fun c6 => ?_) (fun c6 => ?_)
        ·
          have d7 : dkN [(0, 0)] x6_4 := dkN_eq1 k6_0 (dkN_lit (x := 0) (0) rfl) (congrArg Int32.toInt c6) rfl
          exact C53 I5 _ _ ls  hW hS hF hO (dkN_sub d7 rfl) (dkN_sub d4 rfl) q6_0 (lv_sub hl [0, 1, 2, 3, 4, 5] rfl)
        ·
          have d8 : dkN [(1, 1)] x6_4 := dkN_ne1 (0) k6_0 (dkN_lit (x := 0) (0) rfl) (dk_ne c6) rfl
          refine lv_aload_n hx hb dX6_isSeen_24 rfl (lv_at hl 0 rfl) ?_
          refine dk_get (k := 340) hx hb hts iX6_isSeen_6 hown hK (dk_at340 hW) rfl 15 (by decide) (hts (.fieldLink RX6 31 "DogKingsModel" "tried" "[I") (List.mem_of_getElem? (i := 1) rfl)) rfl dX6_isSeen_25 ?_
          refine lv_bipush (v := 36) hx hb dX6_isSeen_28 (by decide) ?_
          refine lv_iconst (v := 3) hx hb dX6_isSeen_30 (by decide) ?_
          refine lv_iload_n hx hb dX6_isSeen_31 rfl (lv_at hl 1 rfl) ?_
          refine lv_imul hx hb dX6_isSeen_32 ?_
          refine lv_topi (fun v9 ev9 => ?_)
          have dv9 : dkN [(0, 0), (3, 3), (6, 6), (9, 9), (12, 12), (15, 15)] v9 := by rw [ev9]; exact dkN_mulPt 3 (dkN_lit (x := 3) (3) rfl) dp0 rfl
          refine lv_iadd hx hb dX6_isSeen_33 ?_
          refine lv_topi (fun v10 ev10 => ?_)
          have dv10 : dkN [(36, 36), (39, 39), (42, 42), (45, 45), (48, 48), (51, 51)] v10 := by rw [ev10]; exact dkN_add (dkN_lit (x := 36) (36) rfl) dv9 rfl
          refine lv_iconst (v := 2) hx hb dX6_isSeen_34 (by decide) ?_
          refine lv_iadd hx hb dX6_isSeen_35 ?_
          refine lv_topi (fun v11 ev11 => ?_)
          have dv11 : dkN [(38, 38), (41, 41), (44, 44), (47, 47), (50, 50), (53, 53)] v11 := by rw [ev11]; exact dkN_add dv10 (dkN_lit (x := 2) (2) rfl) rfl
          refine dk_ild (k := 348) hx hb hK (dk_at348 hW) (dkN_in (n := 54) dv11 rfl) dX6_isSeen_36 ?_
          refine lv_topi (fun v12 ev12 => ?_)
          refine lv_aload_n hx hb dX6_isSeen_37 rfl (lv_at hl 0 rfl) ?_
          refine dk_get (k := 340) hx hb hts iX6_isSeen_6 hown hK (dk_at340 hW) rfl 2 (by decide) (hts (.fieldLink RX6 16 "DogKingsModel" "items" "[I") (List.mem_of_getElem? (i := 2) rfl)) rfl dX6_isSeen_38 ?_
          refine lv_iload_n hx hb dX6_isSeen_41 rfl (lv_at hl 2 rfl) ?_
          refine lv_iload hx hb dX6_isSeen_42 (lv_at hl 5 rfl) ?_
          refine lv_iadd hx hb dX6_isSeen_44 ?_
          refine lv_topi (fun v13 ev13 => ?_)
          have dv13 : dkN [(0, 331)] v13 := by rw [ev13]; exact dkN_add dp1 d4 rfl
          refine dk_ild (k := 343) hx hb hK (dk_at343 hW) (dk_inSeen ev13 dp1 d4 (dkc_nle c2) m0 rfl) dX6_isSeen_45 ?_
          refine lv_topi (fun v14 ev14 => ?_)
          refine lv_icmp_ne (tgt := 53) hx hb dX6_isSeen_46 (by decide) (fun c15 => ?_) (fun c15 => ?_)
          ·
            exact C53 I5 _ _ ls  hW hS hF hO (dkN_sub d8 rfl) (dkN_sub d4 rfl) q6_0 (lv_sub hl [0, 1, 2, 3, 4, 5] rfl)
          ·
            refine lv_iconst (v := 1) hx hb dX6_isSeen_49 (by decide) ?_
            refine lv_goto (tgt := 54) hx hb dX6_isSeen_50 (by decide) ?_
            exact C54 I5 _ _ ls 1 hW hS hF hO (dkN_sub (dkN_lit (x := 1) (1) rfl) rfl) (dkN_sub d8 rfl) (dkN_sub d4 rfl) q6_0 (lv_sub hl [0, 1, 2, 3, 4, 5] rfl)
  refine lv_iconst (v := 1) hx hb dX6_isSeen_0 (by decide) ?_
  refine lv_istore (lv' := [(4, .int 1), (0, .ref (z + 340)), (1, .int p0), (2, .int p1), (3, .int p2)]) hx hb dX6_isSeen_1 hl (by decide) rfl (fun ls hl => ?_)
  refine lv_iconst (v := 0) hx hb dX6_isSeen_3 (by decide) ?_
  refine lv_istore (lv' := [(5, .int 0), (4, .int 1), (0, .ref (z + 340)), (1, .int p0), (2, .int p1), (3, .int p2)]) hx hb dX6_isSeen_4 hl (by decide) rfl (fun ls hl => ?_)
  exact C6 _ I0 _ _ ls 1 0 (Nat.lt_succ_self _) hW hS hF hO (dkN_sub (dkN_lit (x := 1) (1) rfl) rfl) (dkN_sub (dkN_lit (x := 0) (0) rfl) rfl) m0 (lv_sub hl [2, 3, 4, 5, 1, 0] rfl)
set_option maxHeartbeats 4000000 in
set_option maxRecDepth 100000 in
theorem c_X6_seenBy_0 (l : Launch) (g : dkG) (z : Nat) (I0 : dkI) (p0 : Int32) (p1 : Int32) (p2 : Int32) (p3 : Int32) (p4 : Int32) (p5 : Int32) (dp0 : dkN [(0, 5)] p0) (dp1 : dkN [(0, 320)] p1) (dp2 : dkN [(1, 12)] p2) (dp3 : dkN [(38, 38), (41, 41), (44, 44), (47, 47), (50, 50), (53, 53)] p3) (dp4 : dkN [(0, 0)] p4) (dp5 : dkN [(-1, 8)] p5)  (m0 : p1.toInt + p2.toInt ≤ 320) (hO : dkOk I0) : Met l yX6_seenBy wsX6_seenBy (dkR 7) (dkPc g z [.ref (z + 340), .int p0, .int p1, .int p2, .int p3, .int p4, .int p5] I0) (dkQi g z (fun r I1 => dkF [(348, 348, 0, 53)] I0 I1 ∧ dkOk I1 ∧ ((True ∧ True)))) 0 0 (dkA z) := by
  refine Met.ofW (cc := cX6_seenBy) (maxL := 9) (ret := (some .int)) (by decide) rfl ?_
  intro p e s m args below meth c s₁ B hml hv
  obtain ⟨ha, hW, hK, hT⟩ := hv
  have hx := B.exec
  have hb := B.bytes
  have hr := B.returns
  have hts := atoms_spec (ws := wsX6_seenBy) B.pre
  have hown : s.vm.findClass RX6 = some m.cls := findClass_of_methodNamed B.named
  have hlocks := B.notSynchronized
  have hS : va_S (dkA z) s.heap s.heap [] := va_S.rf
  have hF : dkF [(348, 348, 0, 53)] I0 I0 := dkF_rf _ _
  have hl := lv_entry ([.ref (z + 340), .int p0, .int p1, .int p2, .int p3, .int p4, .int p5]) (n := 9) (Nat.le_of_ble_eq_true rfl)
  have hgo : entryFrame m args 9 = entryFrame m ([.ref (z + 340), .int p0, .int p1, .int p2, .int p3, .int p4, .int p5] : List Value).toArray 9 := by rw [ha]
  rw [hgo, lg_entry_eq]
  generalize (lg_sl ([.ref (z + 340), .int p0, .int p1, .int p2, .int p3, .int p4, .int p5]) ++ List.replicate (9 - (lg_sl ([.ref (z + 340), .int p0, .int p1, .int p2, .int p3, .int p4, .int p5])).length) Slot.unset).toArray = ls at hl ⊢
  have hl : lv_has ls 9 [(0, .ref (z + 340)), (1, .int p0), (2, .int p1), (3, .int p2), (4, .int p3), (5, .int p4), (6, .int p5)] := hl
  have C7 : ∀ (n : Nat), ∀ (I : dkI) (H : Heap) (locs : List Loc) (ls : Array Slot) (x7_7 : Int32) (x7_8 : Int32), (9 - x7_8.toInt).toNat < n → dkW g z I H → va_S (dkA z) s.heap H locs → dkF [(348, 348, 0, 53)] I0 I → dkOk I → dkN [(0, 9)] x7_8 → p1.toInt + p2.toInt ≤ 320 → lv_has ls 9 [(0, .ref (z + 340)), (1, .int p0), (2, .int p1), (3, .int p2), (4, .int p3), (5, .int p4), (6, .int p5), (7, .int x7_7), (8, .int x7_8)] → W p l e (headSpec wsX6_seenBy (dkR 7)).room s m args below meth c H locs 0 0 (MQ below (dkQi g z (fun r I1 => dkF [(348, 348, 0, 53)] I0 I1 ∧ dkOk I1 ∧ ((True ∧ True)))) args s 0 0 (dkA z)) (F0 m 7 ls []) := by
    intro n
    induction n with
    | zero => intro I H locs ls x7_7 x7_8 hn; exact absurd hn (Nat.not_lt_zero _)
    | succ n ih7 =>
      intro I7_ H locs ls x7_7 x7_8 hn7 hW hS hF_7 hO k7_1 q7_0 hl
      have hF := hF_7
      have C56 : ∀ (I : dkI) (H : Heap) (locs : List Loc) (ls : Array Slot) (x56_s0 : Int32), dkW g z I H → va_S (dkA z) s.heap H locs → dkF [(348, 348, 0, 53)] I0 I → dkOk I → dkN [(0, 256)] x56_s0 → dkN [(0, 8)] p5 → dkN [(0, 8)] x7_8 → p1.toInt + p2.toInt ≤ 320 → lv_has ls 9 [(0, .ref (z + 340)), (1, .int p0), (2, .int p1), (3, .int p2), (4, .int p3), (5, .int p4), (6, .int p5), (7, .int x7_7), (8, .int x7_8)] → W p l e (headSpec wsX6_seenBy (dkR 7)).room s m args below meth c H locs 0 0 (MQ below (dkQi g z (fun r I1 => dkF [(348, 348, 0, 53)] I0 I1 ∧ dkOk I1 ∧ ((True ∧ True)))) args s 0 0 (dkA z)) (F0 m 56 ls [.int x56_s0, .int x7_7]) := by
        intro I56_ H locs ls x56_s0 hW hS hF_56 hO k56_0 r56_0 r56_1 q56_0 hl
        have hF := hF_56
        refine lv_ior hx hb dX6_seenBy_56 ?_
        refine lv_topi (fun v1 ev1 => ?_)
        refine lv_istore (lv' := [(7, .int v1), (0, .ref (z + 340)), (1, .int p0), (2, .int p1), (3, .int p2), (4, .int p3), (5, .int p4), (6, .int p5), (8, .int x7_8)]) hx hb dX6_seenBy_57 hl (by decide) rfl (fun ls hl => ?_)
        obtain ⟨v2, ev2⟩ : ∃ y : Int32, y = x7_8 + 1 := ⟨_, rfl⟩
        have dv2 : dkN [(1, 9)] v2 := by rw [ev2]; exact dkN_add r56_1 (dkN_lit (x := 1) (1) rfl) rfl
        refine lv_iinc (v := v2) (lv' := [(8, .int v2), (7, .int v1), (0, .ref (z + 340)), (1, .int p0), (2, .int p1), (3, .int p2), (4, .int p3), (5, .int p4), (6, .int p5)]) hx hb dX6_seenBy_59 hl (k := 8) rfl (by rw [ev2]; rfl) (by decide) rfl (fun ls hl => ?_)
        refine lv_goto (tgt := 7) hx hb dX6_seenBy_62 (by decide) ?_
        exact ih7 I56_ _ _ ls v1 v2 (dk_near hn7 (by rw [ev2]; exact dk_inc r56_1 rfl) (dkN_lt r56_1 rfl)) hW hS hF hO (dkN_sub dv2 rfl) q56_0 (lv_sub hl [2, 3, 4, 5, 6, 7, 8, 1, 0] rfl)
      refine lv_iload hx hb dX6_seenBy_7 (lv_at hl 8 rfl) ?_
      refine lv_iload hx hb dX6_seenBy_9 (lv_at hl 6 rfl) ?_
      refine lv_icmp_gt (tgt := 65) hx hb dX6_seenBy_11 (by decide) (fun c3 => ?_) (fun c3 => ?_)
      ·
        refine lv_iload hx hb dX6_seenBy_65 (lv_at hl 7 rfl) ?_
        exact W.iret (v := x7_7) hx hb hr (fun t ht hW9 => ⟨⟨x7_7, I7_, rfl, ⟨hF, hO, ⟨trivial, trivial⟩⟩, dkW_eq ht hW⟩, hS.F ht⟩) hS.2.2 dX6_seenBy_67
      ·
        have d4 : dkN [(0, 8)] p5 := dkN_le2 0 k7_1 dp5 (dkc_nlt c3) rfl
        have d5 : dkN [(0, 8)] x7_8 := dkN_le1 0 k7_1 dp5 (dkc_nlt c3) rfl
        refine lv_aload_n hx hb dX6_seenBy_14 rfl (lv_at hl 0 rfl) ?_
        refine dk_get (k := 340) hx hb hts iX6_seenBy_6 hown hK (dk_at340 hW) rfl 13 (by decide) (hts (.fieldLink RX6 25 "DogKingsModel" "now" "[I") (List.mem_of_getElem? (i := 1) rfl)) rfl dX6_seenBy_15 ?_
        refine lv_iconst (v := 0) hx hb dX6_seenBy_18 (by decide) ?_
        refine lv_aload_n hx hb dX6_seenBy_19 rfl (lv_at hl 0 rfl) ?_
        refine dk_get (k := 340) hx hb hts iX6_seenBy_6 hown hK (dk_at340 hW) rfl 15 (by decide) (hts (.fieldLink RX6 31 "DogKingsModel" "tried" "[I") (List.mem_of_getElem? (i := 2) rfl)) rfl dX6_seenBy_20 ?_
        refine lv_iconst (v := 0) hx hb dX6_seenBy_23 (by decide) ?_
        refine dk_Sv (As := [.ref (z + 346), .int 0, .ref (z + 348), .int 0]) (rest := []) ⟨hx, hb, hml, hown, hts⟩ (c_X6_copies l g z I7_ (kf := 346) (kt := 348) (nf := 54) (nt := 54) 0 0 (A := 0) (B := 0) rfl rfl (by decide) (by decide) (by decide) (by decide) (by decide) (by decide) (fun _ => rfl) (fun _ => rfl)) (va_cwS 4 hts gX6_seenBy_X6_copies rfl rfl rfl (by decide +kernel) ⟨Nat.le_of_ble_eq_true rfl, Nat.le_of_ble_eq_true rfl⟩) hK hT hW hS rfl hl.1 rfl (Nat.le_of_ble_eq_true rfl) dX6_seenBy_24 ⟨Nat.zero_le _, Nat.zero_le _⟩ (fun I6 H6 L6 eI6 hW hS => ?_)
        have eI6 : I6 = dkCp I7_ 346 348 0 0 := eI6
        have hO := dkO_cp hO eI6 (by decide) (by decide) (by decide) (by decide)
        have hF := dkF_cp (lo := 0) (hi := 0) hF eI6 ⟨by decide, by decide⟩ rfl
        refine lv_aload_n hx hb dX6_seenBy_27 rfl (lv_at hl 0 rfl) ?_
        refine dk_get (k := 340) hx hb hts iX6_seenBy_6 hown hK (dk_at340 hW) rfl 15 (by decide) (hts (.fieldLink RX6 31 "DogKingsModel" "tried" "[I") (List.mem_of_getElem? (i := 2) rfl)) rfl dX6_seenBy_28 ?_
        refine lv_iload hx hb dX6_seenBy_31 (lv_at hl 4 rfl) ?_
        refine lv_iload hx hb dX6_seenBy_33 (lv_at hl 8 rfl) ?_
        refine dk_ist (k := 348) hx hb hK hW (fun _ => rfl) (by decide) hS (dkN_in (n := 54) dp3 rfl) dX6_seenBy_35 (fun I7 H7 L7 eI7 hW hS => ?_)
        have hO := dkO_set hO eI7 (by rw [dkB_w (k := 348) (B := [(-2147483648, 2147483647)]) (by decide) dp3 rfl]; exact dkN_top _)
        have hF := dkF_set hF eI7 (dkIn_v dp3 rfl)
        refine lv_iload hx hb dX6_seenBy_36 (lv_at hl 7 rfl) ?_
        refine lv_aload_n hx hb dX6_seenBy_38 rfl (lv_at hl 0 rfl) ?_
        refine lv_iload_n hx hb dX6_seenBy_39 rfl (lv_at hl 1 rfl) ?_
        refine lv_iload_n hx hb dX6_seenBy_40 rfl (lv_at hl 2 rfl) ?_
        refine lv_iload_n hx hb dX6_seenBy_41 rfl (lv_at hl 3 rfl) ?_
        refine dk_Vi (As := [.int p0, .int p1, .int p2]) (rest := [.int x7_7]) ⟨hx, hb, hml, hown, hts⟩ (c_X6_isSeen_0 l g z I7 p0 p1 p2 dp0 dp1 dp2 q7_0 hO) (cwV 3 hts gX6_seenBy_X6_isSeen rfl rfl rfl (by decide +kernel) ⟨Nat.le_of_ble_eq_true rfl, Nat.le_of_ble_eq_true rfl⟩) (dk_at340 hW) rfl hK hT hW hS rfl hl.1 rfl (Nat.le_of_ble_eq_true rfl) dX6_seenBy_42 ⟨Nat.zero_le _, Nat.zero_le _⟩ (fun v8 I8 H8 L8 hp8 hW hS => ?_)
        obtain ⟨hF8, hO, hc8⟩ := hp8
        have hF := dkF_call hF hF8 rfl
        obtain ⟨dv8, -⟩ := hc8
        refine lv_if_eq (tgt := 55) hx hb dX6_seenBy_45 (by decide) (fun c9 => ?_) (fun c9 => ?_)
        ·
          have d10 : dkN [(0, 0)] v8 := dkN_eq1 dv8 (dkN_lit (x := 0) (0) rfl) (congrArg Int32.toInt c9) rfl
          refine lv_iconst (v := 0) hx hb dX6_seenBy_55 (by decide) ?_
          exact C56 I8 _ _ ls 0 hW hS hF hO (dkN_sub (dkN_lit (x := 0) (0) rfl) rfl) (dkN_sub d4 rfl) (dkN_sub d5 rfl) q7_0 (lv_sub hl [0, 1, 2, 3, 4, 5, 6, 7, 8] rfl)
        ·
          have d11 : dkN [(1, 1)] v8 := dkN_ne1 (0) dv8 (dkN_lit (x := 0) (0) rfl) (dk_ne c9) rfl
          refine lv_iconst (v := 1) hx hb dX6_seenBy_48 (by decide) ?_
          refine lv_iload hx hb dX6_seenBy_49 (lv_at hl 8 rfl) ?_
          refine lv_ishl hx hb dX6_seenBy_51 ?_
          refine lv_topi (fun v12 ev12 => ?_)
          have dv12 : dkN [(1, 256)] v12 := by rw [ev12]; exact dkN_shl1 0 8 (by decide) d5 rfl
          refine lv_goto (tgt := 56) hx hb dX6_seenBy_52 (by decide) ?_
          exact C56 I8 _ _ ls v12 hW hS hF hO (dkN_sub dv12 rfl) (dkN_sub d4 rfl) (dkN_sub d5 rfl) q7_0 (lv_sub hl [0, 1, 2, 3, 4, 5, 6, 7, 8] rfl)
  refine lv_iconst (v := 0) hx hb dX6_seenBy_0 (by decide) ?_
  refine lv_istore (lv' := [(7, .int 0), (0, .ref (z + 340)), (1, .int p0), (2, .int p1), (3, .int p2), (4, .int p3), (5, .int p4), (6, .int p5)]) hx hb dX6_seenBy_1 hl (by decide) rfl (fun ls hl => ?_)
  refine lv_iload hx hb dX6_seenBy_3 (lv_at hl 6 rfl) ?_
  refine lv_istore (lv' := [(8, .int p4), (7, .int 0), (0, .ref (z + 340)), (1, .int p0), (2, .int p1), (3, .int p2), (4, .int p3), (5, .int p4), (6, .int p5)]) hx hb dX6_seenBy_5 hl (by decide) rfl (fun ls hl => ?_)
  exact C7 _ I0 _ _ ls 0 p4 (Nat.lt_succ_self _) hW hS hF hO (dkN_sub dp4 rfl) m0 (lv_sub hl [2, 3, 4, 5, 6, 7, 8, 1, 0] rfl)
set_option maxHeartbeats 4000000 in
set_option maxRecDepth 100000 in
theorem c_X6_seenBy_1 (l : Launch) (g : dkG) (z : Nat) (I0 : dkI) (p0 : Int32) (p1 : Int32) (p2 : Int32) (p3 : Int32) (p4 : Int32) (p5 : Int32) (dp0 : dkN [(0, 5)] p0) (dp1 : dkN [(0, 320)] p1) (dp2 : dkN [(1, 12)] p2) (dp3 : dkN [(36, 36), (39, 39), (42, 42), (45, 45), (48, 48), (51, 51)] p3) (dp4 : dkN [(1, 1)] p4) (dp5 : dkN [(5, 5)] p5)  (m0 : p1.toInt + p2.toInt ≤ 320) (hO : dkOk I0) : Met l yX6_seenBy wsX6_seenBy (dkR 7) (dkPc g z [.ref (z + 340), .int p0, .int p1, .int p2, .int p3, .int p4, .int p5] I0) (dkQi g z (fun r I1 => dkF [(348, 348, 0, 53)] I0 I1 ∧ dkOk I1 ∧ ((True ∧ True)))) 0 0 (dkA z) := by
  refine Met.ofW (cc := cX6_seenBy) (maxL := 9) (ret := (some .int)) (by decide) rfl ?_
  intro p e s m args below meth c s₁ B hml hv
  obtain ⟨ha, hW, hK, hT⟩ := hv
  have hx := B.exec
  have hb := B.bytes
  have hr := B.returns
  have hts := atoms_spec (ws := wsX6_seenBy) B.pre
  have hown : s.vm.findClass RX6 = some m.cls := findClass_of_methodNamed B.named
  have hlocks := B.notSynchronized
  have hS : va_S (dkA z) s.heap s.heap [] := va_S.rf
  have hF : dkF [(348, 348, 0, 53)] I0 I0 := dkF_rf _ _
  have hl := lv_entry ([.ref (z + 340), .int p0, .int p1, .int p2, .int p3, .int p4, .int p5]) (n := 9) (Nat.le_of_ble_eq_true rfl)
  have hgo : entryFrame m args 9 = entryFrame m ([.ref (z + 340), .int p0, .int p1, .int p2, .int p3, .int p4, .int p5] : List Value).toArray 9 := by rw [ha]
  rw [hgo, lg_entry_eq]
  generalize (lg_sl ([.ref (z + 340), .int p0, .int p1, .int p2, .int p3, .int p4, .int p5]) ++ List.replicate (9 - (lg_sl ([.ref (z + 340), .int p0, .int p1, .int p2, .int p3, .int p4, .int p5])).length) Slot.unset).toArray = ls at hl ⊢
  have hl : lv_has ls 9 [(0, .ref (z + 340)), (1, .int p0), (2, .int p1), (3, .int p2), (4, .int p3), (5, .int p4), (6, .int p5)] := hl
  have C7 : ∀ (n : Nat), ∀ (I : dkI) (H : Heap) (locs : List Loc) (ls : Array Slot) (x7_7 : Int32) (x7_8 : Int32), (6 - x7_8.toInt).toNat < n → dkW g z I H → va_S (dkA z) s.heap H locs → dkF [(348, 348, 0, 53)] I0 I → dkOk I → dkN [(1, 6)] x7_8 → p1.toInt + p2.toInt ≤ 320 → lv_has ls 9 [(0, .ref (z + 340)), (1, .int p0), (2, .int p1), (3, .int p2), (4, .int p3), (5, .int p4), (6, .int p5), (7, .int x7_7), (8, .int x7_8)] → W p l e (headSpec wsX6_seenBy (dkR 7)).room s m args below meth c H locs 0 0 (MQ below (dkQi g z (fun r I1 => dkF [(348, 348, 0, 53)] I0 I1 ∧ dkOk I1 ∧ ((True ∧ True)))) args s 0 0 (dkA z)) (F0 m 7 ls []) := by
    intro n
    induction n with
    | zero => intro I H locs ls x7_7 x7_8 hn; exact absurd hn (Nat.not_lt_zero _)
    | succ n ih7 =>
      intro I7_ H locs ls x7_7 x7_8 hn7 hW hS hF_7 hO k7_1 q7_0 hl
      have hF := hF_7
      have C56 : ∀ (I : dkI) (H : Heap) (locs : List Loc) (ls : Array Slot) (x56_s0 : Int32), dkW g z I H → va_S (dkA z) s.heap H locs → dkF [(348, 348, 0, 53)] I0 I → dkOk I → dkN [(0, 0), (2, 32)] x56_s0 → dkN [(1, 5)] x7_8 → p1.toInt + p2.toInt ≤ 320 → lv_has ls 9 [(0, .ref (z + 340)), (1, .int p0), (2, .int p1), (3, .int p2), (4, .int p3), (5, .int p4), (6, .int p5), (7, .int x7_7), (8, .int x7_8)] → W p l e (headSpec wsX6_seenBy (dkR 7)).room s m args below meth c H locs 0 0 (MQ below (dkQi g z (fun r I1 => dkF [(348, 348, 0, 53)] I0 I1 ∧ dkOk I1 ∧ ((True ∧ True)))) args s 0 0 (dkA z)) (F0 m 56 ls [.int x56_s0, .int x7_7]) := by
        intro I56_ H locs ls x56_s0 hW hS hF_56 hO k56_0 r56_0 q56_0 hl
        have hF := hF_56
        refine lv_ior hx hb dX6_seenBy_56 ?_
        refine lv_topi (fun v1 ev1 => ?_)
        refine lv_istore (lv' := [(7, .int v1), (0, .ref (z + 340)), (1, .int p0), (2, .int p1), (3, .int p2), (4, .int p3), (5, .int p4), (6, .int p5), (8, .int x7_8)]) hx hb dX6_seenBy_57 hl (by decide) rfl (fun ls hl => ?_)
        obtain ⟨v2, ev2⟩ : ∃ y : Int32, y = x7_8 + 1 := ⟨_, rfl⟩
        have dv2 : dkN [(2, 6)] v2 := by rw [ev2]; exact dkN_add r56_0 (dkN_lit (x := 1) (1) rfl) rfl
        refine lv_iinc (v := v2) (lv' := [(8, .int v2), (7, .int v1), (0, .ref (z + 340)), (1, .int p0), (2, .int p1), (3, .int p2), (4, .int p3), (5, .int p4), (6, .int p5)]) hx hb dX6_seenBy_59 hl (k := 8) rfl (by rw [ev2]; rfl) (by decide) rfl (fun ls hl => ?_)
        refine lv_goto (tgt := 7) hx hb dX6_seenBy_62 (by decide) ?_
        exact ih7 I56_ _ _ ls v1 v2 (dk_near hn7 (by rw [ev2]; exact dk_inc r56_0 rfl) (dkN_lt r56_0 rfl)) hW hS hF hO (dkN_sub dv2 rfl) q56_0 (lv_sub hl [2, 3, 4, 5, 6, 7, 8, 1, 0] rfl)
      refine lv_iload hx hb dX6_seenBy_7 (lv_at hl 8 rfl) ?_
      refine lv_iload hx hb dX6_seenBy_9 (lv_at hl 6 rfl) ?_
      refine lv_icmp_gt (tgt := 65) hx hb dX6_seenBy_11 (by decide) (fun c3 => ?_) (fun c3 => ?_)
      ·
        have d4 : dkN [(6, 6)] x7_8 := dkN_le2 1 dp5 k7_1 (dkc_lt c3) rfl
        refine lv_iload hx hb dX6_seenBy_65 (lv_at hl 7 rfl) ?_
        exact W.iret (v := x7_7) hx hb hr (fun t ht hW9 => ⟨⟨x7_7, I7_, rfl, ⟨hF, hO, ⟨trivial, trivial⟩⟩, dkW_eq ht hW⟩, hS.F ht⟩) hS.2.2 dX6_seenBy_67
      ·
        have d5 : dkN [(1, 5)] x7_8 := dkN_le1 0 k7_1 dp5 (dkc_nlt c3) rfl
        refine lv_aload_n hx hb dX6_seenBy_14 rfl (lv_at hl 0 rfl) ?_
        refine dk_get (k := 340) hx hb hts iX6_seenBy_6 hown hK (dk_at340 hW) rfl 13 (by decide) (hts (.fieldLink RX6 25 "DogKingsModel" "now" "[I") (List.mem_of_getElem? (i := 1) rfl)) rfl dX6_seenBy_15 ?_
        refine lv_iconst (v := 0) hx hb dX6_seenBy_18 (by decide) ?_
        refine lv_aload_n hx hb dX6_seenBy_19 rfl (lv_at hl 0 rfl) ?_
        refine dk_get (k := 340) hx hb hts iX6_seenBy_6 hown hK (dk_at340 hW) rfl 15 (by decide) (hts (.fieldLink RX6 31 "DogKingsModel" "tried" "[I") (List.mem_of_getElem? (i := 2) rfl)) rfl dX6_seenBy_20 ?_
        refine lv_iconst (v := 0) hx hb dX6_seenBy_23 (by decide) ?_
        refine dk_Sv (As := [.ref (z + 346), .int 0, .ref (z + 348), .int 0]) (rest := []) ⟨hx, hb, hml, hown, hts⟩ (c_X6_copies l g z I7_ (kf := 346) (kt := 348) (nf := 54) (nt := 54) 0 0 (A := 0) (B := 0) rfl rfl (by decide) (by decide) (by decide) (by decide) (by decide) (by decide) (fun _ => rfl) (fun _ => rfl)) (va_cwS 4 hts gX6_seenBy_X6_copies rfl rfl rfl (by decide +kernel) ⟨Nat.le_of_ble_eq_true rfl, Nat.le_of_ble_eq_true rfl⟩) hK hT hW hS rfl hl.1 rfl (Nat.le_of_ble_eq_true rfl) dX6_seenBy_24 ⟨Nat.zero_le _, Nat.zero_le _⟩ (fun I6 H6 L6 eI6 hW hS => ?_)
        have eI6 : I6 = dkCp I7_ 346 348 0 0 := eI6
        have hO := dkO_cp hO eI6 (by decide) (by decide) (by decide) (by decide)
        have hF := dkF_cp (lo := 0) (hi := 0) hF eI6 ⟨by decide, by decide⟩ rfl
        refine lv_aload_n hx hb dX6_seenBy_27 rfl (lv_at hl 0 rfl) ?_
        refine dk_get (k := 340) hx hb hts iX6_seenBy_6 hown hK (dk_at340 hW) rfl 15 (by decide) (hts (.fieldLink RX6 31 "DogKingsModel" "tried" "[I") (List.mem_of_getElem? (i := 2) rfl)) rfl dX6_seenBy_28 ?_
        refine lv_iload hx hb dX6_seenBy_31 (lv_at hl 4 rfl) ?_
        refine lv_iload hx hb dX6_seenBy_33 (lv_at hl 8 rfl) ?_
        refine dk_ist (k := 348) hx hb hK hW (fun _ => rfl) (by decide) hS (dkN_in (n := 54) dp3 rfl) dX6_seenBy_35 (fun I7 H7 L7 eI7 hW hS => ?_)
        have hO := dkO_set hO eI7 (by rw [dkB_w (k := 348) (B := [(-2147483648, 2147483647)]) (by decide) dp3 rfl]; exact dkN_top _)
        have hF := dkF_set hF eI7 (dkIn_v dp3 rfl)
        refine lv_iload hx hb dX6_seenBy_36 (lv_at hl 7 rfl) ?_
        refine lv_aload_n hx hb dX6_seenBy_38 rfl (lv_at hl 0 rfl) ?_
        refine lv_iload_n hx hb dX6_seenBy_39 rfl (lv_at hl 1 rfl) ?_
        refine lv_iload_n hx hb dX6_seenBy_40 rfl (lv_at hl 2 rfl) ?_
        refine lv_iload_n hx hb dX6_seenBy_41 rfl (lv_at hl 3 rfl) ?_
        refine dk_Vi (As := [.int p0, .int p1, .int p2]) (rest := [.int x7_7]) ⟨hx, hb, hml, hown, hts⟩ (c_X6_isSeen_0 l g z I7 p0 p1 p2 dp0 dp1 dp2 q7_0 hO) (cwV 3 hts gX6_seenBy_X6_isSeen rfl rfl rfl (by decide +kernel) ⟨Nat.le_of_ble_eq_true rfl, Nat.le_of_ble_eq_true rfl⟩) (dk_at340 hW) rfl hK hT hW hS rfl hl.1 rfl (Nat.le_of_ble_eq_true rfl) dX6_seenBy_42 ⟨Nat.zero_le _, Nat.zero_le _⟩ (fun v8 I8 H8 L8 hp8 hW hS => ?_)
        obtain ⟨hF8, hO, hc8⟩ := hp8
        have hF := dkF_call hF hF8 rfl
        obtain ⟨dv8, -⟩ := hc8
        refine lv_if_eq (tgt := 55) hx hb dX6_seenBy_45 (by decide) (fun c9 => ?_) (fun c9 => ?_)
        ·
          have d10 : dkN [(0, 0)] v8 := dkN_eq1 dv8 (dkN_lit (x := 0) (0) rfl) (congrArg Int32.toInt c9) rfl
          refine lv_iconst (v := 0) hx hb dX6_seenBy_55 (by decide) ?_
          exact C56 I8 _ _ ls 0 hW hS hF hO (dkN_sub (dkN_lit (x := 0) (0) rfl) rfl) (dkN_sub d5 rfl) q7_0 (lv_sub hl [0, 1, 2, 3, 4, 5, 6, 7, 8] rfl)
        ·
          have d11 : dkN [(1, 1)] v8 := dkN_ne1 (0) dv8 (dkN_lit (x := 0) (0) rfl) (dk_ne c9) rfl
          refine lv_iconst (v := 1) hx hb dX6_seenBy_48 (by decide) ?_
          refine lv_iload hx hb dX6_seenBy_49 (lv_at hl 8 rfl) ?_
          refine lv_ishl hx hb dX6_seenBy_51 ?_
          refine lv_topi (fun v12 ev12 => ?_)
          have dv12 : dkN [(2, 32)] v12 := by rw [ev12]; exact dkN_shl1 1 5 (by decide) d5 rfl
          refine lv_goto (tgt := 56) hx hb dX6_seenBy_52 (by decide) ?_
          exact C56 I8 _ _ ls v12 hW hS hF hO (dkN_sub dv12 rfl) (dkN_sub d5 rfl) q7_0 (lv_sub hl [0, 1, 2, 3, 4, 5, 6, 7, 8] rfl)
  refine lv_iconst (v := 0) hx hb dX6_seenBy_0 (by decide) ?_
  refine lv_istore (lv' := [(7, .int 0), (0, .ref (z + 340)), (1, .int p0), (2, .int p1), (3, .int p2), (4, .int p3), (5, .int p4), (6, .int p5)]) hx hb dX6_seenBy_1 hl (by decide) rfl (fun ls hl => ?_)
  refine lv_iload hx hb dX6_seenBy_3 (lv_at hl 6 rfl) ?_
  refine lv_istore (lv' := [(8, .int p4), (7, .int 0), (0, .ref (z + 340)), (1, .int p0), (2, .int p1), (3, .int p2), (4, .int p3), (5, .int p4), (6, .int p5)]) hx hb dX6_seenBy_5 hl (by decide) rfl (fun ls hl => ?_)
  exact C7 _ I0 _ _ ls 0 p4 (Nat.lt_succ_self _) hW hS hF hO (dkN_sub dp4 rfl) m0 (lv_sub hl [2, 3, 4, 5, 6, 7, 8, 1, 0] rfl)
set_option maxHeartbeats 4000000 in
set_option maxRecDepth 100000 in
theorem c_X4_take_3 (l : Launch) (g : dkG) (z : Nat) (I0 : dkI) (t0 : Nat) (ht0 : dkT t0) (p0 : Int32) (p1 : Int32) (p2 : Int32) (dp0 : dkN [(2, 2)] p0) (dp1 : dkN [(0, 4)] p1) (dp2 : dkN [(0, 9)] p2)  (hO : dkOk I0) : Met l yX4_take wsX4_take (dkR 0) (dkPc g z [.ref (z + t0), .int p0, .int p1, .int p2] I0) (dkQv g z (fun I1 => dkF [(t0 + 2, t0 + 2, 0, 4)] I0 I1 ∧ dkOk I1 ∧ ((True)))) 0 0 (dkA z) := by
  refine Met.ofW (cc := cX4_take) (maxL := 4) (ret := none) (by decide) rfl ?_
  intro p e s m args below meth c s₁ B hml hv
  obtain ⟨ha, hW, hK, hT⟩ := hv
  have hx := B.exec
  have hb := B.bytes
  have hr := B.returns
  have hts := atoms_spec (ws := wsX4_take) B.pre
  have hown : s.vm.findClass RX4 = some m.cls := findClass_of_methodNamed B.named
  have hlocks := B.notSynchronized
  have hS : va_S (dkA z) s.heap s.heap [] := va_S.rf
  have hF : dkF [(t0 + 2, t0 + 2, 0, 4)] I0 I0 := dkF_rf _ _
  have hl := lv_entry ([.ref (z + t0), .int p0, .int p1, .int p2]) (n := 4) (Nat.le_of_ble_eq_true rfl)
  have hgo : entryFrame m args 4 = entryFrame m ([.ref (z + t0), .int p0, .int p1, .int p2] : List Value).toArray 4 := by rw [ha]
  rw [hgo, lg_entry_eq]
  generalize (lg_sl ([.ref (z + t0), .int p0, .int p1, .int p2]) ++ List.replicate (4 - (lg_sl ([.ref (z + t0), .int p0, .int p1, .int p2])).length) Slot.unset).toArray = ls at hl ⊢
  have hl : lv_has ls 4 [(0, .ref (z + t0)), (1, .int p0), (2, .int p1), (3, .int p2)] := hl
  refine lv_iload_n hx hb dX4_take_0 rfl (lv_at hl 1 rfl) ?_
  by_cases c1 : p0 = 2
  ·
    have qc1 : p0.toInt = 2 := by rw [c1]; rfl
    have d2 : dkN [(2, 2)] p0 := dkN_lit (2) qc1
    refine lv_tableIn (tgt := 56) hx hb dX4_take_1 (by rw [qc1]; decide) (by rw [qc1]; decide) (by rw [qc1]; rfl) (by decide) ?_
    refine lv_aload_n hx hb dX4_take_56 rfl (lv_at hl 0 rfl) ?_
    refine dk_get (k := t0) hx hb hts iX4_take_4 hown hK (dk_aT0 ht0 hW) rfl 6 (by decide) (hts (.fieldLink RX4 15 "DogKings$Town" "smell" "[I") (List.mem_of_getElem? (i := 3) rfl)) rfl dX4_take_57 ?_
    refine lv_iload_n hx hb dX4_take_60 rfl (lv_at hl 2 rfl) ?_
    refine lv_iload_n hx hb dX4_take_61 rfl (lv_at hl 3 rfl) ?_
    refine dk_ist (k := (t0 + 2)) hx hb hK hW (fun _ => dkC_T g z ht0 (c := 2) (by decide) _) (by have := dkT_lt ht0; omega) hS (dkN_in (n := 5) dp1 rfl) dX4_take_62 (fun I3 H3 L3 eI3 hW hS => ?_)
    have hO := dkO_setT hO ht0 (c := 2) (by decide) eI3 (dkN_sub dp2 rfl)
    have hF := dkF_set hF eI3 (dkIn_atv (i := 0) rfl (Nat.le_refl _) (Nat.le_refl _) dp1 rfl)
    refine lv_goto (tgt := 86) hx hb dX4_take_63 (by decide) ?_
    exact W.vret hx hb hr (fun t ht hW9 => ⟨⟨I3, rfl, ⟨hF, hO, trivial⟩, dkW_eq ht hW⟩, hS.F ht⟩) hS.2.2 dX4_take_86
  ·
    exact (dkN_nil (show dkN [] p0 from dkN_ne1 (2) dp0 (dkN_lit (x := 2) (2) rfl) (dk_ne c1) rfl)).elim
set_option maxHeartbeats 4000000 in
set_option maxRecDepth 100000 in
theorem c_X6_seenBy_2 (l : Launch) (g : dkG) (z : Nat) (I0 : dkI) (p0 : Int32) (p1 : Int32) (p2 : Int32) (p3 : Int32) (p4 : Int32) (p5 : Int32) (dp0 : dkN [(0, 5)] p0) (dp1 : dkN [(0, 320)] p1) (dp2 : dkN [(1, 12)] p2) (dp3 : dkN [(8, 32)] p3) (dp4 : dkN [(0, 0)] p4) (dp5 : dkN [(2, 2)] p5)  (m0 : p1.toInt + p2.toInt ≤ 320) (hO : dkOk I0) : Met l yX6_seenBy wsX6_seenBy (dkR 7) (dkPc g z [.ref (z + 340), .int p0, .int p1, .int p2, .int p3, .int p4, .int p5] I0) (dkQi g z (fun r I1 => dkF [(348, 348, 0, 53)] I0 I1 ∧ dkOk I1 ∧ ((True ∧ True)))) 0 0 (dkA z) := by
  refine Met.ofW (cc := cX6_seenBy) (maxL := 9) (ret := (some .int)) (by decide) rfl ?_
  intro p e s m args below meth c s₁ B hml hv
  obtain ⟨ha, hW, hK, hT⟩ := hv
  have hx := B.exec
  have hb := B.bytes
  have hr := B.returns
  have hts := atoms_spec (ws := wsX6_seenBy) B.pre
  have hown : s.vm.findClass RX6 = some m.cls := findClass_of_methodNamed B.named
  have hlocks := B.notSynchronized
  have hS : va_S (dkA z) s.heap s.heap [] := va_S.rf
  have hF : dkF [(348, 348, 0, 53)] I0 I0 := dkF_rf _ _
  have hl := lv_entry ([.ref (z + 340), .int p0, .int p1, .int p2, .int p3, .int p4, .int p5]) (n := 9) (Nat.le_of_ble_eq_true rfl)
  have hgo : entryFrame m args 9 = entryFrame m ([.ref (z + 340), .int p0, .int p1, .int p2, .int p3, .int p4, .int p5] : List Value).toArray 9 := by rw [ha]
  rw [hgo, lg_entry_eq]
  generalize (lg_sl ([.ref (z + 340), .int p0, .int p1, .int p2, .int p3, .int p4, .int p5]) ++ List.replicate (9 - (lg_sl ([.ref (z + 340), .int p0, .int p1, .int p2, .int p3, .int p4, .int p5])).length) Slot.unset).toArray = ls at hl ⊢
  have hl : lv_has ls 9 [(0, .ref (z + 340)), (1, .int p0), (2, .int p1), (3, .int p2), (4, .int p3), (5, .int p4), (6, .int p5)] := hl
  have C7 : ∀ (n : Nat), ∀ (I : dkI) (H : Heap) (locs : List Loc) (ls : Array Slot) (x7_7 : Int32) (x7_8 : Int32), (3 - x7_8.toInt).toNat < n → dkW g z I H → va_S (dkA z) s.heap H locs → dkF [(348, 348, 0, 53)] I0 I → dkOk I → dkN [(0, 3)] x7_8 → p1.toInt + p2.toInt ≤ 320 → lv_has ls 9 [(0, .ref (z + 340)), (1, .int p0), (2, .int p1), (3, .int p2), (4, .int p3), (5, .int p4), (6, .int p5), (7, .int x7_7), (8, .int x7_8)] → W p l e (headSpec wsX6_seenBy (dkR 7)).room s m args below meth c H locs 0 0 (MQ below (dkQi g z (fun r I1 => dkF [(348, 348, 0, 53)] I0 I1 ∧ dkOk I1 ∧ ((True ∧ True)))) args s 0 0 (dkA z)) (F0 m 7 ls []) := by
    intro n
    induction n with
    | zero => intro I H locs ls x7_7 x7_8 hn; exact absurd hn (Nat.not_lt_zero _)
    | succ n ih7 =>
      intro I7_ H locs ls x7_7 x7_8 hn7 hW hS hF_7 hO k7_1 q7_0 hl
      have hF := hF_7
      have C56 : ∀ (I : dkI) (H : Heap) (locs : List Loc) (ls : Array Slot) (x56_s0 : Int32), dkW g z I H → va_S (dkA z) s.heap H locs → dkF [(348, 348, 0, 53)] I0 I → dkOk I → dkN [(0, 4)] x56_s0 → dkN [(0, 2)] x7_8 → p1.toInt + p2.toInt ≤ 320 → lv_has ls 9 [(0, .ref (z + 340)), (1, .int p0), (2, .int p1), (3, .int p2), (4, .int p3), (5, .int p4), (6, .int p5), (7, .int x7_7), (8, .int x7_8)] → W p l e (headSpec wsX6_seenBy (dkR 7)).room s m args below meth c H locs 0 0 (MQ below (dkQi g z (fun r I1 => dkF [(348, 348, 0, 53)] I0 I1 ∧ dkOk I1 ∧ ((True ∧ True)))) args s 0 0 (dkA z)) (F0 m 56 ls [.int x56_s0, .int x7_7]) := by
        intro I56_ H locs ls x56_s0 hW hS hF_56 hO k56_0 r56_0 q56_0 hl
        have hF := hF_56
        refine lv_ior hx hb dX6_seenBy_56 ?_
        refine lv_topi (fun v1 ev1 => ?_)
        refine lv_istore (lv' := [(7, .int v1), (0, .ref (z + 340)), (1, .int p0), (2, .int p1), (3, .int p2), (4, .int p3), (5, .int p4), (6, .int p5), (8, .int x7_8)]) hx hb dX6_seenBy_57 hl (by decide) rfl (fun ls hl => ?_)
        obtain ⟨v2, ev2⟩ : ∃ y : Int32, y = x7_8 + 1 := ⟨_, rfl⟩
        have dv2 : dkN [(1, 3)] v2 := by rw [ev2]; exact dkN_add r56_0 (dkN_lit (x := 1) (1) rfl) rfl
        refine lv_iinc (v := v2) (lv' := [(8, .int v2), (7, .int v1), (0, .ref (z + 340)), (1, .int p0), (2, .int p1), (3, .int p2), (4, .int p3), (5, .int p4), (6, .int p5)]) hx hb dX6_seenBy_59 hl (k := 8) rfl (by rw [ev2]; rfl) (by decide) rfl (fun ls hl => ?_)
        refine lv_goto (tgt := 7) hx hb dX6_seenBy_62 (by decide) ?_
        exact ih7 I56_ _ _ ls v1 v2 (dk_near hn7 (by rw [ev2]; exact dk_inc r56_0 rfl) (dkN_lt r56_0 rfl)) hW hS hF hO (dkN_sub dv2 rfl) q56_0 (lv_sub hl [2, 3, 4, 5, 6, 7, 8, 1, 0] rfl)
      refine lv_iload hx hb dX6_seenBy_7 (lv_at hl 8 rfl) ?_
      refine lv_iload hx hb dX6_seenBy_9 (lv_at hl 6 rfl) ?_
      refine lv_icmp_gt (tgt := 65) hx hb dX6_seenBy_11 (by decide) (fun c3 => ?_) (fun c3 => ?_)
      ·
        have d4 : dkN [(3, 3)] x7_8 := dkN_le2 1 dp5 k7_1 (dkc_lt c3) rfl
        refine lv_iload hx hb dX6_seenBy_65 (lv_at hl 7 rfl) ?_
        exact W.iret (v := x7_7) hx hb hr (fun t ht hW9 => ⟨⟨x7_7, I7_, rfl, ⟨hF, hO, ⟨trivial, trivial⟩⟩, dkW_eq ht hW⟩, hS.F ht⟩) hS.2.2 dX6_seenBy_67
      ·
        have d5 : dkN [(0, 2)] x7_8 := dkN_le1 0 k7_1 dp5 (dkc_nlt c3) rfl
        refine lv_aload_n hx hb dX6_seenBy_14 rfl (lv_at hl 0 rfl) ?_
        refine dk_get (k := 340) hx hb hts iX6_seenBy_6 hown hK (dk_at340 hW) rfl 13 (by decide) (hts (.fieldLink RX6 25 "DogKingsModel" "now" "[I") (List.mem_of_getElem? (i := 1) rfl)) rfl dX6_seenBy_15 ?_
        refine lv_iconst (v := 0) hx hb dX6_seenBy_18 (by decide) ?_
        refine lv_aload_n hx hb dX6_seenBy_19 rfl (lv_at hl 0 rfl) ?_
        refine dk_get (k := 340) hx hb hts iX6_seenBy_6 hown hK (dk_at340 hW) rfl 15 (by decide) (hts (.fieldLink RX6 31 "DogKingsModel" "tried" "[I") (List.mem_of_getElem? (i := 2) rfl)) rfl dX6_seenBy_20 ?_
        refine lv_iconst (v := 0) hx hb dX6_seenBy_23 (by decide) ?_
        refine dk_Sv (As := [.ref (z + 346), .int 0, .ref (z + 348), .int 0]) (rest := []) ⟨hx, hb, hml, hown, hts⟩ (c_X6_copies l g z I7_ (kf := 346) (kt := 348) (nf := 54) (nt := 54) 0 0 (A := 0) (B := 0) rfl rfl (by decide) (by decide) (by decide) (by decide) (by decide) (by decide) (fun _ => rfl) (fun _ => rfl)) (va_cwS 4 hts gX6_seenBy_X6_copies rfl rfl rfl (by decide +kernel) ⟨Nat.le_of_ble_eq_true rfl, Nat.le_of_ble_eq_true rfl⟩) hK hT hW hS rfl hl.1 rfl (Nat.le_of_ble_eq_true rfl) dX6_seenBy_24 ⟨Nat.zero_le _, Nat.zero_le _⟩ (fun I6 H6 L6 eI6 hW hS => ?_)
        have eI6 : I6 = dkCp I7_ 346 348 0 0 := eI6
        have hO := dkO_cp hO eI6 (by decide) (by decide) (by decide) (by decide)
        have hF := dkF_cp (lo := 0) (hi := 0) hF eI6 ⟨by decide, by decide⟩ rfl
        refine lv_aload_n hx hb dX6_seenBy_27 rfl (lv_at hl 0 rfl) ?_
        refine dk_get (k := 340) hx hb hts iX6_seenBy_6 hown hK (dk_at340 hW) rfl 15 (by decide) (hts (.fieldLink RX6 31 "DogKingsModel" "tried" "[I") (List.mem_of_getElem? (i := 2) rfl)) rfl dX6_seenBy_28 ?_
        refine lv_iload hx hb dX6_seenBy_31 (lv_at hl 4 rfl) ?_
        refine lv_iload hx hb dX6_seenBy_33 (lv_at hl 8 rfl) ?_
        refine dk_ist (k := 348) hx hb hK hW (fun _ => rfl) (by decide) hS (dkN_in (n := 54) dp3 rfl) dX6_seenBy_35 (fun I7 H7 L7 eI7 hW hS => ?_)
        have hO := dkO_set hO eI7 (by rw [dkB_w (k := 348) (B := [(-2147483648, 2147483647)]) (by decide) dp3 rfl]; exact dkN_top _)
        have hF := dkF_set hF eI7 (dkIn_v dp3 rfl)
        refine lv_iload hx hb dX6_seenBy_36 (lv_at hl 7 rfl) ?_
        refine lv_aload_n hx hb dX6_seenBy_38 rfl (lv_at hl 0 rfl) ?_
        refine lv_iload_n hx hb dX6_seenBy_39 rfl (lv_at hl 1 rfl) ?_
        refine lv_iload_n hx hb dX6_seenBy_40 rfl (lv_at hl 2 rfl) ?_
        refine lv_iload_n hx hb dX6_seenBy_41 rfl (lv_at hl 3 rfl) ?_
        refine dk_Vi (As := [.int p0, .int p1, .int p2]) (rest := [.int x7_7]) ⟨hx, hb, hml, hown, hts⟩ (c_X6_isSeen_0 l g z I7 p0 p1 p2 dp0 dp1 dp2 q7_0 hO) (cwV 3 hts gX6_seenBy_X6_isSeen rfl rfl rfl (by decide +kernel) ⟨Nat.le_of_ble_eq_true rfl, Nat.le_of_ble_eq_true rfl⟩) (dk_at340 hW) rfl hK hT hW hS rfl hl.1 rfl (Nat.le_of_ble_eq_true rfl) dX6_seenBy_42 ⟨Nat.zero_le _, Nat.zero_le _⟩ (fun v8 I8 H8 L8 hp8 hW hS => ?_)
        obtain ⟨hF8, hO, hc8⟩ := hp8
        have hF := dkF_call hF hF8 rfl
        obtain ⟨dv8, -⟩ := hc8
        refine lv_if_eq (tgt := 55) hx hb dX6_seenBy_45 (by decide) (fun c9 => ?_) (fun c9 => ?_)
        ·
          have d10 : dkN [(0, 0)] v8 := dkN_eq1 dv8 (dkN_lit (x := 0) (0) rfl) (congrArg Int32.toInt c9) rfl
          refine lv_iconst (v := 0) hx hb dX6_seenBy_55 (by decide) ?_
          exact C56 I8 _ _ ls 0 hW hS hF hO (dkN_sub (dkN_lit (x := 0) (0) rfl) rfl) (dkN_sub d5 rfl) q7_0 (lv_sub hl [0, 1, 2, 3, 4, 5, 6, 7, 8] rfl)
        ·
          have d11 : dkN [(1, 1)] v8 := dkN_ne1 (0) dv8 (dkN_lit (x := 0) (0) rfl) (dk_ne c9) rfl
          refine lv_iconst (v := 1) hx hb dX6_seenBy_48 (by decide) ?_
          refine lv_iload hx hb dX6_seenBy_49 (lv_at hl 8 rfl) ?_
          refine lv_ishl hx hb dX6_seenBy_51 ?_
          refine lv_topi (fun v12 ev12 => ?_)
          have dv12 : dkN [(1, 4)] v12 := by rw [ev12]; exact dkN_shl1 0 2 (by decide) d5 rfl
          refine lv_goto (tgt := 56) hx hb dX6_seenBy_52 (by decide) ?_
          exact C56 I8 _ _ ls v12 hW hS hF hO (dkN_sub dv12 rfl) (dkN_sub d5 rfl) q7_0 (lv_sub hl [0, 1, 2, 3, 4, 5, 6, 7, 8] rfl)
  refine lv_iconst (v := 0) hx hb dX6_seenBy_0 (by decide) ?_
  refine lv_istore (lv' := [(7, .int 0), (0, .ref (z + 340)), (1, .int p0), (2, .int p1), (3, .int p2), (4, .int p3), (5, .int p4), (6, .int p5)]) hx hb dX6_seenBy_1 hl (by decide) rfl (fun ls hl => ?_)
  refine lv_iload hx hb dX6_seenBy_3 (lv_at hl 6 rfl) ?_
  refine lv_istore (lv' := [(8, .int p4), (7, .int 0), (0, .ref (z + 340)), (1, .int p0), (2, .int p1), (3, .int p2), (4, .int p3), (5, .int p4), (6, .int p5)]) hx hb dX6_seenBy_5 hl (by decide) rfl (fun ls hl => ?_)
  exact C7 _ I0 _ _ ls 0 p4 (Nat.lt_succ_self _) hW hS hF hO (dkN_sub dp4 rfl) m0 (lv_sub hl [2, 3, 4, 5, 6, 7, 8, 1, 0] rfl)
set_option maxHeartbeats 4000000 in
set_option maxRecDepth 100000 in
theorem c_X6_seenBy_3 (l : Launch) (g : dkG) (z : Nat) (I0 : dkI) (p0 : Int32) (p1 : Int32) (p2 : Int32) (p3 : Int32) (p4 : Int32) (p5 : Int32) (dp0 : dkN [(0, 5)] p0) (dp1 : dkN [(0, 320)] p1) (dp2 : dkN [(1, 12)] p2) (dp3 : dkN [(7, 31)] p3) (dp4 : dkN [(0, 0)] p4) (dp5 : dkN [(9, 9)] p5)  (m0 : p1.toInt + p2.toInt ≤ 320) (hO : dkOk I0) : Met l yX6_seenBy wsX6_seenBy (dkR 7) (dkPc g z [.ref (z + 340), .int p0, .int p1, .int p2, .int p3, .int p4, .int p5] I0) (dkQi g z (fun r I1 => dkF [(348, 348, 0, 53)] I0 I1 ∧ dkOk I1 ∧ ((True ∧ True)))) 0 0 (dkA z) := by
  refine Met.ofW (cc := cX6_seenBy) (maxL := 9) (ret := (some .int)) (by decide) rfl ?_
  intro p e s m args below meth c s₁ B hml hv
  obtain ⟨ha, hW, hK, hT⟩ := hv
  have hx := B.exec
  have hb := B.bytes
  have hr := B.returns
  have hts := atoms_spec (ws := wsX6_seenBy) B.pre
  have hown : s.vm.findClass RX6 = some m.cls := findClass_of_methodNamed B.named
  have hlocks := B.notSynchronized
  have hS : va_S (dkA z) s.heap s.heap [] := va_S.rf
  have hF : dkF [(348, 348, 0, 53)] I0 I0 := dkF_rf _ _
  have hl := lv_entry ([.ref (z + 340), .int p0, .int p1, .int p2, .int p3, .int p4, .int p5]) (n := 9) (Nat.le_of_ble_eq_true rfl)
  have hgo : entryFrame m args 9 = entryFrame m ([.ref (z + 340), .int p0, .int p1, .int p2, .int p3, .int p4, .int p5] : List Value).toArray 9 := by rw [ha]
  rw [hgo, lg_entry_eq]
  generalize (lg_sl ([.ref (z + 340), .int p0, .int p1, .int p2, .int p3, .int p4, .int p5]) ++ List.replicate (9 - (lg_sl ([.ref (z + 340), .int p0, .int p1, .int p2, .int p3, .int p4, .int p5])).length) Slot.unset).toArray = ls at hl ⊢
  have hl : lv_has ls 9 [(0, .ref (z + 340)), (1, .int p0), (2, .int p1), (3, .int p2), (4, .int p3), (5, .int p4), (6, .int p5)] := hl
  have C7 : ∀ (n : Nat), ∀ (I : dkI) (H : Heap) (locs : List Loc) (ls : Array Slot) (x7_7 : Int32) (x7_8 : Int32), (10 - x7_8.toInt).toNat < n → dkW g z I H → va_S (dkA z) s.heap H locs → dkF [(348, 348, 0, 53)] I0 I → dkOk I → dkN [(0, 10)] x7_8 → p1.toInt + p2.toInt ≤ 320 → lv_has ls 9 [(0, .ref (z + 340)), (1, .int p0), (2, .int p1), (3, .int p2), (4, .int p3), (5, .int p4), (6, .int p5), (7, .int x7_7), (8, .int x7_8)] → W p l e (headSpec wsX6_seenBy (dkR 7)).room s m args below meth c H locs 0 0 (MQ below (dkQi g z (fun r I1 => dkF [(348, 348, 0, 53)] I0 I1 ∧ dkOk I1 ∧ ((True ∧ True)))) args s 0 0 (dkA z)) (F0 m 7 ls []) := by
    intro n
    induction n with
    | zero => intro I H locs ls x7_7 x7_8 hn; exact absurd hn (Nat.not_lt_zero _)
    | succ n ih7 =>
      intro I7_ H locs ls x7_7 x7_8 hn7 hW hS hF_7 hO k7_1 q7_0 hl
      have hF := hF_7
      have C56 : ∀ (I : dkI) (H : Heap) (locs : List Loc) (ls : Array Slot) (x56_s0 : Int32), dkW g z I H → va_S (dkA z) s.heap H locs → dkF [(348, 348, 0, 53)] I0 I → dkOk I → dkN [(0, 512)] x56_s0 → dkN [(0, 9)] x7_8 → p1.toInt + p2.toInt ≤ 320 → lv_has ls 9 [(0, .ref (z + 340)), (1, .int p0), (2, .int p1), (3, .int p2), (4, .int p3), (5, .int p4), (6, .int p5), (7, .int x7_7), (8, .int x7_8)] → W p l e (headSpec wsX6_seenBy (dkR 7)).room s m args below meth c H locs 0 0 (MQ below (dkQi g z (fun r I1 => dkF [(348, 348, 0, 53)] I0 I1 ∧ dkOk I1 ∧ ((True ∧ True)))) args s 0 0 (dkA z)) (F0 m 56 ls [.int x56_s0, .int x7_7]) := by
        intro I56_ H locs ls x56_s0 hW hS hF_56 hO k56_0 r56_0 q56_0 hl
        have hF := hF_56
        refine lv_ior hx hb dX6_seenBy_56 ?_
        refine lv_topi (fun v1 ev1 => ?_)
        refine lv_istore (lv' := [(7, .int v1), (0, .ref (z + 340)), (1, .int p0), (2, .int p1), (3, .int p2), (4, .int p3), (5, .int p4), (6, .int p5), (8, .int x7_8)]) hx hb dX6_seenBy_57 hl (by decide) rfl (fun ls hl => ?_)
        obtain ⟨v2, ev2⟩ : ∃ y : Int32, y = x7_8 + 1 := ⟨_, rfl⟩
        have dv2 : dkN [(1, 10)] v2 := by rw [ev2]; exact dkN_add r56_0 (dkN_lit (x := 1) (1) rfl) rfl
        refine lv_iinc (v := v2) (lv' := [(8, .int v2), (7, .int v1), (0, .ref (z + 340)), (1, .int p0), (2, .int p1), (3, .int p2), (4, .int p3), (5, .int p4), (6, .int p5)]) hx hb dX6_seenBy_59 hl (k := 8) rfl (by rw [ev2]; rfl) (by decide) rfl (fun ls hl => ?_)
        refine lv_goto (tgt := 7) hx hb dX6_seenBy_62 (by decide) ?_
        exact ih7 I56_ _ _ ls v1 v2 (dk_near hn7 (by rw [ev2]; exact dk_inc r56_0 rfl) (dkN_lt r56_0 rfl)) hW hS hF hO (dkN_sub dv2 rfl) q56_0 (lv_sub hl [2, 3, 4, 5, 6, 7, 8, 1, 0] rfl)
      refine lv_iload hx hb dX6_seenBy_7 (lv_at hl 8 rfl) ?_
      refine lv_iload hx hb dX6_seenBy_9 (lv_at hl 6 rfl) ?_
      refine lv_icmp_gt (tgt := 65) hx hb dX6_seenBy_11 (by decide) (fun c3 => ?_) (fun c3 => ?_)
      ·
        have d4 : dkN [(10, 10)] x7_8 := dkN_le2 1 dp5 k7_1 (dkc_lt c3) rfl
        refine lv_iload hx hb dX6_seenBy_65 (lv_at hl 7 rfl) ?_
        exact W.iret (v := x7_7) hx hb hr (fun t ht hW9 => ⟨⟨x7_7, I7_, rfl, ⟨hF, hO, ⟨trivial, trivial⟩⟩, dkW_eq ht hW⟩, hS.F ht⟩) hS.2.2 dX6_seenBy_67
      ·
        have d5 : dkN [(0, 9)] x7_8 := dkN_le1 0 k7_1 dp5 (dkc_nlt c3) rfl
        refine lv_aload_n hx hb dX6_seenBy_14 rfl (lv_at hl 0 rfl) ?_
        refine dk_get (k := 340) hx hb hts iX6_seenBy_6 hown hK (dk_at340 hW) rfl 13 (by decide) (hts (.fieldLink RX6 25 "DogKingsModel" "now" "[I") (List.mem_of_getElem? (i := 1) rfl)) rfl dX6_seenBy_15 ?_
        refine lv_iconst (v := 0) hx hb dX6_seenBy_18 (by decide) ?_
        refine lv_aload_n hx hb dX6_seenBy_19 rfl (lv_at hl 0 rfl) ?_
        refine dk_get (k := 340) hx hb hts iX6_seenBy_6 hown hK (dk_at340 hW) rfl 15 (by decide) (hts (.fieldLink RX6 31 "DogKingsModel" "tried" "[I") (List.mem_of_getElem? (i := 2) rfl)) rfl dX6_seenBy_20 ?_
        refine lv_iconst (v := 0) hx hb dX6_seenBy_23 (by decide) ?_
        refine dk_Sv (As := [.ref (z + 346), .int 0, .ref (z + 348), .int 0]) (rest := []) ⟨hx, hb, hml, hown, hts⟩ (c_X6_copies l g z I7_ (kf := 346) (kt := 348) (nf := 54) (nt := 54) 0 0 (A := 0) (B := 0) rfl rfl (by decide) (by decide) (by decide) (by decide) (by decide) (by decide) (fun _ => rfl) (fun _ => rfl)) (va_cwS 4 hts gX6_seenBy_X6_copies rfl rfl rfl (by decide +kernel) ⟨Nat.le_of_ble_eq_true rfl, Nat.le_of_ble_eq_true rfl⟩) hK hT hW hS rfl hl.1 rfl (Nat.le_of_ble_eq_true rfl) dX6_seenBy_24 ⟨Nat.zero_le _, Nat.zero_le _⟩ (fun I6 H6 L6 eI6 hW hS => ?_)
        have eI6 : I6 = dkCp I7_ 346 348 0 0 := eI6
        have hO := dkO_cp hO eI6 (by decide) (by decide) (by decide) (by decide)
        have hF := dkF_cp (lo := 0) (hi := 0) hF eI6 ⟨by decide, by decide⟩ rfl
        refine lv_aload_n hx hb dX6_seenBy_27 rfl (lv_at hl 0 rfl) ?_
        refine dk_get (k := 340) hx hb hts iX6_seenBy_6 hown hK (dk_at340 hW) rfl 15 (by decide) (hts (.fieldLink RX6 31 "DogKingsModel" "tried" "[I") (List.mem_of_getElem? (i := 2) rfl)) rfl dX6_seenBy_28 ?_
        refine lv_iload hx hb dX6_seenBy_31 (lv_at hl 4 rfl) ?_
        refine lv_iload hx hb dX6_seenBy_33 (lv_at hl 8 rfl) ?_
        refine dk_ist (k := 348) hx hb hK hW (fun _ => rfl) (by decide) hS (dkN_in (n := 54) dp3 rfl) dX6_seenBy_35 (fun I7 H7 L7 eI7 hW hS => ?_)
        have hO := dkO_set hO eI7 (by rw [dkB_w (k := 348) (B := [(-2147483648, 2147483647)]) (by decide) dp3 rfl]; exact dkN_top _)
        have hF := dkF_set hF eI7 (dkIn_v dp3 rfl)
        refine lv_iload hx hb dX6_seenBy_36 (lv_at hl 7 rfl) ?_
        refine lv_aload_n hx hb dX6_seenBy_38 rfl (lv_at hl 0 rfl) ?_
        refine lv_iload_n hx hb dX6_seenBy_39 rfl (lv_at hl 1 rfl) ?_
        refine lv_iload_n hx hb dX6_seenBy_40 rfl (lv_at hl 2 rfl) ?_
        refine lv_iload_n hx hb dX6_seenBy_41 rfl (lv_at hl 3 rfl) ?_
        refine dk_Vi (As := [.int p0, .int p1, .int p2]) (rest := [.int x7_7]) ⟨hx, hb, hml, hown, hts⟩ (c_X6_isSeen_0 l g z I7 p0 p1 p2 dp0 dp1 dp2 q7_0 hO) (cwV 3 hts gX6_seenBy_X6_isSeen rfl rfl rfl (by decide +kernel) ⟨Nat.le_of_ble_eq_true rfl, Nat.le_of_ble_eq_true rfl⟩) (dk_at340 hW) rfl hK hT hW hS rfl hl.1 rfl (Nat.le_of_ble_eq_true rfl) dX6_seenBy_42 ⟨Nat.zero_le _, Nat.zero_le _⟩ (fun v8 I8 H8 L8 hp8 hW hS => ?_)
        obtain ⟨hF8, hO, hc8⟩ := hp8
        have hF := dkF_call hF hF8 rfl
        obtain ⟨dv8, -⟩ := hc8
        refine lv_if_eq (tgt := 55) hx hb dX6_seenBy_45 (by decide) (fun c9 => ?_) (fun c9 => ?_)
        ·
          have d10 : dkN [(0, 0)] v8 := dkN_eq1 dv8 (dkN_lit (x := 0) (0) rfl) (congrArg Int32.toInt c9) rfl
          refine lv_iconst (v := 0) hx hb dX6_seenBy_55 (by decide) ?_
          exact C56 I8 _ _ ls 0 hW hS hF hO (dkN_sub (dkN_lit (x := 0) (0) rfl) rfl) (dkN_sub d5 rfl) q7_0 (lv_sub hl [0, 1, 2, 3, 4, 5, 6, 7, 8] rfl)
        ·
          have d11 : dkN [(1, 1)] v8 := dkN_ne1 (0) dv8 (dkN_lit (x := 0) (0) rfl) (dk_ne c9) rfl
          refine lv_iconst (v := 1) hx hb dX6_seenBy_48 (by decide) ?_
          refine lv_iload hx hb dX6_seenBy_49 (lv_at hl 8 rfl) ?_
          refine lv_ishl hx hb dX6_seenBy_51 ?_
          refine lv_topi (fun v12 ev12 => ?_)
          have dv12 : dkN [(1, 512)] v12 := by rw [ev12]; exact dkN_shl1 0 9 (by decide) d5 rfl
          refine lv_goto (tgt := 56) hx hb dX6_seenBy_52 (by decide) ?_
          exact C56 I8 _ _ ls v12 hW hS hF hO (dkN_sub dv12 rfl) (dkN_sub d5 rfl) q7_0 (lv_sub hl [0, 1, 2, 3, 4, 5, 6, 7, 8] rfl)
  refine lv_iconst (v := 0) hx hb dX6_seenBy_0 (by decide) ?_
  refine lv_istore (lv' := [(7, .int 0), (0, .ref (z + 340)), (1, .int p0), (2, .int p1), (3, .int p2), (4, .int p3), (5, .int p4), (6, .int p5)]) hx hb dX6_seenBy_1 hl (by decide) rfl (fun ls hl => ?_)
  refine lv_iload hx hb dX6_seenBy_3 (lv_at hl 6 rfl) ?_
  refine lv_istore (lv' := [(8, .int p4), (7, .int 0), (0, .ref (z + 340)), (1, .int p0), (2, .int p1), (3, .int p2), (4, .int p3), (5, .int p4), (6, .int p5)]) hx hb dX6_seenBy_5 hl (by decide) rfl (fun ls hl => ?_)
  exact C7 _ I0 _ _ ls 0 p4 (Nat.lt_succ_self _) hW hS hF hO (dkN_sub dp4 rfl) m0 (lv_sub hl [2, 3, 4, 5, 6, 7, 8, 1, 0] rfl)
set_option maxHeartbeats 4000000 in
set_option maxRecDepth 100000 in
theorem c_X5_isUpTo_6 (l : Launch) (g : dkG) (z : Nat) (I0 : dkI) (p0 : Int32) (p1 : Int32) (dp1 : dkN [(10, 10)] p1)  (hO : dkOk I0) : Met l yX5_isUpTo wsX5_isUpTo (dkR 0) (dkPc g z [.int p0, .int p1] I0) (dkQi g z (fun r I1 => dkF [] I0 I1 ∧ dkOk I1 ∧ ((dkN [(0, 0)] r ∧ dkN [(-2147483648, -1), (11, 2147483647)] p0 ∧ True) ∨ (dkN [(1, 1)] r ∧ dkN [(0, 10)] p0 ∧ True)))) 0 0 (dkA z) := by
  refine Met.ofW (cc := cX5_isUpTo) (maxL := 2) (ret := (some .boolean)) (by decide) rfl ?_
  intro p e s m args below meth c s₁ B hml hv
  obtain ⟨ha, hW, hK, hT⟩ := hv
  have hx := B.exec
  have hb := B.bytes
  have hr := B.returns
  have hts := atoms_spec (ws := wsX5_isUpTo) B.pre
  have hown : s.vm.findClass RX5 = some m.cls := findClass_of_methodNamed B.named
  have hlocks := B.notSynchronized
  have hS : va_S (dkA z) s.heap s.heap [] := va_S.rf
  have hF : dkF [] I0 I0 := dkF_rf _ _
  have hl := lv_entry ([.int p0, .int p1]) (n := 2) (Nat.le_of_ble_eq_true rfl)
  have hgo : entryFrame m args 2 = entryFrame m ([.int p0, .int p1] : List Value).toArray 2 := by rw [ha]
  rw [hgo, lg_entry_eq]
  generalize (lg_sl ([.int p0, .int p1]) ++ List.replicate (2 - (lg_sl ([.int p0, .int p1])).length) Slot.unset).toArray = ls at hl ⊢
  have hl : lv_has ls 2 [(0, .int p0), (1, .int p1)] := hl
  refine lv_iload_n hx hb dX5_isUpTo_0 rfl (lv_at hl 0 rfl) ?_
  refine lv_if_lt (tgt := 13) hx hb dX5_isUpTo_1 (by decide) (fun c1 => ?_) (fun c1 => ?_)
  ·
    have d2 : dkN [(-2147483648, -1)] p0 := dkN_le1 1 (dkN_top p0) (dkN_lit (x := 0) (0) rfl) (dkc_lt c1) rfl
    refine lv_iconst (v := 0) hx hb dX5_isUpTo_13 (by decide) ?_
    exact W.zret (v := 0) (ty := .boolean) hx hb hr rfl (fun t ht hW9 => ⟨⟨0, I0, rfl, ⟨hF, hO, Or.inl ⟨dkN_sub (dkN_lit (x := 0) (0) rfl) rfl, dkN_sub d2 rfl, trivial⟩⟩, dkW_eq ht hW⟩, hS.F ht⟩) hS.2.2 dX5_isUpTo_14
  ·
    have d3 : dkN [(0, 2147483647)] p0 := dkN_le2 0 (dkN_lit (x := 0) (0) rfl) (dkN_top p0) (dkc_nlt c1) rfl
    refine lv_iload_n hx hb dX5_isUpTo_4 rfl (lv_at hl 0 rfl) ?_
    refine lv_iload_n hx hb dX5_isUpTo_5 rfl (lv_at hl 1 rfl) ?_
    refine lv_icmp_gt (tgt := 13) hx hb dX5_isUpTo_6 (by decide) (fun c4 => ?_) (fun c4 => ?_)
    ·
      have d5 : dkN [(11, 2147483647)] p0 := dkN_le2 1 dp1 d3 (dkc_lt c4) rfl
      refine lv_iconst (v := 0) hx hb dX5_isUpTo_13 (by decide) ?_
      exact W.zret (v := 0) (ty := .boolean) hx hb hr rfl (fun t ht hW9 => ⟨⟨0, I0, rfl, ⟨hF, hO, Or.inl ⟨dkN_sub (dkN_lit (x := 0) (0) rfl) rfl, dkN_sub d5 rfl, trivial⟩⟩, dkW_eq ht hW⟩, hS.F ht⟩) hS.2.2 dX5_isUpTo_14
    ·
      have d6 : dkN [(0, 10)] p0 := dkN_le1 0 d3 dp1 (dkc_nlt c4) rfl
      refine lv_iconst (v := 1) hx hb dX5_isUpTo_9 (by decide) ?_
      refine lv_goto (tgt := 14) hx hb dX5_isUpTo_10 (by decide) ?_
      exact W.zret (v := 1) (ty := .boolean) hx hb hr rfl (fun t ht hW9 => ⟨⟨1, I0, rfl, ⟨hF, hO, Or.inr (⟨dkN_sub (dkN_lit (x := 1) (1) rfl) rfl, dkN_sub d6 rfl, trivial⟩)⟩, dkW_eq ht hW⟩, hS.F ht⟩) hS.2.2 dX5_isUpTo_14
set_option maxHeartbeats 4000000 in
set_option maxRecDepth 100000 in
theorem c_X5_power_0 (l : Launch) (g : dkG) (z : Nat) (I0 : dkI) (p0 : Int32) (p1 : Int32) (dp0 : dkN [(0, 10)] p0) (dp1 : dkN [(0, 63)] p1)  (hO : dkOk I0) : Met l yX5_power wsX5_power (dkR 0) (dkPc g z [.int p0, .int p1] I0) (dkQi g z (fun r I1 => dkF [] I0 I1 ∧ dkOk I1 ∧ ((True ∧ True)))) 0 0 (dkA z) := by
  refine Met.ofW (cc := cX5_power) (maxL := 4) (ret := (some .int)) (by decide) rfl ?_
  intro p e s m args below meth c s₁ B hml hv
  obtain ⟨ha, hW, hK, hT⟩ := hv
  have hx := B.exec
  have hb := B.bytes
  have hr := B.returns
  have hts := atoms_spec (ws := wsX5_power) B.pre
  have hown : s.vm.findClass RX5 = some m.cls := findClass_of_methodNamed B.named
  have hlocks := B.notSynchronized
  have hS : va_S (dkA z) s.heap s.heap [] := va_S.rf
  have hF : dkF [] I0 I0 := dkF_rf _ _
  have hl := lv_entry ([.int p0, .int p1]) (n := 4) (Nat.le_of_ble_eq_true rfl)
  have hgo : entryFrame m args 4 = entryFrame m ([.int p0, .int p1] : List Value).toArray 4 := by rw [ha]
  rw [hgo, lg_entry_eq]
  generalize (lg_sl ([.int p0, .int p1]) ++ List.replicate (4 - (lg_sl ([.int p0, .int p1])).length) Slot.unset).toArray = ls at hl ⊢
  have hl : lv_has ls 4 [(0, .int p0), (1, .int p1)] := hl
  have C4 : ∀ (n : Nat), ∀ (I : dkI) (H : Heap) (locs : List Loc) (ls : Array Slot) (x4_2 : Int32) (x4_3 : Int32), (63 - x4_3.toInt).toNat < n → dkW g z I H → va_S (dkA z) s.heap H locs → dkF [] I0 I → dkOk I → dkN [(0, 63)] x4_3 → lv_has ls 4 [(0, .int p0), (1, .int p1), (2, .int x4_2), (3, .int x4_3)] → W p l e (headSpec wsX5_power (dkR 0)).room s m args below meth c H locs 0 0 (MQ below (dkQi g z (fun r I1 => dkF [] I0 I1 ∧ dkOk I1 ∧ ((True ∧ True)))) args s 0 0 (dkA z)) (F0 m 4 ls []) := by
    intro n
    induction n with
    | zero => intro I H locs ls x4_2 x4_3 hn; exact absurd hn (Nat.not_lt_zero _)
    | succ n ih4 =>
      intro I4_ H locs ls x4_2 x4_3 hn4 hW hS hF_4 hO k4_1 hl
      have hF := hF_4
      refine lv_iload_n hx hb dX5_power_4 rfl (lv_at hl 3 rfl) ?_
      refine lv_iload_n hx hb dX5_power_5 rfl (lv_at hl 1 rfl) ?_
      refine lv_icmp_ge (tgt := 19) hx hb dX5_power_6 (by decide) (fun c1 => ?_) (fun c1 => ?_)
      ·
        refine lv_iload_n hx hb dX5_power_19 rfl (lv_at hl 2 rfl) ?_
        exact W.iret (v := x4_2) hx hb hr (fun t ht hW9 => ⟨⟨x4_2, I4_, rfl, ⟨hF, hO, ⟨trivial, trivial⟩⟩, dkW_eq ht hW⟩, hS.F ht⟩) hS.2.2 dX5_power_20
      ·
        have d2 : dkN [(1, 63)] p1 := dkN_le2 1 k4_1 dp1 (dkc_nle c1) rfl
        have d3 : dkN [(0, 62)] x4_3 := dkN_le1 1 k4_1 dp1 (dkc_nle c1) rfl
        refine lv_iload_n hx hb dX5_power_9 rfl (lv_at hl 2 rfl) ?_
        refine lv_iload_n hx hb dX5_power_10 rfl (lv_at hl 0 rfl) ?_
        refine lv_imul hx hb dX5_power_11 ?_
        refine lv_topi (fun v4 ev4 => ?_)
        refine lv_istore_n (lv' := [(2, .int v4), (0, .int p0), (1, .int p1), (3, .int x4_3)]) hx hb dX5_power_12 rfl hl (by decide) rfl (fun ls hl => ?_)
        obtain ⟨v5, ev5⟩ : ∃ y : Int32, y = x4_3 + 1 := ⟨_, rfl⟩
        have dv5 : dkN [(1, 63)] v5 := by rw [ev5]; exact dkN_add d3 (dkN_lit (x := 1) (1) rfl) rfl
        refine lv_iinc (v := v5) (lv' := [(3, .int v5), (2, .int v4), (0, .int p0), (1, .int p1)]) hx hb dX5_power_13 hl (k := 3) rfl (by rw [ev5]; rfl) (by decide) rfl (fun ls hl => ?_)
        refine lv_goto (tgt := 4) hx hb dX5_power_16 (by decide) ?_
        exact ih4 I4_ _ _ ls v4 v5 (dk_near hn4 (by rw [ev5]; exact dk_inc d3 rfl) (dkN_lt d3 rfl)) hW hS hF hO (dkN_sub dv5 rfl) (lv_sub hl [2, 3, 1, 0] rfl)
  refine lv_iconst (v := 1) hx hb dX5_power_0 (by decide) ?_
  refine lv_istore_n (lv' := [(2, .int 1), (0, .int p0), (1, .int p1)]) hx hb dX5_power_1 rfl hl (by decide) rfl (fun ls hl => ?_)
  refine lv_iconst (v := 0) hx hb dX5_power_2 (by decide) ?_
  refine lv_istore_n (lv' := [(3, .int 0), (2, .int 1), (0, .int p0), (1, .int p1)]) hx hb dX5_power_3 rfl hl (by decide) rfl (fun ls hl => ?_)
  exact C4 _ I0 _ _ ls 1 0 (Nat.lt_succ_self _) hW hS hF hO (dkN_sub (dkN_lit (x := 0) (0) rfl) rfl) (lv_sub hl [2, 3, 1, 0] rfl)
set_option maxHeartbeats 4000000 in
set_option maxRecDepth 100000 in
theorem c_X5_power_1 (l : Launch) (g : dkG) (z : Nat) (I0 : dkI) (p0 : Int32) (p1 : Int32) (dp0 : dkN [(0, 10)] p0) (dp1 : dkN [(-63, 6)] p1)  (hO : dkOk I0) : Met l yX5_power wsX5_power (dkR 0) (dkPc g z [.int p0, .int p1] I0) (dkQi g z (fun r I1 => dkF [] I0 I1 ∧ dkOk I1 ∧ ((True ∧ True)))) 0 0 (dkA z) := by
  refine Met.ofW (cc := cX5_power) (maxL := 4) (ret := (some .int)) (by decide) rfl ?_
  intro p e s m args below meth c s₁ B hml hv
  obtain ⟨ha, hW, hK, hT⟩ := hv
  have hx := B.exec
  have hb := B.bytes
  have hr := B.returns
  have hts := atoms_spec (ws := wsX5_power) B.pre
  have hown : s.vm.findClass RX5 = some m.cls := findClass_of_methodNamed B.named
  have hlocks := B.notSynchronized
  have hS : va_S (dkA z) s.heap s.heap [] := va_S.rf
  have hF : dkF [] I0 I0 := dkF_rf _ _
  have hl := lv_entry ([.int p0, .int p1]) (n := 4) (Nat.le_of_ble_eq_true rfl)
  have hgo : entryFrame m args 4 = entryFrame m ([.int p0, .int p1] : List Value).toArray 4 := by rw [ha]
  rw [hgo, lg_entry_eq]
  generalize (lg_sl ([.int p0, .int p1]) ++ List.replicate (4 - (lg_sl ([.int p0, .int p1])).length) Slot.unset).toArray = ls at hl ⊢
  have hl : lv_has ls 4 [(0, .int p0), (1, .int p1)] := hl
  have C4 : ∀ (n : Nat), ∀ (I : dkI) (H : Heap) (locs : List Loc) (ls : Array Slot) (x4_2 : Int32) (x4_3 : Int32), (6 - x4_3.toInt).toNat < n → dkW g z I H → va_S (dkA z) s.heap H locs → dkF [] I0 I → dkOk I → dkN [(0, 6)] x4_3 → lv_has ls 4 [(0, .int p0), (1, .int p1), (2, .int x4_2), (3, .int x4_3)] → W p l e (headSpec wsX5_power (dkR 0)).room s m args below meth c H locs 0 0 (MQ below (dkQi g z (fun r I1 => dkF [] I0 I1 ∧ dkOk I1 ∧ ((True ∧ True)))) args s 0 0 (dkA z)) (F0 m 4 ls []) := by
    intro n
    induction n with
    | zero => intro I H locs ls x4_2 x4_3 hn; exact absurd hn (Nat.not_lt_zero _)
    | succ n ih4 =>
      intro I4_ H locs ls x4_2 x4_3 hn4 hW hS hF_4 hO k4_1 hl
      have hF := hF_4
      refine lv_iload_n hx hb dX5_power_4 rfl (lv_at hl 3 rfl) ?_
      refine lv_iload_n hx hb dX5_power_5 rfl (lv_at hl 1 rfl) ?_
      refine lv_icmp_ge (tgt := 19) hx hb dX5_power_6 (by decide) (fun c1 => ?_) (fun c1 => ?_)
      ·
        refine lv_iload_n hx hb dX5_power_19 rfl (lv_at hl 2 rfl) ?_
        exact W.iret (v := x4_2) hx hb hr (fun t ht hW9 => ⟨⟨x4_2, I4_, rfl, ⟨hF, hO, ⟨trivial, trivial⟩⟩, dkW_eq ht hW⟩, hS.F ht⟩) hS.2.2 dX5_power_20
      ·
        have d2 : dkN [(1, 6)] p1 := dkN_le2 1 k4_1 dp1 (dkc_nle c1) rfl
        have d3 : dkN [(0, 5)] x4_3 := dkN_le1 1 k4_1 dp1 (dkc_nle c1) rfl
        refine lv_iload_n hx hb dX5_power_9 rfl (lv_at hl 2 rfl) ?_
        refine lv_iload_n hx hb dX5_power_10 rfl (lv_at hl 0 rfl) ?_
        refine lv_imul hx hb dX5_power_11 ?_
        refine lv_topi (fun v4 ev4 => ?_)
        refine lv_istore_n (lv' := [(2, .int v4), (0, .int p0), (1, .int p1), (3, .int x4_3)]) hx hb dX5_power_12 rfl hl (by decide) rfl (fun ls hl => ?_)
        obtain ⟨v5, ev5⟩ : ∃ y : Int32, y = x4_3 + 1 := ⟨_, rfl⟩
        have dv5 : dkN [(1, 6)] v5 := by rw [ev5]; exact dkN_add d3 (dkN_lit (x := 1) (1) rfl) rfl
        refine lv_iinc (v := v5) (lv' := [(3, .int v5), (2, .int v4), (0, .int p0), (1, .int p1)]) hx hb dX5_power_13 hl (k := 3) rfl (by rw [ev5]; rfl) (by decide) rfl (fun ls hl => ?_)
        refine lv_goto (tgt := 4) hx hb dX5_power_16 (by decide) ?_
        exact ih4 I4_ _ _ ls v4 v5 (dk_near hn4 (by rw [ev5]; exact dk_inc d3 rfl) (dkN_lt d3 rfl)) hW hS hF hO (dkN_sub dv5 rfl) (lv_sub hl [2, 3, 1, 0] rfl)
  refine lv_iconst (v := 1) hx hb dX5_power_0 (by decide) ?_
  refine lv_istore_n (lv' := [(2, .int 1), (0, .int p0), (1, .int p1)]) hx hb dX5_power_1 rfl hl (by decide) rfl (fun ls hl => ?_)
  refine lv_iconst (v := 0) hx hb dX5_power_2 (by decide) ?_
  refine lv_istore_n (lv' := [(3, .int 0), (2, .int 1), (0, .int p0), (1, .int p1)]) hx hb dX5_power_3 rfl hl (by decide) rfl (fun ls hl => ?_)
  exact C4 _ I0 _ _ ls 1 0 (Nat.lt_succ_self _) hW hS hF hO (dkN_sub (dkN_lit (x := 0) (0) rfl) rfl) (lv_sub hl [2, 3, 1, 0] rfl)
set_option maxHeartbeats 4000000 in
set_option maxRecDepth 100000 in
theorem c_X3_kingWhileAsleep_0 (l : Launch) (g : dkG) (z : Nat) (I0 : dkI) (p0 : Int32)  (hO : dkOk I0) : Met l yX3_kingWhileAsleep wsX3_kingWhileAsleep (dkR 5) (dkPc g z [.ref (z + 325), .int p0] I0) (dkQi g z (fun r I1 => dkF [(326, 326, 0, 4), (326, 326, 11, 11), (326, 326, 15, 17), (327, 327, 0, 4), (328, 328, 0, 4), (329, 329, 0, 4), (330, 330, 0, 4), (331, 331, 0, 4), (332, 332, 0, 4), (333, 333, 0, 5), (334, 334, 0, 5), (335, 335, 0, 5), (336, 336, 0, 8)] I0 I1 ∧ dkOk I1 ∧ ((dkN [(-1000000, -1000000), (0, 4)] r ∧ True)))) 0 0 (dkA z) := by
  refine Met.ofW (cc := cX3_kingWhileAsleep) (maxL := 2) (ret := (some .int)) (by decide) rfl ?_
  intro p e s m args below meth c s₁ B hml hv
  obtain ⟨ha, hW, hK, hT⟩ := hv
  have hx := B.exec
  have hb := B.bytes
  have hr := B.returns
  have hts := atoms_spec (ws := wsX3_kingWhileAsleep) B.pre
  have hown : s.vm.findClass RX3 = some m.cls := findClass_of_methodNamed B.named
  have hlocks := B.notSynchronized
  have hS : va_S (dkA z) s.heap s.heap [] := va_S.rf
  have hF : dkF [(326, 326, 0, 4), (326, 326, 11, 11), (326, 326, 15, 17), (327, 327, 0, 4), (328, 328, 0, 4), (329, 329, 0, 4), (330, 330, 0, 4), (331, 331, 0, 4), (332, 332, 0, 4), (333, 333, 0, 5), (334, 334, 0, 5), (335, 335, 0, 5), (336, 336, 0, 8)] I0 I0 := dkF_rf _ _
  have hl := lv_entry ([.ref (z + 325), .int p0]) (n := 2) (Nat.le_of_ble_eq_true rfl)
  have hgo : entryFrame m args 2 = entryFrame m ([.ref (z + 325), .int p0] : List Value).toArray 2 := by rw [ha]
  rw [hgo, lg_entry_eq]
  generalize (lg_sl ([.ref (z + 325), .int p0]) ++ List.replicate (2 - (lg_sl ([.ref (z + 325), .int p0])).length) Slot.unset).toArray = ls at hl ⊢
  have hl : lv_has ls 2 [(0, .ref (z + 325)), (1, .int p0)] := hl
  refine lv_aload_n hx hb dX3_kingWhileAsleep_0 rfl (lv_at hl 0 rfl) ?_
  refine dk_get (k := 325) hx hb hts iX3_kingWhileAsleep_3 hown hK (dk_at325 hW) rfl 1 (by decide) (hts (.fieldLink RX3 12 "DogKings$Seer" "then" "LDogKings$Town;") (List.mem_of_getElem? (i := 1) rfl)) rfl dX3_kingWhileAsleep_1 ?_
  refine lv_aload_n hx hb dX3_kingWhileAsleep_4 rfl (lv_at hl 0 rfl) ?_
  refine dk_get (k := 325) hx hb hts iX3_kingWhileAsleep_3 hown hK (dk_at325 hW) rfl 0 (by decide) (hts (.fieldLink RX3 22 "DogKings$Seer" "now" "LDogKings$Town;") (List.mem_of_getElem? (i := 2) rfl)) rfl dX3_kingWhileAsleep_5 ?_
  refine dk_Vv (As := [.ref (z + 25)]) (rest := []) ⟨hx, hb, hml, hown, hts⟩ (c_X4_become_0 l g z I0 (326) (by unfold dkT; omega) (25) (by unfold dkT; omega) hO) (cwV 1 hts gX3_kingWhileAsleep_X4_become rfl rfl rfl (by decide +kernel) ⟨Nat.le_of_ble_eq_true rfl, Nat.le_of_ble_eq_true rfl⟩) (dk_at326 hW) rfl hK hT hW hS rfl hl.1 rfl (Nat.le_of_ble_eq_true rfl) dX3_kingWhileAsleep_8 ⟨Nat.zero_le _, Nat.zero_le _⟩ (fun I1 H1 L1 hp1 hW hS => ?_)
  obtain ⟨hF1, hO, hc1⟩ := hp1
  have hF := dkF_call hF hF1 rfl
  refine lv_aload_n hx hb dX3_kingWhileAsleep_11 rfl (lv_at hl 0 rfl) ?_
  refine dk_get (k := 325) hx hb hts iX3_kingWhileAsleep_3 hown hK (dk_at325 hW) rfl 1 (by decide) (hts (.fieldLink RX3 12 "DogKings$Seer" "then" "LDogKings$Town;") (List.mem_of_getElem? (i := 1) rfl)) rfl dX3_kingWhileAsleep_12 ?_
  refine lv_iload_n hx hb dX3_kingWhileAsleep_15 rfl (lv_at hl 1 rfl) ?_
  refine dk_put (k := 326) hx hb hts iX3_kingWhileAsleep_4 tyX4 tyX4_ok nmX4 hown hK hW (dk_at326 hW) hS rfl 16 (by decide) (hts (.fieldLink RX3 132 "DogKings$Town" "dogsAsleep" "I") (List.mem_of_getElem? (i := 3) rfl)) rfl rfl (Nat.le_of_ble_eq_true rfl) rfl dX3_kingWhileAsleep_16 (fun I2 H2 L2 eI2 hW hS => ?_)
  have eI2 : I2 = dkU I1 326 16 p0 := eI2
  have hO := dkO_set hO eI2 (dkN_sub (dkN_top p0) rfl)
  have hF := dkF_set hF eI2 rfl
  refine lv_aload_n hx hb dX3_kingWhileAsleep_19 rfl (lv_at hl 0 rfl) ?_
  refine dk_get (k := 325) hx hb hts iX3_kingWhileAsleep_3 hown hK (dk_at325 hW) rfl 1 (by decide) (hts (.fieldLink RX3 12 "DogKings$Seer" "then" "LDogKings$Town;") (List.mem_of_getElem? (i := 1) rfl)) rfl dX3_kingWhileAsleep_20 ?_
  refine dk_Vv (As := []) (rest := []) ⟨hx, hb, hml, hown, hts⟩ (c_X4_runToBell_0 l g z I2 (326) (by unfold dkT; omega) hO) (cwV 0 hts gX3_kingWhileAsleep_X4_runToBell rfl rfl rfl (by decide +kernel) ⟨Nat.le_of_ble_eq_true rfl, Nat.le_of_ble_eq_true rfl⟩) (dk_at326 hW) rfl hK hT hW hS rfl hl.1 rfl (Nat.le_of_ble_eq_true rfl) dX3_kingWhileAsleep_23 ⟨Nat.zero_le _, Nat.zero_le _⟩ (fun I3 H3 L3 hp3 hW hS => ?_)
  obtain ⟨hF3, hO, hc3⟩ := hp3
  have hF := dkF_call hF hF3 rfl
  refine lv_aload_n hx hb dX3_kingWhileAsleep_26 rfl (lv_at hl 0 rfl) ?_
  refine dk_get (k := 325) hx hb hts iX3_kingWhileAsleep_3 hown hK (dk_at325 hW) rfl 1 (by decide) (hts (.fieldLink RX3 12 "DogKings$Seer" "then" "LDogKings$Town;") (List.mem_of_getElem? (i := 1) rfl)) rfl dX3_kingWhileAsleep_27 ?_
  refine dk_Vi (As := []) (rest := []) ⟨hx, hb, hml, hown, hts⟩ (c_X4_kingAtBell_0 l g z I3 (326) (by unfold dkT; omega) hO) (cwV 0 hts gX3_kingWhileAsleep_X4_kingAtBell rfl rfl rfl (by decide +kernel) ⟨Nat.le_of_ble_eq_true rfl, Nat.le_of_ble_eq_true rfl⟩) (dk_at326 hW) rfl hK hT hW hS rfl hl.1 rfl (Nat.le_of_ble_eq_true rfl) dX3_kingWhileAsleep_30 ⟨Nat.zero_le _, Nat.zero_le _⟩ (fun v4 I4 H4 L4 hp4 hW hS => ?_)
  obtain ⟨hF4, hO, hc4⟩ := hp4
  have hF := dkF_call hF hF4 rfl
  obtain ⟨dv4, -⟩ := hc4
  exact W.iret (v := v4) hx hb hr (fun t ht hW9 => ⟨⟨v4, I4, rfl, ⟨hF, hO, ⟨dkN_sub dv4 rfl, trivial⟩⟩, dkW_eq ht hW⟩, hS.F ht⟩) hS.2.2 dX3_kingWhileAsleep_33
set_option maxHeartbeats 4000000 in
set_option maxRecDepth 100000 in
theorem c_X3_chancesAsleep_0 (l : Launch) (g : dkG) (z : Nat) (I0 : dkI) (p0 : Int32) (p1 : Int32) (dp0 : dkN [(0, 4)] p0) (dp1 : dkN [(0, 10)] p1)  (hO : dkOk I0) : Met l yX3_chancesAsleep wsX3_chancesAsleep (dkR 6) (dkPc g z [.ref (z + 325), .int p0, .int p1] I0) (dkQi g z (fun r I1 => dkF [(326, 326, 0, 4), (326, 326, 11, 11), (326, 326, 15, 17), (327, 327, 0, 4), (328, 328, 0, 4), (329, 329, 0, 4), (330, 330, 0, 4), (331, 331, 0, 4), (332, 332, 0, 4), (333, 333, 0, 5), (334, 334, 0, 5), (335, 335, 0, 5), (336, 336, 0, 8)] I0 I1 ∧ dkOk I1 ∧ ((True ∧ True)))) 0 0 (dkA z) := by
  refine Met.ofW (cc := cX3_chancesAsleep) (maxL := 7) (ret := (some .int)) (by decide) rfl ?_
  intro p e s m args below meth c s₁ B hml hv
  obtain ⟨ha, hW, hK, hT⟩ := hv
  have hx := B.exec
  have hb := B.bytes
  have hr := B.returns
  have hts := atoms_spec (ws := wsX3_chancesAsleep) B.pre
  have hown : s.vm.findClass RX3 = some m.cls := findClass_of_methodNamed B.named
  have hlocks := B.notSynchronized
  have hS : va_S (dkA z) s.heap s.heap [] := va_S.rf
  have hF : dkF [(326, 326, 0, 4), (326, 326, 11, 11), (326, 326, 15, 17), (327, 327, 0, 4), (328, 328, 0, 4), (329, 329, 0, 4), (330, 330, 0, 4), (331, 331, 0, 4), (332, 332, 0, 4), (333, 333, 0, 5), (334, 334, 0, 5), (335, 335, 0, 5), (336, 336, 0, 8)] I0 I0 := dkF_rf _ _
  have hl := lv_entry ([.ref (z + 325), .int p0, .int p1]) (n := 7) (Nat.le_of_ble_eq_true rfl)
  have hgo : entryFrame m args 7 = entryFrame m ([.ref (z + 325), .int p0, .int p1] : List Value).toArray 7 := by rw [ha]
  rw [hgo, lg_entry_eq]
  generalize (lg_sl ([.ref (z + 325), .int p0, .int p1]) ++ List.replicate (7 - (lg_sl ([.ref (z + 325), .int p0, .int p1])).length) Slot.unset).toArray = ls at hl ⊢
  have hl : lv_has ls 7 [(0, .ref (z + 325)), (1, .int p0), (2, .int p1)] := hl
  have C5 : ∀ (n : Nat), ∀ (I : dkI) (H : Heap) (locs : List Loc) (ls : Array Slot) (x5_3 : Int32) (x5_4 : Int32), (90 - x5_4.toInt).toNat < n → dkW g z I H → va_S (dkA z) s.heap H locs → dkF [(326, 326, 0, 4), (326, 326, 11, 11), (326, 326, 15, 17), (327, 327, 0, 4), (328, 328, 0, 4), (329, 329, 0, 4), (330, 330, 0, 4), (331, 331, 0, 4), (332, 332, 0, 4), (333, 333, 0, 5), (334, 334, 0, 5), (335, 335, 0, 5), (336, 336, 0, 8)] I0 I → dkOk I → dkN [(0, 90)] x5_4 → lv_has ls 7 [(0, .ref (z + 325)), (1, .int p0), (2, .int p1), (3, .int x5_3), (4, .int x5_4)] → W p l e (headSpec wsX3_chancesAsleep (dkR 6)).room s m args below meth c H locs 0 0 (MQ below (dkQi g z (fun r I1 => dkF [(326, 326, 0, 4), (326, 326, 11, 11), (326, 326, 15, 17), (327, 327, 0, 4), (328, 328, 0, 4), (329, 329, 0, 4), (330, 330, 0, 4), (331, 331, 0, 4), (332, 332, 0, 4), (333, 333, 0, 5), (334, 334, 0, 5), (335, 335, 0, 5), (336, 336, 0, 8)] I0 I1 ∧ dkOk I1 ∧ ((True ∧ True)))) args s 0 0 (dkA z)) (F0 m 5 ls []) := by
    intro n
    induction n with
    | zero => intro I H locs ls x5_3 x5_4 hn; exact absurd hn (Nat.not_lt_zero _)
    | succ n ih5 =>
      intro I5_ H locs ls x5_3 x5_4 hn5 hW hS hF_5 hO k5_1 hl
      have hF := hF_5
      have C73 : ∀ (I : dkI) (H : Heap) (locs : List Loc) (ls : Array Slot) (x73_3 : Int32) (x73_5 : Int32) (x73_6 : Int32), dkW g z I H → va_S (dkA z) s.heap H locs → dkF [(326, 326, 0, 4), (326, 326, 11, 11), (326, 326, 15, 17), (327, 327, 0, 4), (328, 328, 0, 4), (329, 329, 0, 4), (330, 330, 0, 4), (331, 331, 0, 4), (332, 332, 0, 4), (333, 333, 0, 5), (334, 334, 0, 5), (335, 335, 0, 5), (336, 336, 0, 8)] I0 I → dkOk I → dkN [(0, 63)] x73_5 → dkN [(0, 63)] x5_4 → lv_has ls 7 [(0, .ref (z + 325)), (1, .int p0), (2, .int p1), (3, .int x73_3), (4, .int x5_4), (5, .int x73_5), (6, .int x73_6)] → W p l e (headSpec wsX3_chancesAsleep (dkR 6)).room s m args below meth c H locs 0 0 (MQ below (dkQi g z (fun r I1 => dkF [(326, 326, 0, 4), (326, 326, 11, 11), (326, 326, 15, 17), (327, 327, 0, 4), (328, 328, 0, 4), (329, 329, 0, 4), (330, 330, 0, 4), (331, 331, 0, 4), (332, 332, 0, 4), (333, 333, 0, 5), (334, 334, 0, 5), (335, 335, 0, 5), (336, 336, 0, 8)] I0 I1 ∧ dkOk I1 ∧ ((True ∧ True)))) args s 0 0 (dkA z)) (F0 m 73 ls []) := by
        intro I73_ H locs ls x73_3 x73_5 x73_6 hW hS hF_73 hO k73_1 r73_0 hl
        have hF := hF_73
        obtain ⟨v1, ev1⟩ : ∃ y : Int32, y = x5_4 + 1 := ⟨_, rfl⟩
        have dv1 : dkN [(1, 64)] v1 := by rw [ev1]; exact dkN_add r73_0 (dkN_lit (x := 1) (1) rfl) rfl
        refine lv_iinc (v := v1) (lv' := [(4, .int v1), (0, .ref (z + 325)), (1, .int p0), (2, .int p1), (3, .int x73_3), (5, .int x73_5), (6, .int x73_6)]) hx hb dX3_chancesAsleep_73 hl (k := 4) rfl (by rw [ev1]; rfl) (by decide) rfl (fun ls hl => ?_)
        refine lv_goto (tgt := 5) hx hb dX3_chancesAsleep_76 (by decide) ?_
        exact ih5 I73_ _ _ ls x73_3 v1 (dk_near hn5 (by rw [ev1]; exact dk_inc r73_0 rfl) (dkN_lt r73_0 rfl)) hW hS hF hO (dkN_sub dv1 rfl) (lv_sub hl [1, 2, 3, 4, 0] rfl)
      refine lv_iload hx hb dX3_chancesAsleep_5 (lv_at hl 4 rfl) ?_
      refine lv_aload_n hx hb dX3_chancesAsleep_7 rfl (lv_at hl 0 rfl) ?_
      refine dk_get (k := 325) hx hb hts iX3_chancesAsleep_3 hown hK (dk_at325 hW) rfl 0 (by decide) (hts (.fieldLink RX3 22 "DogKings$Seer" "now" "LDogKings$Town;") (List.mem_of_getElem? (i := 1) rfl)) rfl dX3_chancesAsleep_8 ?_
      refine dk_get (k := 25) hx hb hts iX3_chancesAsleep_4 hown hK (dk_at25 hW) rfl 11 (by decide) (hts (.fieldLink RX3 107 "DogKings$Town" "dogs" "I") (List.mem_of_getElem? (i := 2) rfl)) rfl dX3_chancesAsleep_11 ?_
      refine lv_topi (fun v2 ev2 => ?_)
      have dv2 : dkN [(0, 6)] v2 := by rw [ev2]; exact (hO 25 11)
      refine dk_SiN (As := [.int v2]) (rest := [.int x5_4]) ⟨hx, hb, hml, hown, hts⟩ (c_X5_setOfAll_2 l g z I5_ v2 dv2 hO) ⟨va_cnB 1 hts gX3_chancesAsleep_X5_setOfAll_n65 rfl rfl rfl (hK.2.1 (RX3, 65, yX5_setOfAll) (by decide)) (hts (.initialized RX5) (List.mem_of_getElem? (i := 4) rfl)) (by decide +kernel) ⟨Nat.le_of_ble_eq_true rfl, Nat.le_of_ble_eq_true rfl⟩, (hts (.static yX5_setOfAll) (List.mem_of_getElem? (i := 3) rfl)), trivial⟩ hK hT hW hS rfl hl.1 rfl (Nat.le_of_ble_eq_true rfl) dX3_chancesAsleep_14 ⟨Nat.zero_le _, Nat.zero_le _⟩ (fun v3 I3 H3 L3 hp3 hW hS => ?_)
      obtain ⟨hF3, hO, hc3⟩ := hp3
      have hF := dkF_call hF hF3 rfl
      obtain ⟨dv3, -⟩ := hc3
      refine lv_icmp_gt (tgt := 79) hx hb dX3_chancesAsleep_17 (by decide) (fun c4 => ?_) (fun c4 => ?_)
      ·
        have d5 : dkN [(1, 90)] x5_4 := dkN_le2 1 dv3 k5_1 (dkc_lt c4) rfl
        refine lv_iload_n hx hb dX3_chancesAsleep_79 rfl (lv_at hl 3 rfl) ?_
        exact W.iret (v := x5_3) hx hb hr (fun t ht hW9 => ⟨⟨x5_3, I3, rfl, ⟨hF, hO, ⟨trivial, trivial⟩⟩, dkW_eq ht hW⟩, hS.F ht⟩) hS.2.2 dX3_chancesAsleep_80
      ·
        have d6 : dkN [(0, 63)] x5_4 := dkN_le1 0 k5_1 dv3 (dkc_nlt c4) rfl
        refine lv_iload hx hb dX3_chancesAsleep_20 (lv_at hl 4 rfl) ?_
        refine dk_Si (As := [.int x5_4]) (rest := []) ⟨hx, hb, hml, hown, hts⟩ (c_J6_bitCount_0f7a4_0 l g z I3 x5_4 hO) (va_cwS 1 hts gX3_chancesAsleep_J6_bitCount_0f7a4 rfl rfl rfl (by decide +kernel) ⟨Nat.le_of_ble_eq_true rfl, Nat.le_of_ble_eq_true rfl⟩) hK hT hW hS rfl hl.1 rfl (Nat.le_of_ble_eq_true rfl) dX3_chancesAsleep_22 ⟨Nat.zero_le _, Nat.zero_le _⟩ (fun v7 I7 H7 L7 hp7 hW hS => ?_)
        obtain ⟨hF7, hO, hc7⟩ := hp7
        have hF := dkF_call hF hF7 rfl
        obtain ⟨dv7, -⟩ := hc7
        refine lv_istore (lv' := [(5, .int v7), (0, .ref (z + 325)), (1, .int p0), (2, .int p1), (3, .int x5_3), (4, .int x5_4)]) hx hb dX3_chancesAsleep_25 hl (by decide) rfl (fun ls hl => ?_)
        refine lv_iload_n hx hb dX3_chancesAsleep_27 rfl (lv_at hl 3 rfl) ?_
        refine lv_iload hx hb dX3_chancesAsleep_28 (lv_at hl 0 rfl) ?_
        refine dk_SiN (As := [.int p1, .int v7]) (rest := []) ⟨hx, hb, hml, hown, hts⟩ (c_X5_power_0 l g z I7 p1 v7 dp1 dv7 hO) ⟨va_cnB 2 hts gX3_chancesAsleep_X5_power_n126 rfl rfl rfl (hK.2.1 (RX3, 126, yX5_power) (by decide)) (hts (.initialized RX5) (List.mem_of_getElem? (i := 4) rfl)) (by decide +kernel) ⟨Nat.le_of_ble_eq_true rfl, Nat.le_of_ble_eq_true rfl⟩, (hts (.static yX5_power) (List.mem_of_getElem? (i := 13) rfl)), trivial⟩ hK hT hW hS rfl hl.1 rfl (Nat.le_of_ble_eq_true rfl) dX3_chancesAsleep_30 ⟨Nat.zero_le _, Nat.zero_le _⟩ (fun v8 I8 H8 L8 hp8 hW hS => ?_)
        obtain ⟨hF8, hO, hc8⟩ := hp8
        have hF := dkF_call hF hF8 rfl
        obtain ⟨_, -⟩ := hc8
        refine lv_bipush (v := 10) hx hb dX3_chancesAsleep_33 (by decide) ?_
        refine lv_iload_n hx hb dX3_chancesAsleep_35 rfl (lv_at hl 3 rfl) ?_
        refine lv_isub hx hb dX3_chancesAsleep_36 ?_
        refine lv_topi (fun v9 ev9 => ?_)
        have dv9 : dkN [(0, 10)] v9 := by rw [ev9]; exact dkN_subt (dkN_lit (x := 10) (10) rfl) dp1 rfl
        refine lv_aload_n hx hb dX3_chancesAsleep_37 rfl (lv_at hl 1 rfl) ?_
        refine dk_get (k := 325) hx hb hts iX3_chancesAsleep_3 hown hK (dk_at325 hW) rfl 0 (by decide) (hts (.fieldLink RX3 22 "DogKings$Seer" "now" "LDogKings$Town;") (List.mem_of_getElem? (i := 1) rfl)) rfl dX3_chancesAsleep_38 ?_
        refine dk_get (k := 25) hx hb hts iX3_chancesAsleep_4 hown hK (dk_at25 hW) rfl 11 (by decide) (hts (.fieldLink RX3 107 "DogKings$Town" "dogs" "I") (List.mem_of_getElem? (i := 2) rfl)) rfl dX3_chancesAsleep_41 ?_
        refine lv_topi (fun v10 ev10 => ?_)
        have dv10 : dkN [(0, 6)] v10 := by rw [ev10]; exact (hO 25 11)
        refine lv_iload hx hb dX3_chancesAsleep_44 (lv_at hl 0 rfl) ?_
        refine lv_isub hx hb dX3_chancesAsleep_46 ?_
        refine lv_topi (fun v11 ev11 => ?_)
        have dv11 : dkN [(-63, 6)] v11 := by rw [ev11]; exact dkN_subt dv10 dv7 rfl
        refine dk_SiN (As := [.int v9, .int v11]) (rest := [.int v8]) ⟨hx, hb, hml, hown, hts⟩ (c_X5_power_1 l g z I8 v9 v11 dv9 dv11 hO) ⟨va_cnB 2 hts gX3_chancesAsleep_X5_power_n126 rfl rfl rfl (hK.2.1 (RX3, 126, yX5_power) (by decide)) (hts (.initialized RX5) (List.mem_of_getElem? (i := 4) rfl)) (by decide +kernel) ⟨Nat.le_of_ble_eq_true rfl, Nat.le_of_ble_eq_true rfl⟩, (hts (.static yX5_power) (List.mem_of_getElem? (i := 13) rfl)), trivial⟩ hK hT hW hS rfl hl.1 rfl (Nat.le_of_ble_eq_true rfl) dX3_chancesAsleep_47 ⟨Nat.zero_le _, Nat.zero_le _⟩ (fun v12 I12 H12 L12 hp12 hW hS => ?_)
        obtain ⟨hF12, hO, hc12⟩ := hp12
        have hF := dkF_call hF hF12 rfl
        obtain ⟨_, -⟩ := hc12
        refine lv_imul hx hb dX3_chancesAsleep_50 ?_
        refine lv_topi (fun v13 ev13 => ?_)
        refine lv_istore (lv' := [(6, .int v13), (5, .int v7), (0, .ref (z + 325)), (1, .int p0), (2, .int p1), (3, .int x5_3), (4, .int x5_4)]) hx hb dX3_chancesAsleep_51 hl (by decide) rfl (fun ls hl => ?_)
        refine lv_iload hx hb dX3_chancesAsleep_53 (lv_at hl 0 rfl) ?_
        refine lv_if_le (tgt := 73) hx hb dX3_chancesAsleep_55 (by decide) (fun c14 => ?_) (fun c14 => ?_)
        ·
          have d15 : dkN [(-2147483648, 0)] v13 := dkN_le1 0 (dkN_top v13) (dkN_lit (x := 0) (0) rfl) (dkc_le c14) rfl
          exact C73 I12 _ _ ls x5_3 v7 v13 hW hS hF hO (dkN_sub dv7 rfl) (dkN_sub d6 rfl) (lv_sub hl [2, 3, 4, 5, 6, 1, 0] rfl)
        ·
          have d16 : dkN [(1, 2147483647)] v13 := dkN_le2 1 (dkN_lit (x := 0) (0) rfl) (dkN_top v13) (dkc_nle c14) rfl
          refine lv_aload_n hx hb dX3_chancesAsleep_58 rfl (lv_at hl 2 rfl) ?_
          refine lv_iload hx hb dX3_chancesAsleep_59 (lv_at hl 6 rfl) ?_
          refine dk_Vi (As := [.int x5_4]) (rest := []) ⟨hx, hb, hml, hown, hts⟩ (c_X3_kingWhileAsleep_0 l g z I12 x5_4 hO) (cwV 1 hts gX3_chancesAsleep_X3_kingWhileAsleep rfl rfl rfl (by decide +kernel) ⟨Nat.le_of_ble_eq_true rfl, Nat.le_of_ble_eq_true rfl⟩) (dk_at325 hW) rfl hK hT hW hS rfl hl.1 rfl (Nat.le_of_ble_eq_true rfl) dX3_chancesAsleep_61 ⟨Nat.zero_le _, Nat.zero_le _⟩ (fun v17 I17 H17 L17 hp17 hW hS => ?_)
          obtain ⟨hF17, hO, hc17⟩ := hp17
          have hF := dkF_call hF hF17 rfl
          obtain ⟨dv17, -⟩ := hc17
          refine lv_iload_n hx hb dX3_chancesAsleep_64 rfl (lv_at hl 3 rfl) ?_
          refine lv_icmp_ne (tgt := 73) hx hb dX3_chancesAsleep_65 (by decide) (fun c18 => ?_) (fun c18 => ?_)
          ·
            exact C73 I17 _ _ ls x5_3 v7 v13 hW hS hF hO (dkN_sub dv7 rfl) (dkN_sub d6 rfl) (lv_sub hl [2, 3, 4, 5, 6, 1, 0] rfl)
          ·
            have d19 : dkN [(0, 4)] v17 := dkN_eq1 dv17 dp0 (congrArg Int32.toInt c18) rfl
            refine lv_iload_n hx hb dX3_chancesAsleep_68 rfl (lv_at hl 5 rfl) ?_
            refine lv_iload hx hb dX3_chancesAsleep_69 (lv_at hl 0 rfl) ?_
            refine lv_iadd hx hb dX3_chancesAsleep_71 ?_
            refine lv_topi (fun v20 ev20 => ?_)
            refine lv_istore_n (lv' := [(3, .int v20), (6, .int v13), (5, .int v7), (0, .ref (z + 325)), (1, .int p0), (2, .int p1), (4, .int x5_4)]) hx hb dX3_chancesAsleep_72 rfl hl (by decide) rfl (fun ls hl => ?_)
            exact C73 I17 _ _ ls v20 v7 v13 hW hS hF hO (dkN_sub dv7 rfl) (dkN_sub d6 rfl) (lv_sub hl [3, 4, 5, 0, 6, 2, 1] rfl)
  refine lv_iconst (v := 0) hx hb dX3_chancesAsleep_0 (by decide) ?_
  refine lv_istore_n (lv' := [(3, .int 0), (0, .ref (z + 325)), (1, .int p0), (2, .int p1)]) hx hb dX3_chancesAsleep_1 rfl hl (by decide) rfl (fun ls hl => ?_)
  refine lv_iconst (v := 0) hx hb dX3_chancesAsleep_2 (by decide) ?_
  refine lv_istore (lv' := [(4, .int 0), (3, .int 0), (0, .ref (z + 325)), (1, .int p0), (2, .int p1)]) hx hb dX3_chancesAsleep_3 hl (by decide) rfl (fun ls hl => ?_)
  exact C5 _ I0 _ _ ls 0 0 (Nat.lt_succ_self _) hW hS hF hO (dkN_sub (dkN_lit (x := 0) (0) rfl) rfl) (lv_sub hl [2, 3, 4, 1, 0] rfl)
set_option maxHeartbeats 4000000 in
set_option maxRecDepth 100000 in
theorem c_X5_power_2 (l : Launch) (g : dkG) (z : Nat) (I0 : dkI) (p0 : Int32) (p1 : Int32) (dp0 : dkN [(10, 10)] p0) (dp1 : dkN [(0, 6)] p1)  (hO : dkOk I0) : Met l yX5_power wsX5_power (dkR 0) (dkPc g z [.int p0, .int p1] I0) (dkQi g z (fun r I1 => dkF [] I0 I1 ∧ dkOk I1 ∧ ((True ∧ True)))) 0 0 (dkA z) := by
  refine Met.ofW (cc := cX5_power) (maxL := 4) (ret := (some .int)) (by decide) rfl ?_
  intro p e s m args below meth c s₁ B hml hv
  obtain ⟨ha, hW, hK, hT⟩ := hv
  have hx := B.exec
  have hb := B.bytes
  have hr := B.returns
  have hts := atoms_spec (ws := wsX5_power) B.pre
  have hown : s.vm.findClass RX5 = some m.cls := findClass_of_methodNamed B.named
  have hlocks := B.notSynchronized
  have hS : va_S (dkA z) s.heap s.heap [] := va_S.rf
  have hF : dkF [] I0 I0 := dkF_rf _ _
  have hl := lv_entry ([.int p0, .int p1]) (n := 4) (Nat.le_of_ble_eq_true rfl)
  have hgo : entryFrame m args 4 = entryFrame m ([.int p0, .int p1] : List Value).toArray 4 := by rw [ha]
  rw [hgo, lg_entry_eq]
  generalize (lg_sl ([.int p0, .int p1]) ++ List.replicate (4 - (lg_sl ([.int p0, .int p1])).length) Slot.unset).toArray = ls at hl ⊢
  have hl : lv_has ls 4 [(0, .int p0), (1, .int p1)] := hl
  have C4 : ∀ (n : Nat), ∀ (I : dkI) (H : Heap) (locs : List Loc) (ls : Array Slot) (x4_2 : Int32) (x4_3 : Int32), (6 - x4_3.toInt).toNat < n → dkW g z I H → va_S (dkA z) s.heap H locs → dkF [] I0 I → dkOk I → dkN [(0, 6)] x4_3 → lv_has ls 4 [(0, .int p0), (1, .int p1), (2, .int x4_2), (3, .int x4_3)] → W p l e (headSpec wsX5_power (dkR 0)).room s m args below meth c H locs 0 0 (MQ below (dkQi g z (fun r I1 => dkF [] I0 I1 ∧ dkOk I1 ∧ ((True ∧ True)))) args s 0 0 (dkA z)) (F0 m 4 ls []) := by
    intro n
    induction n with
    | zero => intro I H locs ls x4_2 x4_3 hn; exact absurd hn (Nat.not_lt_zero _)
    | succ n ih4 =>
      intro I4_ H locs ls x4_2 x4_3 hn4 hW hS hF_4 hO k4_1 hl
      have hF := hF_4
      refine lv_iload_n hx hb dX5_power_4 rfl (lv_at hl 3 rfl) ?_
      refine lv_iload_n hx hb dX5_power_5 rfl (lv_at hl 1 rfl) ?_
      refine lv_icmp_ge (tgt := 19) hx hb dX5_power_6 (by decide) (fun c1 => ?_) (fun c1 => ?_)
      ·
        refine lv_iload_n hx hb dX5_power_19 rfl (lv_at hl 2 rfl) ?_
        exact W.iret (v := x4_2) hx hb hr (fun t ht hW9 => ⟨⟨x4_2, I4_, rfl, ⟨hF, hO, ⟨trivial, trivial⟩⟩, dkW_eq ht hW⟩, hS.F ht⟩) hS.2.2 dX5_power_20
      ·
        have d2 : dkN [(1, 6)] p1 := dkN_le2 1 k4_1 dp1 (dkc_nle c1) rfl
        have d3 : dkN [(0, 5)] x4_3 := dkN_le1 1 k4_1 dp1 (dkc_nle c1) rfl
        refine lv_iload_n hx hb dX5_power_9 rfl (lv_at hl 2 rfl) ?_
        refine lv_iload_n hx hb dX5_power_10 rfl (lv_at hl 0 rfl) ?_
        refine lv_imul hx hb dX5_power_11 ?_
        refine lv_topi (fun v4 ev4 => ?_)
        refine lv_istore_n (lv' := [(2, .int v4), (0, .int p0), (1, .int p1), (3, .int x4_3)]) hx hb dX5_power_12 rfl hl (by decide) rfl (fun ls hl => ?_)
        obtain ⟨v5, ev5⟩ : ∃ y : Int32, y = x4_3 + 1 := ⟨_, rfl⟩
        have dv5 : dkN [(1, 6)] v5 := by rw [ev5]; exact dkN_add d3 (dkN_lit (x := 1) (1) rfl) rfl
        refine lv_iinc (v := v5) (lv' := [(3, .int v5), (2, .int v4), (0, .int p0), (1, .int p1)]) hx hb dX5_power_13 hl (k := 3) rfl (by rw [ev5]; rfl) (by decide) rfl (fun ls hl => ?_)
        refine lv_goto (tgt := 4) hx hb dX5_power_16 (by decide) ?_
        exact ih4 I4_ _ _ ls v4 v5 (dk_near hn4 (by rw [ev5]; exact dk_inc d3 rfl) (dkN_lt d3 rfl)) hW hS hF hO (dkN_sub dv5 rfl) (lv_sub hl [2, 3, 1, 0] rfl)
  refine lv_iconst (v := 1) hx hb dX5_power_0 (by decide) ?_
  refine lv_istore_n (lv' := [(2, .int 1), (0, .int p0), (1, .int p1)]) hx hb dX5_power_1 rfl hl (by decide) rfl (fun ls hl => ?_)
  refine lv_iconst (v := 0) hx hb dX5_power_2 (by decide) ?_
  refine lv_istore_n (lv' := [(3, .int 0), (2, .int 1), (0, .int p0), (1, .int p1)]) hx hb dX5_power_3 rfl hl (by decide) rfl (fun ls hl => ?_)
  exact C4 _ I0 _ _ ls 1 0 (Nat.lt_succ_self _) hW hS hF hO (dkN_sub (dkN_lit (x := 0) (0) rfl) rfl) (lv_sub hl [2, 3, 1, 0] rfl)
set_option maxHeartbeats 4000000 in
set_option maxRecDepth 100000 in
theorem c_X5_commonDivisor_0 (l : Launch) (g : dkG) (z : Nat) (I0 : dkI) (p0 : Int32) (p1 : Int32)  (hO : dkOk I0) : Met l yX5_commonDivisor wsX5_commonDivisor (dkR 0) (dkPc g z [.int p0, .int p1] I0) (dkQi g z (fun r I1 => dkF [] I0 I1 ∧ dkOk I1 ∧ ((True ∧ True)))) 0 0 (dkA z) := by
  refine Met.ofW (cc := cX5_commonDivisor) (maxL := 4) (ret := (some .int)) (by decide) rfl ?_
  intro p e s m args below meth c s₁ B hml hv
  obtain ⟨ha, hW, hK, hT⟩ := hv
  have hx := B.exec
  have hb := B.bytes
  have hr := B.returns
  have hts := atoms_spec (ws := wsX5_commonDivisor) B.pre
  have hown : s.vm.findClass RX5 = some m.cls := findClass_of_methodNamed B.named
  have hlocks := B.notSynchronized
  have hS : va_S (dkA z) s.heap s.heap [] := va_S.rf
  have hF : dkF [] I0 I0 := dkF_rf _ _
  have hl := lv_entry ([.int p0, .int p1]) (n := 4) (Nat.le_of_ble_eq_true rfl)
  have hgo : entryFrame m args 4 = entryFrame m ([.int p0, .int p1] : List Value).toArray 4 := by rw [ha]
  rw [hgo, lg_entry_eq]
  generalize (lg_sl ([.int p0, .int p1]) ++ List.replicate (4 - (lg_sl ([.int p0, .int p1])).length) Slot.unset).toArray = ls at hl ⊢
  have hl : lv_has ls 4 [(0, .int p0), (1, .int p1)] := hl
  have C2 : ∀ (n : Nat), ∀ (I : dkI) (H : Heap) (locs : List Loc) (ls : Array Slot) (x2_0 : Int32) (x2_1 : Int32) (x2_2 : Int32), (50 - x2_2.toInt).toNat < n → dkW g z I H → va_S (dkA z) s.heap H locs → dkF [] I0 I → dkOk I → dkN [(0, 50)] x2_2 → lv_has ls 4 [(0, .int x2_0), (1, .int x2_1), (2, .int x2_2)] → W p l e (headSpec wsX5_commonDivisor (dkR 0)).room s m args below meth c H locs 0 0 (MQ below (dkQi g z (fun r I1 => dkF [] I0 I1 ∧ dkOk I1 ∧ ((True ∧ True)))) args s 0 0 (dkA z)) (F0 m 2 ls []) := by
    intro n
    induction n with
    | zero => intro I H locs ls x2_0 x2_1 x2_2 hn; exact absurd hn (Nat.not_lt_zero _)
    | succ n ih2 =>
      intro I2_ H locs ls x2_0 x2_1 x2_2 hn2 hW hS hF_2 hO k2_2 hl
      have hF := hF_2
      refine lv_iload_n hx hb dX5_commonDivisor_2 rfl (lv_at hl 2 rfl) ?_
      refine lv_bipush (v := 50) hx hb dX5_commonDivisor_3 (by decide) ?_
      refine lv_icmp_ge (tgt := 26) hx hb dX5_commonDivisor_5 (by decide) (fun c1 => ?_) (fun c1 => ?_)
      ·
        have d2 : dkN [(50, 50)] x2_2 := dkN_le2 0 (dkN_lit (x := 50) (50) rfl) k2_2 (dkc_le c1) rfl
        refine lv_iload_n hx hb dX5_commonDivisor_26 rfl (lv_at hl 0 rfl) ?_
        exact W.iret (v := x2_0) hx hb hr (fun t ht hW9 => ⟨⟨x2_0, I2_, rfl, ⟨hF, hO, ⟨trivial, trivial⟩⟩, dkW_eq ht hW⟩, hS.F ht⟩) hS.2.2 dX5_commonDivisor_27
      ·
        have d3 : dkN [(0, 49)] x2_2 := dkN_le1 1 k2_2 (dkN_lit (x := 50) (50) rfl) (dkc_nle c1) rfl
        refine lv_iload_n hx hb dX5_commonDivisor_8 rfl (lv_at hl 1 rfl) ?_
        refine lv_if_eq (tgt := 26) hx hb dX5_commonDivisor_9 (by decide) (fun c4 => ?_) (fun c4 => ?_)
        ·
          have d5 : dkN [(0, 0)] x2_1 := dkN_eq1 (dkN_top x2_1) (dkN_lit (x := 0) (0) rfl) (congrArg Int32.toInt c4) rfl
          refine lv_iload_n hx hb dX5_commonDivisor_26 rfl (lv_at hl 0 rfl) ?_
          exact W.iret (v := x2_0) hx hb hr (fun t ht hW9 => ⟨⟨x2_0, I2_, rfl, ⟨hF, hO, ⟨trivial, trivial⟩⟩, dkW_eq ht hW⟩, hS.F ht⟩) hS.2.2 dX5_commonDivisor_27
        ·
          have d6 : dkN [(-2147483648, -1), (1, 2147483647)] x2_1 := dkN_ne1 (0) (dkN_top x2_1) (dkN_lit (x := 0) (0) rfl) (dk_ne c4) rfl
          refine lv_iload_n hx hb dX5_commonDivisor_12 rfl (lv_at hl 0 rfl) ?_
          refine lv_iload_n hx hb dX5_commonDivisor_13 rfl (lv_at hl 1 rfl) ?_
          refine lv_irem hx hb dX5_commonDivisor_14 (dkN_ne0 d6 rfl) ?_
          refine lv_topi (fun v7 ev7 => ?_)
          refine lv_istore_n (lv' := [(3, .int v7), (0, .int x2_0), (1, .int x2_1), (2, .int x2_2)]) hx hb dX5_commonDivisor_15 rfl hl (by decide) rfl (fun ls hl => ?_)
          refine lv_iload_n hx hb dX5_commonDivisor_16 rfl (lv_at hl 2 rfl) ?_
          refine lv_istore_n (lv' := [(0, .int x2_1), (3, .int v7), (1, .int x2_1), (2, .int x2_2)]) hx hb dX5_commonDivisor_17 rfl hl (by decide) rfl (fun ls hl => ?_)
          refine lv_iload_n hx hb dX5_commonDivisor_18 rfl (lv_at hl 1 rfl) ?_
          refine lv_istore_n (lv' := [(1, .int v7), (0, .int x2_1), (3, .int v7), (2, .int x2_2)]) hx hb dX5_commonDivisor_19 rfl hl (by decide) rfl (fun ls hl => ?_)
          obtain ⟨v8, ev8⟩ : ∃ y : Int32, y = x2_2 + 1 := ⟨_, rfl⟩
          have dv8 : dkN [(1, 50)] v8 := by rw [ev8]; exact dkN_add d3 (dkN_lit (x := 1) (1) rfl) rfl
          refine lv_iinc (v := v8) (lv' := [(2, .int v8), (1, .int v7), (0, .int x2_1), (3, .int v7)]) hx hb dX5_commonDivisor_20 hl (k := 3) rfl (by rw [ev8]; rfl) (by decide) rfl (fun ls hl => ?_)
          refine lv_goto (tgt := 2) hx hb dX5_commonDivisor_23 (by decide) ?_
          exact ih2 I2_ _ _ ls x2_1 v7 v8 (dk_near hn2 (by rw [ev8]; exact dk_inc d3 rfl) (dkN_lt d3 rfl)) hW hS hF hO (dkN_sub dv8 rfl) (lv_sub hl [2, 1, 0] rfl)
  refine lv_iconst (v := 0) hx hb dX5_commonDivisor_0 (by decide) ?_
  refine lv_istore_n (lv' := [(2, .int 0), (0, .int p0), (1, .int p1)]) hx hb dX5_commonDivisor_1 rfl hl (by decide) rfl (fun ls hl => ?_)
  exact C2 _ I0 _ _ ls p0 p1 0 (Nat.lt_succ_self _) hW hS hF hO (dkN_sub (dkN_lit (x := 0) (0) rfl) rfl) (lv_sub hl [1, 2, 0] rfl)
set_option maxHeartbeats 4000000 in
set_option maxRecDepth 100000 in
theorem c_X5_asleep_0 (l : Launch) (g : dkG) (z : Nat) (I0 : dkI) (p0 : Int32) (p1 : Int32) (p2 : Int32)  (hO : dkOk I0) : Met l yX5_asleep wsX5_asleep (dkR 7) (dkPc g z [.ref (z + 0), .int p0, .int p1, .int p2] I0) (dkQi g z (fun r I1 => dkF [(326, 326, 0, 4), (326, 326, 11, 11), (326, 326, 15, 17), (327, 327, 0, 4), (328, 328, 0, 4), (329, 329, 0, 4), (330, 330, 0, 4), (331, 331, 0, 4), (332, 332, 0, 4), (333, 333, 0, 5), (334, 334, 0, 5), (335, 335, 0, 5), (336, 336, 0, 8)] I0 I1 ∧ dkOk I1 ∧ ((True ∧ True)))) 0 0 (dkA z) := by
  refine Met.ofW (cc := cX5_asleep) (maxL := 7) (ret := (some .int)) (by decide) rfl ?_
  intro p e s m args below meth c s₁ B hml hv
  obtain ⟨ha, hW, hK, hT⟩ := hv
  have hx := B.exec
  have hb := B.bytes
  have hr := B.returns
  have hts := atoms_spec (ws := wsX5_asleep) B.pre
  have hown : s.vm.findClass RX5 = some m.cls := findClass_of_methodNamed B.named
  have hlocks := B.notSynchronized
  have hS : va_S (dkA z) s.heap s.heap [] := va_S.rf
  have hF : dkF [(326, 326, 0, 4), (326, 326, 11, 11), (326, 326, 15, 17), (327, 327, 0, 4), (328, 328, 0, 4), (329, 329, 0, 4), (330, 330, 0, 4), (331, 331, 0, 4), (332, 332, 0, 4), (333, 333, 0, 5), (334, 334, 0, 5), (335, 335, 0, 5), (336, 336, 0, 8)] I0 I0 := dkF_rf _ _
  have hl := lv_entry ([.ref (z + 0), .int p0, .int p1, .int p2]) (n := 7) (Nat.le_of_ble_eq_true rfl)
  have hgo : entryFrame m args 7 = entryFrame m ([.ref (z + 0), .int p0, .int p1, .int p2] : List Value).toArray 7 := by rw [ha]
  rw [hgo, lg_entry_eq]
  generalize (lg_sl ([.ref (z + 0), .int p0, .int p1, .int p2]) ++ List.replicate (7 - (lg_sl ([.ref (z + 0), .int p0, .int p1, .int p2])).length) Slot.unset).toArray = ls at hl ⊢
  have hl : lv_has ls 7 [(0, .ref (z + 0)), (1, .int p0), (2, .int p1), (3, .int p2)] := hl
  refine lv_aload_n hx hb dX5_asleep_0 rfl (lv_at hl 0 rfl) ?_
  refine lv_iload_n hx hb dX5_asleep_1 rfl (lv_at hl 1 rfl) ?_
  refine dk_Vi (As := [.int p0]) (rest := []) ⟨hx, hb, hml, hown, hts⟩ (c_X5_isPerson_0 l g z I0 p0 hO) (cwV 1 hts gX5_asleep_X5_isPerson rfl rfl rfl (by decide +kernel) ⟨Nat.le_of_ble_eq_true rfl, Nat.le_of_ble_eq_true rfl⟩) (dk_at0 hW) rfl hK hT hW hS rfl hl.1 rfl (Nat.le_of_ble_eq_true rfl) dX5_asleep_2 ⟨Nat.zero_le _, Nat.zero_le _⟩ (fun v1 I1 H1 L1 hp1 hW hS => ?_)
  obtain ⟨hF1, hO, hc1⟩ := hp1
  have hF := dkF_call hF hF1 rfl
  rcases hc1 with ⟨dv1, -⟩ | hc1
  ·
    refine lv_if_eq (tgt := 25) hx hb dX5_asleep_5 (by decide) (fun c2 => ?_) (fun c2 => ?_)
    ·
      refine lv_ldc (v := (-1000001)) hx hb hown (hts (.constant RX5 70 (-1000001)) (List.mem_of_getElem? (i := 1) rfl)) dX5_asleep_25 ?_
      exact W.iret (v := (-1000001)) hx hb hr (fun t ht hW9 => ⟨⟨(-1000001), I1, rfl, ⟨hF, hO, ⟨trivial, trivial⟩⟩, dkW_eq ht hW⟩, hS.F ht⟩) hS.2.2 dX5_asleep_27
    ·
      exact (dkN_nil (show dkN [] v1 from dkN_ne1 (0) dv1 (dkN_lit (x := 0) (0) rfl) (dk_ne c2) rfl)).elim
  ·
    obtain ⟨dv1, a1_0, f1_25_4, -⟩ := hc1
    have d3 : dkN [(0, 4)] p0 := dkN_eq1 (dkN_top p0) a1_0 rfl rfl
    refine lv_if_eq (tgt := 25) hx hb dX5_asleep_5 (by decide) (fun c4 => ?_) (fun c4 => ?_)
    ·
      exact (dkN_nil (show dkN [] v1 from dkN_eq1 dv1 (dkN_lit (x := 0) (0) rfl) (congrArg Int32.toInt c4) rfl)).elim
    ·
      refine lv_iload_n hx hb dX5_asleep_8 rfl (lv_at hl 2 rfl) ?_
      refine lv_bipush (v := 10) hx hb dX5_asleep_9 (by decide) ?_
      refine dk_Si (As := [.int p1, .int 10]) (rest := []) ⟨hx, hb, hml, hown, hts⟩ (c_X5_isUpTo_6 l g z I1 p1 10 (dkN_lit (x := 10) (10) rfl) hO) (va_cwS 2 hts gX5_asleep_X5_isUpTo rfl rfl rfl (by decide +kernel) ⟨Nat.le_of_ble_eq_true rfl, Nat.le_of_ble_eq_true rfl⟩) hK hT hW hS rfl hl.1 rfl (Nat.le_of_ble_eq_true rfl) dX5_asleep_11 ⟨Nat.zero_le _, Nat.zero_le _⟩ (fun v5 I5 H5 L5 hp5 hW hS => ?_)
      obtain ⟨hF5, hO, hc5⟩ := hp5
      have hF := dkF_call hF hF5 rfl
      rcases hc5 with ⟨dv5, a5_0, -⟩ | hc5
      ·
        have d6 : dkN [(-2147483648, -1), (11, 2147483647)] p1 := dkN_eq1 (dkN_top p1) a5_0 rfl rfl
        refine lv_if_eq (tgt := 25) hx hb dX5_asleep_14 (by decide) (fun c7 => ?_) (fun c7 => ?_)
        ·
          refine lv_ldc (v := (-1000001)) hx hb hown (hts (.constant RX5 70 (-1000001)) (List.mem_of_getElem? (i := 1) rfl)) dX5_asleep_25 ?_
          exact W.iret (v := (-1000001)) hx hb hr (fun t ht hW9 => ⟨⟨(-1000001), I5, rfl, ⟨hF, hO, ⟨trivial, trivial⟩⟩, dkW_eq ht hW⟩, hS.F ht⟩) hS.2.2 dX5_asleep_27
        ·
          exact (dkN_nil (show dkN [] v5 from dkN_ne1 (0) dv5 (dkN_lit (x := 0) (0) rfl) (dk_ne c7) rfl)).elim
      ·
        obtain ⟨dv5, a5_0, -⟩ := hc5
        have d8 : dkN [(0, 10)] p1 := dkN_eq1 (dkN_top p1) a5_0 rfl rfl
        refine lv_if_eq (tgt := 25) hx hb dX5_asleep_14 (by decide) (fun c9 => ?_) (fun c9 => ?_)
        ·
          exact (dkN_nil (show dkN [] v5 from dkN_eq1 dv5 (dkN_lit (x := 0) (0) rfl) (congrArg Int32.toInt c9) rfl)).elim
        ·
          refine lv_iload_n hx hb dX5_asleep_17 rfl (lv_at hl 3 rfl) ?_
          refine lv_iconst (v := 1) hx hb dX5_asleep_18 (by decide) ?_
          refine dk_Si (As := [.int p2, .int 1]) (rest := []) ⟨hx, hb, hml, hown, hts⟩ (c_X5_isUpTo_5 l g z I5 p2 1 (dkN_lit (x := 1) (1) rfl) hO) (va_cwS 2 hts gX5_asleep_X5_isUpTo rfl rfl rfl (by decide +kernel) ⟨Nat.le_of_ble_eq_true rfl, Nat.le_of_ble_eq_true rfl⟩) hK hT hW hS rfl hl.1 rfl (Nat.le_of_ble_eq_true rfl) dX5_asleep_19 ⟨Nat.zero_le _, Nat.zero_le _⟩ (fun v10 I10 H10 L10 hp10 hW hS => ?_)
          obtain ⟨hF10, hO, hc10⟩ := hp10
          have hF := dkF_call hF hF10 rfl
          rcases hc10 with ⟨dv10, a10_0, -⟩ | hc10
          ·
            have d11 : dkN [(-2147483648, -1), (2, 2147483647)] p2 := dkN_eq1 (dkN_top p2) a10_0 rfl rfl
            refine lv_if_ne (tgt := 28) hx hb dX5_asleep_22 (by decide) (fun c12 => ?_) (fun c12 => ?_)
            ·
              exact (dkN_nil (show dkN [] v10 from dkN_ne1 (0) dv10 (dkN_lit (x := 0) (0) rfl) (dk_ne c12) rfl)).elim
            ·
              refine lv_ldc (v := (-1000001)) hx hb hown (hts (.constant RX5 70 (-1000001)) (List.mem_of_getElem? (i := 1) rfl)) dX5_asleep_25 ?_
              exact W.iret (v := (-1000001)) hx hb hr (fun t ht hW9 => ⟨⟨(-1000001), I10, rfl, ⟨hF, hO, ⟨trivial, trivial⟩⟩, dkW_eq ht hW⟩, hS.F ht⟩) hS.2.2 dX5_asleep_27
          ·
            obtain ⟨dv10, a10_0, -⟩ := hc10
            have d13 : dkN [(0, 1)] p2 := dkN_eq1 (dkN_top p2) a10_0 rfl rfl
            refine lv_if_ne (tgt := 28) hx hb dX5_asleep_22 (by decide) (fun c14 => ?_) (fun c14 => ?_)
            ·
              refine lv_aload_n hx hb dX5_asleep_28 rfl (lv_at hl 0 rfl) ?_
              refine dk_get (k := 0) hx hb hts iX5_asleep_5 hown hK (dk_at0 hW) rfl 8 (by decide) (hts (.fieldLink RX5 51 "DogKings" "seer" "LDogKings$Seer;") (List.mem_of_getElem? (i := 2) rfl)) rfl dX5_asleep_29 ?_
              refine lv_iload_n hx hb dX5_asleep_32 rfl (lv_at hl 1 rfl) ?_
              refine lv_iload_n hx hb dX5_asleep_33 rfl (lv_at hl 2 rfl) ?_
              refine dk_Vi (As := [.int p0, .int p1]) (rest := []) ⟨hx, hb, hml, hown, hts⟩ (c_X3_chancesAsleep_0 l g z I10 p0 p1 d3 d8 hO) (cwV 2 hts gX5_asleep_X3_chancesAsleep rfl rfl rfl (by decide +kernel) ⟨Nat.le_of_ble_eq_true rfl, Nat.le_of_ble_eq_true rfl⟩) (dk_at325 hW) rfl hK hT hW hS rfl hl.1 rfl (Nat.le_of_ble_eq_true rfl) dX5_asleep_34 ⟨Nat.zero_le _, Nat.zero_le _⟩ (fun v15 I15 H15 L15 hp15 hW hS => ?_)
              obtain ⟨hF15, hO, hc15⟩ := hp15
              have hF := dkF_call hF hF15 rfl
              obtain ⟨_, -⟩ := hc15
              refine lv_istore (lv' := [(4, .int v15), (0, .ref (z + 0)), (1, .int p0), (2, .int p1), (3, .int p2)]) hx hb dX5_asleep_37 hl (by decide) rfl (fun ls hl => ?_)
              refine lv_bipush (v := 10) hx hb dX5_asleep_39 (by decide) ?_
              refine lv_aload_n hx hb dX5_asleep_41 rfl (lv_at hl 1 rfl) ?_
              refine dk_get (k := 0) hx hb hts iX5_asleep_5 hown hK (dk_at0 hW) rfl 5 (by decide) (hts (.fieldLink RX5 31 "DogKings" "now" "LDogKings$Town;") (List.mem_of_getElem? (i := 3) rfl)) rfl dX5_asleep_42 ?_
              refine dk_get (k := 25) hx hb hts iX5_asleep_4 hown hK (dk_at25 hW) rfl 11 (by decide) (hts (.fieldLink RX5 120 "DogKings$Town" "dogs" "I") (List.mem_of_getElem? (i := 4) rfl)) rfl dX5_asleep_45 ?_
              refine lv_topi (fun v16 ev16 => ?_)
              have dv16 : dkN [(0, 6)] v16 := by rw [ev16]; exact (hO 25 11)
              refine dk_Si (As := [.int 10, .int v16]) (rest := []) ⟨hx, hb, hml, hown, hts⟩ (c_X5_power_2 l g z I15 10 v16 (dkN_lit (x := 10) (10) rfl) dv16 hO) (va_cwS 2 hts gX5_asleep_X5_power rfl rfl rfl (by decide +kernel) ⟨Nat.le_of_ble_eq_true rfl, Nat.le_of_ble_eq_true rfl⟩) hK hT hW hS rfl hl.1 rfl (Nat.le_of_ble_eq_true rfl) dX5_asleep_48 ⟨Nat.zero_le _, Nat.zero_le _⟩ (fun v17 I17 H17 L17 hp17 hW hS => ?_)
              obtain ⟨hF17, hO, hc17⟩ := hp17
              have hF := dkF_call hF hF17 rfl
              obtain ⟨_, -⟩ := hc17
              refine lv_istore (lv' := [(5, .int v17), (4, .int v15), (0, .ref (z + 0)), (1, .int p0), (2, .int p1), (3, .int p2)]) hx hb dX5_asleep_51 hl (by decide) rfl (fun ls hl => ?_)
              refine lv_iconst (v := 1) hx hb dX5_asleep_53 (by decide) ?_
              refine lv_iload hx hb dX5_asleep_54 (lv_at hl 1 rfl) ?_
              refine lv_iload hx hb dX5_asleep_56 (lv_at hl 0 rfl) ?_
              refine dk_Si (As := [.int v15, .int v17]) (rest := [.int 1]) ⟨hx, hb, hml, hown, hts⟩ (c_X5_commonDivisor_0 l g z I17 v15 v17 hO) (va_cwS 2 hts gX5_asleep_X5_commonDivisor rfl rfl rfl (by decide +kernel) ⟨Nat.le_of_ble_eq_true rfl, Nat.le_of_ble_eq_true rfl⟩) hK hT hW hS rfl hl.1 rfl (Nat.le_of_ble_eq_true rfl) dX5_asleep_58 ⟨Nat.zero_le _, Nat.zero_le _⟩ (fun v18 I18 H18 L18 hp18 hW hS => ?_)
              obtain ⟨hF18, hO, hc18⟩ := hp18
              have hF := dkF_call hF hF18 rfl
              obtain ⟨_, -⟩ := hc18
              refine va_mmax hx hb (by rw [hml]; exact hl.1.symm) hown (hts (.methodLink RX5 243 Lib.Math.max.name) (List.mem_of_getElem? (i := 5) rfl)) (hts (.static Lib.Math.max.name) (List.mem_of_getElem? (i := 6) rfl)) (hts (.initialized "java/lang/Math") (List.mem_of_getElem? (i := 7) rfl)) (hts (.code Lib.Math.max.name Lib.Math.max.code 2 (some .int)) (List.mem_of_getElem? (i := 8) rfl)) (Nat.le_of_ble_eq_true rfl) (Nat.le_of_ble_eq_true rfl) (Nat.zero_le _) (Nat.zero_le _) dX5_asleep_61 ?_
              refine lv_topi (fun v19 ev19 => ?_)
              have dv19 : dkN [(1, 2147483647)] v19 := by rw [ev19]; exact dkN_max (dkN_lit (x := 1) (1) rfl) (dkN_top v18) rfl
              refine lv_istore (lv' := [(6, .int v19), (5, .int v17), (4, .int v15), (0, .ref (z + 0)), (1, .int p0), (2, .int p1), (3, .int p2)]) hx hb dX5_asleep_64 hl (by decide) rfl (fun ls hl => ?_)
              refine lv_iload_n hx hb dX5_asleep_66 rfl (lv_at hl 6 rfl) ?_
              refine lv_if_ne (tgt := 75) hx hb dX5_asleep_67 (by decide) (fun c20 => ?_) (fun c20 => ?_)
              ·
                have d21 : dkN [(1, 1)] p2 := dkN_ne1 (0) d13 (dkN_lit (x := 0) (0) rfl) (dk_ne c20) rfl
                refine lv_iload hx hb dX5_asleep_75 (lv_at hl 1 rfl) ?_
                refine lv_iload hx hb dX5_asleep_77 (lv_at hl 0 rfl) ?_
                refine lv_idiv hx hb dX5_asleep_79 (dkN_ne0 dv19 rfl) ?_
                refine lv_topi (fun v22 ev22 => ?_)
                exact W.iret (v := v22) hx hb hr (fun t ht hW9 => ⟨⟨v22, I18, rfl, ⟨hF, hO, ⟨trivial, trivial⟩⟩, dkW_eq ht hW⟩, hS.F ht⟩) hS.2.2 dX5_asleep_80
              ·
                have d23 : dkN [(0, 0)] p2 := dkN_eq1 d13 (dkN_lit (x := 0) (0) rfl) (congrArg Int32.toInt c20) rfl
                refine lv_iload hx hb dX5_asleep_70 (lv_at hl 2 rfl) ?_
                refine lv_goto (tgt := 77) hx hb dX5_asleep_72 (by decide) ?_
                refine lv_iload hx hb dX5_asleep_77 (lv_at hl 0 rfl) ?_
                refine lv_idiv hx hb dX5_asleep_79 (dkN_ne0 dv19 rfl) ?_
                refine lv_topi (fun v24 ev24 => ?_)
                exact W.iret (v := v24) hx hb hr (fun t ht hW9 => ⟨⟨v24, I18, rfl, ⟨hF, hO, ⟨trivial, trivial⟩⟩, dkW_eq ht hW⟩, hS.F ht⟩) hS.2.2 dX5_asleep_80
            ·
              exact (dkN_nil (show dkN [] v10 from dkN_eq1 dv10 (dkN_lit (x := 0) (0) rfl) (congrArg Int32.toInt c14) rfl)).elim
set_option maxHeartbeats 4000000 in
set_option maxRecDepth 100000 in
theorem c_X6_in_18 (l : Launch) (g : dkG) (z : Nat) (I0 : dkI) (p0 : Int32) (p1 : Int32) (p2 : Int32) (dp1 : dkN [(0, 0)] p1) (dp2 : dkN [(10, 10)] p2)  (hO : dkOk I0) : Met l yX6_in wsX6_in (dkR 0) (dkPc g z [.int p0, .int p1, .int p2] I0) (dkQi g z (fun r I1 => dkF [] I0 I1 ∧ dkOk I1 ∧ ((dkN [(0, 0)] r ∧ dkN [(-2147483648, -1), (11, 2147483647)] p0 ∧ True) ∨ (dkN [(1, 1)] r ∧ dkN [(0, 10)] p0 ∧ True)))) 0 0 (dkA z) := by
  refine Met.ofW (cc := cX6_in) (maxL := 3) (ret := (some .boolean)) (by decide) rfl ?_
  intro p e s m args below meth c s₁ B hml hv
  obtain ⟨ha, hW, hK, hT⟩ := hv
  have hx := B.exec
  have hb := B.bytes
  have hr := B.returns
  have hts := atoms_spec (ws := wsX6_in) B.pre
  have hown : s.vm.findClass RX6 = some m.cls := findClass_of_methodNamed B.named
  have hlocks := B.notSynchronized
  have hS : va_S (dkA z) s.heap s.heap [] := va_S.rf
  have hF : dkF [] I0 I0 := dkF_rf _ _
  have hl := lv_entry ([.int p0, .int p1, .int p2]) (n := 3) (Nat.le_of_ble_eq_true rfl)
  have hgo : entryFrame m args 3 = entryFrame m ([.int p0, .int p1, .int p2] : List Value).toArray 3 := by rw [ha]
  rw [hgo, lg_entry_eq]
  generalize (lg_sl ([.int p0, .int p1, .int p2]) ++ List.replicate (3 - (lg_sl ([.int p0, .int p1, .int p2])).length) Slot.unset).toArray = ls at hl ⊢
  have hl : lv_has ls 3 [(0, .int p0), (1, .int p1), (2, .int p2)] := hl
  refine lv_iload_n hx hb dX6_in_0 rfl (lv_at hl 0 rfl) ?_
  refine lv_iload_n hx hb dX6_in_1 rfl (lv_at hl 1 rfl) ?_
  refine lv_icmp_lt (tgt := 14) hx hb dX6_in_2 (by decide) (fun c1 => ?_) (fun c1 => ?_)
  ·
    have d2 : dkN [(-2147483648, -1)] p0 := dkN_le1 1 (dkN_top p0) dp1 (dkc_lt c1) rfl
    refine lv_iconst (v := 0) hx hb dX6_in_14 (by decide) ?_
    exact W.zret (v := 0) (ty := .boolean) hx hb hr rfl (fun t ht hW9 => ⟨⟨0, I0, rfl, ⟨hF, hO, Or.inl ⟨dkN_sub (dkN_lit (x := 0) (0) rfl) rfl, dkN_sub d2 rfl, trivial⟩⟩, dkW_eq ht hW⟩, hS.F ht⟩) hS.2.2 dX6_in_15
  ·
    have d3 : dkN [(0, 2147483647)] p0 := dkN_le2 0 dp1 (dkN_top p0) (dkc_nlt c1) rfl
    refine lv_iload_n hx hb dX6_in_5 rfl (lv_at hl 0 rfl) ?_
    refine lv_iload_n hx hb dX6_in_6 rfl (lv_at hl 2 rfl) ?_
    refine lv_icmp_gt (tgt := 14) hx hb dX6_in_7 (by decide) (fun c4 => ?_) (fun c4 => ?_)
    ·
      have d5 : dkN [(11, 2147483647)] p0 := dkN_le2 1 dp2 d3 (dkc_lt c4) rfl
      refine lv_iconst (v := 0) hx hb dX6_in_14 (by decide) ?_
      exact W.zret (v := 0) (ty := .boolean) hx hb hr rfl (fun t ht hW9 => ⟨⟨0, I0, rfl, ⟨hF, hO, Or.inl ⟨dkN_sub (dkN_lit (x := 0) (0) rfl) rfl, dkN_sub d5 rfl, trivial⟩⟩, dkW_eq ht hW⟩, hS.F ht⟩) hS.2.2 dX6_in_15
    ·
      have d6 : dkN [(0, 10)] p0 := dkN_le1 0 d3 dp2 (dkc_nlt c4) rfl
      refine lv_iconst (v := 1) hx hb dX6_in_10 (by decide) ?_
      refine lv_goto (tgt := 15) hx hb dX6_in_11 (by decide) ?_
      exact W.zret (v := 1) (ty := .boolean) hx hb hr rfl (fun t ht hW9 => ⟨⟨1, I0, rfl, ⟨hF, hO, Or.inr (⟨dkN_sub (dkN_lit (x := 1) (1) rfl) rfl, dkN_sub d6 rfl, trivial⟩)⟩, dkW_eq ht hW⟩, hS.F ht⟩) hS.2.2 dX6_in_15
