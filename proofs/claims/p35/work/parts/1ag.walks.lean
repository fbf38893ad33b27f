set_option maxHeartbeats 4000000 in
set_option maxRecDepth 100000 in
theorem c_X6_master_1 (l : Launch) (g : dkG) (z : Nat) (I0 : dkI) (p0 : Int32) (dp0 : dkN [(0, 5)] p0)  (hO : dkOk I0) : Met l yX6_master wsX6_master (dkR 2) (dkPc g z [.ref (z + 348), .int p0] I0) (dkQi g z (fun r I1 => dkF [] I0 I1 ∧ dkOk I1 ∧ ((dkN [(-1000000, -1000000), (0, 4)] r ∧ True)))) 0 0 (dkA z) := by
  refine Met.ofW (cc := cX6_master) (maxL := 4) (ret := (some .int)) (by decide) rfl ?_
  intro p e s m args below meth c s₁ B hml hv
  obtain ⟨ha, hW, hK, hT⟩ := hv
  have hx := B.exec
  have hb := B.bytes
  have hr := B.returns
  have hts := atoms_spec (ws := wsX6_master) B.pre
  have hown : s.vm.findClass RX6 = some m.cls := findClass_of_methodNamed B.named
  have hlocks := B.notSynchronized
  have hS : va_S (dkA z) s.heap s.heap [] := va_S.rf
  have hF : dkF [] I0 I0 := dkF_rf _ _
  have hl := lv_entry ([.ref (z + 348), .int p0]) (n := 4) (Nat.le_of_ble_eq_true rfl)
  have hgo : entryFrame m args 4 = entryFrame m ([.ref (z + 348), .int p0] : List Value).toArray 4 := by rw [ha]
  rw [hgo, lg_entry_eq]
  generalize (lg_sl ([.ref (z + 348), .int p0]) ++ List.replicate (4 - (lg_sl ([.ref (z + 348), .int p0])).length) Slot.unset).toArray = ls at hl ⊢
  have hl : lv_has ls 4 [(0, .ref (z + 348)), (1, .int p0)] := hl
  have C4 : ∀ (n : Nat), ∀ (I : dkI) (H : Heap) (locs : List Loc) (ls : Array Slot) (x4_2 : Int32) (x4_3 : Int32), (5 - x4_3.toInt).toNat < n → dkW g z I H → va_S (dkA z) s.heap H locs → dkF [] I0 I → dkOk I → dkN [(0, 4)] x4_2 → dkN [(1, 5)] x4_3 → lv_has ls 4 [(0, .ref (z + 348)), (1, .int p0), (2, .int x4_2), (3, .int x4_3)] → W p l e (headSpec wsX6_master (dkR 2)).room s m args below meth c H locs 0 0 (MQ below (dkQi g z (fun r I1 => dkF [] I0 I1 ∧ dkOk I1 ∧ ((dkN [(-1000000, -1000000), (0, 4)] r ∧ True)))) args s 0 0 (dkA z)) (F0 m 4 ls []) := by
    intro n
    induction n with
    | zero => intro I H locs ls x4_2 x4_3 hn; exact absurd hn (Nat.not_lt_zero _)
    | succ n ih4 =>
      intro I4_ H locs ls x4_2 x4_3 hn4 hW hS hF_4 hO k4_0 k4_1 hl
      have hF := hF_4
      have C31 : ∀ (I : dkI) (H : Heap) (locs : List Loc) (ls : Array Slot) (x31_s0 : Int32), dkW g z I H → va_S (dkA z) s.heap H locs → dkF [] I0 I → dkOk I → dkN [(0, 4)] x31_s0 → dkN [(0, 4)] x4_2 → dkN [(1, 4)] x4_3 → dkN [(2, 5)] (I 348 4) → lv_has ls 4 [(0, .ref (z + 348)), (1, .int p0), (2, .int x4_2), (3, .int x4_3)] → W p l e (headSpec wsX6_master (dkR 2)).room s m args below meth c H locs 0 0 (MQ below (dkQi g z (fun r I1 => dkF [] I0 I1 ∧ dkOk I1 ∧ ((dkN [(-1000000, -1000000), (0, 4)] r ∧ True)))) args s 0 0 (dkA z)) (F0 m 31 ls [.int x31_s0]) := by
        intro I31_ H locs ls x31_s0 hW hS hF_31 hO k31_0 r31_0 r31_1 f31_0 hl
        have hF := hF_31
        refine lv_istore_n (lv' := [(2, .int x31_s0), (0, .ref (z + 348)), (1, .int p0), (3, .int x4_3)]) hx hb dX6_master_31 rfl hl (by decide) rfl (fun ls hl => ?_)
        obtain ⟨v1, ev1⟩ : ∃ y : Int32, y = x4_3 + 1 := ⟨_, rfl⟩
        have dv1 : dkN [(2, 5)] v1 := by rw [ev1]; exact dkN_add r31_1 (dkN_lit (x := 1) (1) rfl) rfl
        refine lv_iinc (v := v1) (lv' := [(3, .int v1), (2, .int x31_s0), (0, .ref (z + 348)), (1, .int p0)]) hx hb dX6_master_32 hl (k := 3) rfl (by rw [ev1]; rfl) (by decide) rfl (fun ls hl => ?_)
        refine lv_goto (tgt := 4) hx hb dX6_master_35 (by decide) ?_
        exact ih4 I31_ _ _ ls x31_s0 v1 (dk_near hn4 (by rw [ev1]; exact dk_inc r31_1 rfl) (dkN_lt r31_1 rfl)) hW hS hF hO (dkN_sub k31_0 rfl) (dkN_sub dv1 rfl) (lv_sub hl [2, 3, 1, 0] rfl)
      refine lv_iload_n hx hb dX6_master_4 rfl (lv_at hl 3 rfl) ?_
      refine lv_aload_n hx hb dX6_master_5 rfl (lv_at hl 0 rfl) ?_
      refine lv_iconst (v := 4) hx hb dX6_master_6 (by decide) ?_
      refine dk_ild (k := 348) hx hb hK (dk_at348 hW) (dkN_in (n := 54) (dkN_lit (x := 4) (4) rfl) rfl) dX6_master_7 ?_
      refine lv_topi (fun v2 ev2 => ?_)
      have ev2 : v2 = I4_ 348 4 := ev2
      have dv2 : dkN [(0, 5)] v2 := by rw [ev2]; exact (show dkN [(0, 5)] (I4_ 348 4) from (hO 348 4))
      refine lv_icmp_ge (tgt := 38) hx hb dX6_master_8 (by decide) (fun c3 => ?_) (fun c3 => ?_)
      ·
        refine lv_aload_n hx hb dX6_master_38 rfl (lv_at hl 0 rfl) ?_
        refine lv_bipush (v := 36) hx hb dX6_master_39 (by decide) ?_
        refine lv_iconst (v := 3) hx hb dX6_master_41 (by decide) ?_
        refine lv_iload_n hx hb dX6_master_42 rfl (lv_at hl 1 rfl) ?_
        refine lv_imul hx hb dX6_master_43 ?_
        refine lv_topi (fun v4 ev4 => ?_)
        have dv4 : dkN [(0, 0), (3, 3), (6, 6), (9, 9), (12, 12), (15, 15)] v4 := by rw [ev4]; exact dkN_mulPt 3 (dkN_lit (x := 3) (3) rfl) dp0 rfl
        refine lv_iadd hx hb dX6_master_44 ?_
        refine lv_topi (fun v5 ev5 => ?_)
        have dv5 : dkN [(36, 36), (39, 39), (42, 42), (45, 45), (48, 48), (51, 51)] v5 := by rw [ev5]; exact dkN_add (dkN_lit (x := 36) (36) rfl) dv4 rfl
        refine dk_ild (k := 348) hx hb hK (dk_at348 hW) (dkN_in (n := 54) dv5 rfl) dX6_master_45 ?_
        refine lv_topi (fun v6 ev6 => ?_)
        refine lv_istore_n (lv' := [(3, .int v6), (0, .ref (z + 348)), (1, .int p0), (2, .int x4_2)]) hx hb dX6_master_46 rfl hl (by decide) rfl (fun ls hl => ?_)
        refine lv_iload_n hx hb dX6_master_47 rfl (lv_at hl 0 rfl) ?_
        refine lv_iconst (v := 3) hx hb dX6_master_48 (by decide) ?_
        refine lv_icmp_gt (tgt := 66) hx hb dX6_master_49 (by decide) (fun c7 => ?_) (fun c7 => ?_)
        ·
          have d8 : dkN [(4, 2147483647)] v6 := dkN_le2 1 (dkN_lit (x := 3) (3) rfl) (dkN_top v6) (dkc_lt c7) rfl
          refine lv_ldc (v := (-1000000)) hx hb hown (hts (.constant RX6 50 (-1000000)) (List.mem_of_getElem? (i := 1) rfl)) dX6_master_66 ?_
          refine lv_goto (tgt := 72) hx hb dX6_master_68 (by decide) ?_
          exact W.iret (v := (-1000000)) hx hb hr (fun t ht hW9 => ⟨⟨(-1000000), I4_, rfl, ⟨hF, hO, ⟨dkN_sub (dkN_lit (x := (-1000000)) (-1000000) rfl) rfl, trivial⟩⟩, dkW_eq ht hW⟩, hS.F ht⟩) hS.2.2 dX6_master_72
        ·
          have d9 : dkN [(-2147483648, 3)] v6 := dkN_le1 0 (dkN_top v6) (dkN_lit (x := 3) (3) rfl) (dkc_nlt c7) rfl
          refine lv_iload_n hx hb dX6_master_52 rfl (lv_at hl 0 rfl) ?_
          refine lv_iconst (v := 3) hx hb dX6_master_53 (by decide) ?_
          refine lv_icmp_ne (tgt := 71) hx hb dX6_master_54 (by decide) (fun c10 => ?_) (fun c10 => ?_)
          ·
            have d11 : dkN [(-2147483648, 2)] v6 := dkN_ne1 (3) d9 (dkN_lit (x := 3) (3) rfl) (dk_ne c10) rfl
            refine lv_iload_n hx hb dX6_master_71 rfl (lv_at hl 3 rfl) ?_
            exact W.iret (v := x4_2) hx hb hr (fun t ht hW9 => ⟨⟨x4_2, I4_, rfl, ⟨hF, hO, ⟨dkN_sub k4_0 rfl, trivial⟩⟩, dkW_eq ht hW⟩, hS.F ht⟩) hS.2.2 dX6_master_72
          ·
            have d12 : dkN [(3, 3)] v6 := dkN_eq1 d9 (dkN_lit (x := 3) (3) rfl) (congrArg Int32.toInt c10) rfl
            refine lv_aload_n hx hb dX6_master_57 rfl (lv_at hl 1 rfl) ?_
            refine lv_iload_n hx hb dX6_master_58 rfl (lv_at hl 2 rfl) ?_
            refine lv_iload_n hx hb dX6_master_59 rfl (lv_at hl 3 rfl) ?_
            refine dk_Si (As := [.ref (z + 348), .int p0, .int x4_2]) (rest := []) ⟨hx, hb, hml, hown, hts⟩ (c_X6_pull_1 l g z I4_ p0 x4_2 dp0 k4_0 hO) (va_cwS 3 hts gX6_master_X6_pull rfl rfl rfl (by decide +kernel) ⟨Nat.le_of_ble_eq_true rfl, Nat.le_of_ble_eq_true rfl⟩) hK hT hW hS rfl hl.1 rfl (Nat.le_of_ble_eq_true rfl) dX6_master_60 ⟨Nat.zero_le _, Nat.zero_le _⟩ (fun v13 I13 H13 L13 hp13 hW hS => ?_)
            obtain ⟨hF13, hO, hc13⟩ := hp13
            have hF := dkF_call hF hF13 rfl
            obtain ⟨_, -⟩ := hc13
            refine lv_if_gt (tgt := 71) hx hb dX6_master_63 (by decide) (fun c14 => ?_) (fun c14 => ?_)
            ·
              have d15 : dkN [(1, 2147483647)] v13 := dkN_le2 1 (dkN_lit (x := 0) (0) rfl) (dkN_top v13) (dkc_lt c14) rfl
              refine lv_iload_n hx hb dX6_master_71 rfl (lv_at hl 3 rfl) ?_
              exact W.iret (v := x4_2) hx hb hr (fun t ht hW9 => ⟨⟨x4_2, I13, rfl, ⟨hF, hO, ⟨dkN_sub k4_0 rfl, trivial⟩⟩, dkW_eq ht hW⟩, hS.F ht⟩) hS.2.2 dX6_master_72
            ·
              have d16 : dkN [(-2147483648, 0)] v13 := dkN_le1 0 (dkN_top v13) (dkN_lit (x := 0) (0) rfl) (dkc_nlt c14) rfl
              refine lv_ldc (v := (-1000000)) hx hb hown (hts (.constant RX6 50 (-1000000)) (List.mem_of_getElem? (i := 1) rfl)) dX6_master_66 ?_
              refine lv_goto (tgt := 72) hx hb dX6_master_68 (by decide) ?_
              exact W.iret (v := (-1000000)) hx hb hr (fun t ht hW9 => ⟨⟨(-1000000), I13, rfl, ⟨hF, hO, ⟨dkN_sub (dkN_lit (x := (-1000000)) (-1000000) rfl) rfl, trivial⟩⟩, dkW_eq ht hW⟩, hS.F ht⟩) hS.2.2 dX6_master_72
      ·
        have d17 : dkN [(2, 5)] v2 := dkN_le2 1 k4_1 dv2 (dkc_nle c3) rfl
        have f18 : dkN [(2, 5)] (I4_ 348 4) := by rw [← ev2]; exact d17
        have d19 : dkN [(1, 4)] x4_3 := dkN_le1 1 k4_1 dv2 (dkc_nle c3) rfl
        refine lv_aload_n hx hb dX6_master_11 rfl (lv_at hl 0 rfl) ?_
        refine lv_iload_n hx hb dX6_master_12 rfl (lv_at hl 1 rfl) ?_
        refine lv_iload_n hx hb dX6_master_13 rfl (lv_at hl 3 rfl) ?_
        refine dk_Si (As := [.ref (z + 348), .int p0, .int x4_3]) (rest := []) ⟨hx, hb, hml, hown, hts⟩ (c_X6_pull_1 l g z I4_ p0 x4_3 dp0 (dkN_sub d19 rfl) hO) (va_cwS 3 hts gX6_master_X6_pull rfl rfl rfl (by decide +kernel) ⟨Nat.le_of_ble_eq_true rfl, Nat.le_of_ble_eq_true rfl⟩) hK hT hW hS rfl hl.1 rfl (Nat.le_of_ble_eq_true rfl) dX6_master_14 ⟨Nat.zero_le _, Nat.zero_le _⟩ (fun v20 I20 H20 L20 hp20 hW hS => ?_)
        obtain ⟨hF20, hO, hc20⟩ := hp20
        have hF := dkF_call hF hF20 rfl
        obtain ⟨_, -⟩ := hc20
        refine lv_aload_n hx hb dX6_master_17 rfl (lv_at hl 0 rfl) ?_
        refine lv_iload_n hx hb dX6_master_18 rfl (lv_at hl 1 rfl) ?_
        refine lv_iload_n hx hb dX6_master_19 rfl (lv_at hl 2 rfl) ?_
        refine dk_Si (As := [.ref (z + 348), .int p0, .int x4_2]) (rest := [.int v20]) ⟨hx, hb, hml, hown, hts⟩ (c_X6_pull_1 l g z I20 p0 x4_2 dp0 k4_0 hO) (va_cwS 3 hts gX6_master_X6_pull rfl rfl rfl (by decide +kernel) ⟨Nat.le_of_ble_eq_true rfl, Nat.le_of_ble_eq_true rfl⟩) hK hT hW hS rfl hl.1 rfl (Nat.le_of_ble_eq_true rfl) dX6_master_20 ⟨Nat.zero_le _, Nat.zero_le _⟩ (fun v21 I21 H21 L21 hp21 hW hS => ?_)
        obtain ⟨hF21, hO, hc21⟩ := hp21
        have hF := dkF_call hF hF21 rfl
        obtain ⟨_, -⟩ := hc21
        refine lv_icmp_le (tgt := 30) hx hb dX6_master_23 (by decide) (fun c22 => ?_) (fun c22 => ?_)
        ·
          refine lv_iload_n hx hb dX6_master_30 rfl (lv_at hl 2 rfl) ?_
          exact C31 I21 _ _ ls x4_2 hW hS hF hO (dkN_sub k4_0 rfl) (dkN_sub k4_0 rfl) (dkN_sub d19 rfl) (show dkN [(2, 5)] (I21 348 4) from dkN_sub (by rw [hF21 348 4 rfl]; exact (by rw [hF20 348 4 rfl]; exact f18)) rfl) (lv_sub hl [0, 1, 2, 3] rfl)
        ·
          have d23 : dkN [(-2147483647, 2147483647)] v20 := dkN_le2 1 (dkN_top v21) (dkN_top v20) (dkc_nle c22) rfl
          have d24 : dkN [(-2147483648, 2147483646)] v21 := dkN_le1 1 (dkN_top v21) (dkN_top v20) (dkc_nle c22) rfl
          refine lv_iload_n hx hb dX6_master_26 rfl (lv_at hl 3 rfl) ?_
          refine lv_goto (tgt := 31) hx hb dX6_master_27 (by decide) ?_
          exact C31 I21 _ _ ls x4_3 hW hS hF hO (dkN_sub d19 rfl) (dkN_sub k4_0 rfl) (dkN_sub d19 rfl) (show dkN [(2, 5)] (I21 348 4) from dkN_sub (by rw [hF21 348 4 rfl]; exact (by rw [hF20 348 4 rfl]; exact f18)) rfl) (lv_sub hl [0, 1, 2, 3] rfl)
  refine lv_iconst (v := 0) hx hb dX6_master_0 (by decide) ?_
  refine lv_istore_n (lv' := [(2, .int 0), (0, .ref (z + 348)), (1, .int p0)]) hx hb dX6_master_1 rfl hl (by decide) rfl (fun ls hl => ?_)
  refine lv_iconst (v := 1) hx hb dX6_master_2 (by decide) ?_
  refine lv_istore_n (lv' := [(3, .int 1), (2, .int 0), (0, .ref (z + 348)), (1, .int p0)]) hx hb dX6_master_3 rfl hl (by decide) rfl (fun ls hl => ?_)
  exact C4 _ I0 _ _ ls 0 1 (Nat.lt_succ_self _) hW hS hF hO (dkN_sub (dkN_lit (x := 0) (0) rfl) rfl) (dkN_sub (dkN_lit (x := 1) (1) rfl) rfl) (lv_sub hl [2, 3, 1, 0] rfl)
set_option maxHeartbeats 4000000 in
set_option maxRecDepth 100000 in
theorem c_X6_othersIn_1 (l : Launch) (g : dkG) (z : Nat) (I0 : dkI) (p0 : Int32) (p1 : Int32) (p2 : Int32) (dp1 : dkN [(-1000000, 5)] p1)  (hO : dkOk I0) : Met l yX6_othersIn wsX6_othersIn (dkR 1) (dkPc g z [.ref (z + 348), .int p0, .int p1, .int p2] I0) (dkQi g z (fun r I1 => dkF [] I0 I1 ∧ dkOk I1 ∧ ((True ∧ True)))) 0 0 (dkA z) := by
  refine Met.ofW (cc := cX6_othersIn) (maxL := 6) (ret := (some .int)) (by decide) rfl ?_
  intro p e s m args below meth c s₁ B hml hv
  obtain ⟨ha, hW, hK, hT⟩ := hv
  have hx := B.exec
  have hb := B.bytes
  have hr := B.returns
  have hts := atoms_spec (ws := wsX6_othersIn) B.pre
  have hown : s.vm.findClass RX6 = some m.cls := findClass_of_methodNamed B.named
  have hlocks := B.notSynchronized
  have hS : va_S (dkA z) s.heap s.heap [] := va_S.rf
  have hF : dkF [] I0 I0 := dkF_rf _ _
  have hl := lv_entry ([.ref (z + 348), .int p0, .int p1, .int p2]) (n := 6) (Nat.le_of_ble_eq_true rfl)
  have hgo : entryFrame m args 6 = entryFrame m ([.ref (z + 348), .int p0, .int p1, .int p2] : List Value).toArray 6 := by rw [ha]
  rw [hgo, lg_entry_eq]
  generalize (lg_sl ([.ref (z + 348), .int p0, .int p1, .int p2]) ++ List.replicate (6 - (lg_sl ([.ref (z + 348), .int p0, .int p1, .int p2])).length) Slot.unset).toArray = ls at hl ⊢
  have hl : lv_has ls 6 [(0, .ref (z + 348)), (1, .int p0), (2, .int p1), (3, .int p2)] := hl
  have C6 : ∀ (n : Nat), ∀ (I : dkI) (H : Heap) (locs : List Loc) (ls : Array Slot) (x6_4 : Int32) (x6_5 : Int32), (6 - x6_5.toInt).toNat < n → dkW g z I H → va_S (dkA z) s.heap H locs → dkF [] I0 I → dkOk I → dkN [(0, 6)] x6_5 → lv_has ls 6 [(0, .ref (z + 348)), (1, .int p0), (2, .int p1), (3, .int p2), (4, .int x6_4), (5, .int x6_5)] → W p l e (headSpec wsX6_othersIn (dkR 1)).room s m args below meth c H locs 0 0 (MQ below (dkQi g z (fun r I1 => dkF [] I0 I1 ∧ dkOk I1 ∧ ((True ∧ True)))) args s 0 0 (dkA z)) (F0 m 6 ls []) := by
    intro n
    induction n with
    | zero => intro I H locs ls x6_4 x6_5 hn; exact absurd hn (Nat.not_lt_zero _)
    | succ n ih6 =>
      intro I6_ H locs ls x6_4 x6_5 hn6 hW hS hF_6 hO k6_1 hl
      have hF := hF_6
      have C51 : ∀ (I : dkI) (H : Heap) (locs : List Loc) (ls : Array Slot) (x51_s0 : Int32), dkW g z I H → va_S (dkA z) s.heap H locs → dkF [] I0 I → dkOk I → dkN [(0, 1)] x51_s0 → dkN [(0, 5)] x6_5 → dkN [(1, 6)] (I 348 5) → lv_has ls 6 [(0, .ref (z + 348)), (1, .int p0), (2, .int p1), (3, .int p2), (4, .int x6_4), (5, .int x6_5)] → W p l e (headSpec wsX6_othersIn (dkR 1)).room s m args below meth c H locs 0 0 (MQ below (dkQi g z (fun r I1 => dkF [] I0 I1 ∧ dkOk I1 ∧ ((True ∧ True)))) args s 0 0 (dkA z)) (F0 m 51 ls [.int x51_s0, .int x6_4]) := by
        intro I51_ H locs ls x51_s0 hW hS hF_51 hO k51_0 r51_0 f51_0 hl
        have hF := hF_51
        refine lv_iadd hx hb dX6_othersIn_51 ?_
        refine lv_topi (fun v1 ev1 => ?_)
        refine lv_istore (lv' := [(4, .int v1), (0, .ref (z + 348)), (1, .int p0), (2, .int p1), (3, .int p2), (5, .int x6_5)]) hx hb dX6_othersIn_52 hl (by decide) rfl (fun ls hl => ?_)
        obtain ⟨v2, ev2⟩ : ∃ y : Int32, y = x6_5 + 1 := ⟨_, rfl⟩
        have dv2 : dkN [(1, 6)] v2 := by rw [ev2]; exact dkN_add r51_0 (dkN_lit (x := 1) (1) rfl) rfl
        refine lv_iinc (v := v2) (lv' := [(5, .int v2), (4, .int v1), (0, .ref (z + 348)), (1, .int p0), (2, .int p1), (3, .int p2)]) hx hb dX6_othersIn_54 hl (k := 5) rfl (by rw [ev2]; rfl) (by decide) rfl (fun ls hl => ?_)
        refine lv_goto (tgt := 6) hx hb dX6_othersIn_57 (by decide) ?_
        exact ih6 I51_ _ _ ls v1 v2 (dk_near hn6 (by rw [ev2]; exact dk_inc r51_0 rfl) (dkN_lt r51_0 rfl)) hW hS hF hO (dkN_sub dv2 rfl) (lv_sub hl [2, 3, 4, 5, 1, 0] rfl)
      have C50 : ∀ (I : dkI) (H : Heap) (locs : List Loc) (ls : Array Slot), dkW g z I H → va_S (dkA z) s.heap H locs → dkF [] I0 I → dkOk I → dkN [(0, 5)] x6_5 → dkN [(1, 6)] (I 348 5) → lv_has ls 6 [(0, .ref (z + 348)), (1, .int p0), (2, .int p1), (3, .int p2), (4, .int x6_4), (5, .int x6_5)] → W p l e (headSpec wsX6_othersIn (dkR 1)).room s m args below meth c H locs 0 0 (MQ below (dkQi g z (fun r I1 => dkF [] I0 I1 ∧ dkOk I1 ∧ ((True ∧ True)))) args s 0 0 (dkA z)) (F0 m 50 ls [.int x6_4]) := by
        intro I50_ H locs ls hW hS hF_50 hO r50_0 f50_0 hl
        have hF := hF_50
        refine lv_iconst (v := 0) hx hb dX6_othersIn_50 (by decide) ?_
        exact C51 I50_ _ _ ls 0 hW hS hF hO (dkN_sub (dkN_lit (x := 0) (0) rfl) rfl) (dkN_sub r50_0 rfl) (show dkN [(1, 6)] (I50_ 348 5) from dkN_sub f50_0 rfl) (lv_sub hl [0, 1, 2, 3, 4, 5] rfl)
      refine lv_iload hx hb dX6_othersIn_6 (lv_at hl 5 rfl) ?_
      refine lv_aload_n hx hb dX6_othersIn_8 rfl (lv_at hl 0 rfl) ?_
      refine lv_iconst (v := 5) hx hb dX6_othersIn_9 (by decide) ?_
      refine dk_ild (k := 348) hx hb hK (dk_at348 hW) (dkN_in (n := 54) (dkN_lit (x := 5) (5) rfl) rfl) dX6_othersIn_10 ?_
      refine lv_topi (fun v3 ev3 => ?_)
      have ev3 : v3 = I6_ 348 5 := ev3
      have dv3 : dkN [(0, 6)] v3 := by rw [ev3]; exact (show dkN [(0, 6)] (I6_ 348 5) from (hO 348 5))
      refine lv_icmp_ge (tgt := 60) hx hb dX6_othersIn_11 (by decide) (fun c4 => ?_) (fun c4 => ?_)
      ·
        refine lv_iload hx hb dX6_othersIn_60 (lv_at hl 4 rfl) ?_
        exact W.iret (v := x6_4) hx hb hr (fun t ht hW9 => ⟨⟨x6_4, I6_, rfl, ⟨hF, hO, ⟨trivial, trivial⟩⟩, dkW_eq ht hW⟩, hS.F ht⟩) hS.2.2 dX6_othersIn_62
      ·
        have d5 : dkN [(1, 6)] v3 := dkN_le2 1 k6_1 dv3 (dkc_nle c4) rfl
        have f6 : dkN [(1, 6)] (I6_ 348 5) := by rw [← ev3]; exact d5
        have d7 : dkN [(0, 5)] x6_5 := dkN_le1 1 k6_1 dv3 (dkc_nle c4) rfl
        refine lv_iload hx hb dX6_othersIn_14 (lv_at hl 4 rfl) ?_
        refine lv_iload hx hb dX6_othersIn_16 (lv_at hl 5 rfl) ?_
        refine lv_iload_n hx hb dX6_othersIn_18 rfl (lv_at hl 2 rfl) ?_
        refine lv_icmp_eq (tgt := 50) hx hb dX6_othersIn_19 (by decide) (fun c8 => ?_) (fun c8 => ?_)
        ·
          have d9 : dkN [(0, 5)] p1 := dkN_eq1 dp1 d7 (congrArg Int32.toInt c8).symm rfl
          exact C50 I6_ _ _ ls  hW hS hF hO (dkN_sub d7 rfl) (show dkN [(1, 6)] (I6_ 348 5) from dkN_sub f6 rfl) (lv_sub hl [0, 1, 2, 3, 4, 5] rfl)
        ·
          refine lv_iload_n hx hb dX6_othersIn_22 rfl (lv_at hl 3 rfl) ?_
          refine lv_iload hx hb dX6_othersIn_23 (lv_at hl 5 rfl) ?_
          refine dk_Si (As := [.int p2, .int x6_5]) (rest := [.int x6_4]) ⟨hx, hb, hml, hown, hts⟩ (c_X6_has_0 l g z I6_ p2 x6_5 hO) (va_cwS 2 hts gX6_othersIn_X6_has rfl rfl rfl (by decide +kernel) ⟨Nat.le_of_ble_eq_true rfl, Nat.le_of_ble_eq_true rfl⟩) hK hT hW hS rfl hl.1 rfl (Nat.le_of_ble_eq_true rfl) dX6_othersIn_25 ⟨Nat.zero_le _, Nat.zero_le _⟩ (fun v10 I10 H10 L10 hp10 hW hS => ?_)
          obtain ⟨hF10, hO, hc10⟩ := hp10
          have hF := dkF_call hF hF10 rfl
          obtain ⟨dv10, -⟩ := hc10
          refine lv_if_ne (tgt := 50) hx hb dX6_othersIn_28 (by decide) (fun c11 => ?_) (fun c11 => ?_)
          ·
            have d12 : dkN [(1, 1)] v10 := dkN_ne1 (0) dv10 (dkN_lit (x := 0) (0) rfl) (dk_ne c11) rfl
            exact C50 I10 _ _ ls  hW hS hF hO (dkN_sub d7 rfl) (show dkN [(1, 6)] (I10 348 5) from dkN_sub (by rw [hF10 348 5 rfl]; exact f6) rfl) (lv_sub hl [0, 1, 2, 3, 4, 5] rfl)
          ·
            have d13 : dkN [(0, 0)] v10 := dkN_eq1 dv10 (dkN_lit (x := 0) (0) rfl) (congrArg Int32.toInt c11) rfl
            refine lv_aload_n hx hb dX6_othersIn_31 rfl (lv_at hl 0 rfl) ?_
            refine lv_bipush (v := 36) hx hb dX6_othersIn_32 (by decide) ?_
            refine lv_iconst (v := 3) hx hb dX6_othersIn_34 (by decide) ?_
            refine lv_iload hx hb dX6_othersIn_35 (lv_at hl 5 rfl) ?_
            refine lv_imul hx hb dX6_othersIn_37 ?_
            refine lv_topi (fun v14 ev14 => ?_)
            have dv14 : dkN [(0, 0), (3, 3), (6, 6), (9, 9), (12, 12), (15, 15)] v14 := by rw [ev14]; exact dkN_mulPt 3 (dkN_lit (x := 3) (3) rfl) d7 rfl
            refine lv_iadd hx hb dX6_othersIn_38 ?_
            refine lv_topi (fun v15 ev15 => ?_)
            have dv15 : dkN [(36, 36), (39, 39), (42, 42), (45, 45), (48, 48), (51, 51)] v15 := by rw [ev15]; exact dkN_add (dkN_lit (x := 36) (36) rfl) dv14 rfl
            refine lv_iconst (v := 2) hx hb dX6_othersIn_39 (by decide) ?_
            refine lv_iadd hx hb dX6_othersIn_40 ?_
            refine lv_topi (fun v16 ev16 => ?_)
            have dv16 : dkN [(38, 38), (41, 41), (44, 44), (47, 47), (50, 50), (53, 53)] v16 := by rw [ev16]; exact dkN_add dv15 (dkN_lit (x := 2) (2) rfl) rfl
            refine dk_ild (k := 348) hx hb hK (dk_at348 hW) (dkN_in (n := 54) dv16 rfl) dX6_othersIn_41 ?_
            refine lv_topi (fun v17 ev17 => ?_)
            refine lv_iload_n hx hb dX6_othersIn_42 rfl (lv_at hl 1 rfl) ?_
            refine lv_icmp_ne (tgt := 50) hx hb dX6_othersIn_43 (by decide) (fun c18 => ?_) (fun c18 => ?_)
            ·
              exact C50 I10 _ _ ls  hW hS hF hO (dkN_sub d7 rfl) (show dkN [(1, 6)] (I10 348 5) from dkN_sub (by rw [hF10 348 5 rfl]; exact f6) rfl) (lv_sub hl [0, 1, 2, 3, 4, 5] rfl)
            ·
              refine lv_iconst (v := 1) hx hb dX6_othersIn_46 (by decide) ?_
              refine lv_goto (tgt := 51) hx hb dX6_othersIn_47 (by decide) ?_
              exact C51 I10 _ _ ls 1 hW hS hF hO (dkN_sub (dkN_lit (x := 1) (1) rfl) rfl) (dkN_sub d7 rfl) (show dkN [(1, 6)] (I10 348 5) from dkN_sub (by rw [hF10 348 5 rfl]; exact f6) rfl) (lv_sub hl [0, 1, 2, 3, 4, 5] rfl)
  refine lv_iconst (v := 0) hx hb dX6_othersIn_0 (by decide) ?_
  refine lv_istore (lv' := [(4, .int 0), (0, .ref (z + 348)), (1, .int p0), (2, .int p1), (3, .int p2)]) hx hb dX6_othersIn_1 hl (by decide) rfl (fun ls hl => ?_)
  refine lv_iconst (v := 0) hx hb dX6_othersIn_3 (by decide) ?_
  refine lv_istore (lv' := [(5, .int 0), (4, .int 0), (0, .ref (z + 348)), (1, .int p0), (2, .int p1), (3, .int p2)]) hx hb dX6_othersIn_4 hl (by decide) rfl (fun ls hl => ?_)
  exact C6 _ I0 _ _ ls 0 0 (Nat.lt_succ_self _) hW hS hF hO (dkN_sub (dkN_lit (x := 0) (0) rfl) rfl) (lv_sub hl [2, 3, 4, 5, 1, 0] rfl)
set_option maxHeartbeats 4000000 in
set_option maxRecDepth 100000 in
theorem c_X6_aim_1 (l : Launch) (g : dkG) (z : Nat) (I0 : dkI) (p0 : Int32) (p1 : Int32) (dp0 : dkN [(0, 5)] p0)  (hO : dkOk I0) : Met l yX6_aim wsX6_aim (dkR 3) (dkPc g z [.ref (z + 348), .int p0, .int p1] I0) (dkQi g z (fun r I1 => dkF [] I0 I1 ∧ dkOk I1 ∧ ((True ∧ True)))) 0 0 (dkA z) := by
  refine Met.ofW (cc := cX6_aim) (maxL := 7) (ret := (some .int)) (by decide) rfl ?_
  intro p e s m args below meth c s₁ B hml hv
  obtain ⟨ha, hW, hK, hT⟩ := hv
  have hx := B.exec
  have hb := B.bytes
  have hr := B.returns
  have hts := atoms_spec (ws := wsX6_aim) B.pre
  have hown : s.vm.findClass RX6 = some m.cls := findClass_of_methodNamed B.named
  have hlocks := B.notSynchronized
  have hS : va_S (dkA z) s.heap s.heap [] := va_S.rf
  have hF : dkF [] I0 I0 := dkF_rf _ _
  have hl := lv_entry ([.ref (z + 348), .int p0, .int p1]) (n := 7) (Nat.le_of_ble_eq_true rfl)
  have hgo : entryFrame m args 7 = entryFrame m ([.ref (z + 348), .int p0, .int p1] : List Value).toArray 7 := by rw [ha]
  rw [hgo, lg_entry_eq]
  generalize (lg_sl ([.ref (z + 348), .int p0, .int p1]) ++ List.replicate (7 - (lg_sl ([.ref (z + 348), .int p0, .int p1])).length) Slot.unset).toArray = ls at hl ⊢
  have hl : lv_has ls 7 [(0, .ref (z + 348)), (1, .int p0), (2, .int p1)] := hl
  have C52 : ∀ (n : Nat), ∀ (I : dkI) (H : Heap) (locs : List Loc) (ls : Array Slot) (x52_3 : Int32) (x52_4 : Int32) (x52_5 : Int32), (9 - x52_5.toInt).toNat < n → dkW g z I H → va_S (dkA z) s.heap H locs → dkF [] I0 I → dkOk I → dkN [(4, 2147483647)] x52_3 → dkN [(0, 8)] x52_4 → dkN [(1, 9)] x52_5 → lv_has ls 7 [(0, .ref (z + 348)), (1, .int p0), (2, .int p1), (3, .int x52_3), (4, .int x52_4), (5, .int x52_5)] → W p l e (headSpec wsX6_aim (dkR 3)).room s m args below meth c H locs 0 0 (MQ below (dkQi g z (fun r I1 => dkF [] I0 I1 ∧ dkOk I1 ∧ ((True ∧ True)))) args s 0 0 (dkA z)) (F0 m 52 ls []) := by
    intro n
    induction n with
    | zero => intro I H locs ls x52_3 x52_4 x52_5 hn; exact absurd hn (Nat.not_lt_zero _)
    | succ n ih52 =>
      intro I52_ H locs ls x52_3 x52_4 x52_5 hn52 hW hS hF_52 hO k52_0 k52_1 k52_2 hl
      have hF := hF_52
      have C106 : ∀ (I : dkI) (H : Heap) (locs : List Loc) (ls : Array Slot) (x106_6 : Int32) (x106_s0 : Int32), dkW g z I H → va_S (dkA z) s.heap H locs → dkF [] I0 I → dkOk I → dkN [(0, 8)] x106_s0 → dkN [(4, 2147483647)] x52_3 → dkN [(0, 8)] x52_4 → dkN [(1, 8)] x52_5 → dkN [(2, 9)] (I 348 0) → lv_has ls 7 [(0, .ref (z + 348)), (1, .int p0), (2, .int p1), (3, .int x52_3), (4, .int x52_4), (5, .int x52_5), (6, .int x106_6)] → W p l e (headSpec wsX6_aim (dkR 3)).room s m args below meth c H locs 0 0 (MQ below (dkQi g z (fun r I1 => dkF [] I0 I1 ∧ dkOk I1 ∧ ((True ∧ True)))) args s 0 0 (dkA z)) (F0 m 106 ls [.int x106_s0]) := by
        intro I106_ H locs ls x106_6 x106_s0 hW hS hF_106 hO k106_1 r106_0 r106_1 r106_2 f106_0 hl
        have hF := hF_106
        refine lv_istore (lv' := [(4, .int x106_s0), (0, .ref (z + 348)), (1, .int p0), (2, .int p1), (3, .int x52_3), (5, .int x52_5), (6, .int x106_6)]) hx hb dX6_aim_106 hl (by decide) rfl (fun ls hl => ?_)
        obtain ⟨v1, ev1⟩ : ∃ y : Int32, y = x52_5 + 1 := ⟨_, rfl⟩
        have dv1 : dkN [(2, 9)] v1 := by rw [ev1]; exact dkN_add r106_2 (dkN_lit (x := 1) (1) rfl) rfl
        refine lv_iinc (v := v1) (lv' := [(5, .int v1), (4, .int x106_s0), (0, .ref (z + 348)), (1, .int p0), (2, .int p1), (3, .int x52_3), (6, .int x106_6)]) hx hb dX6_aim_108 hl (k := 5) rfl (by rw [ev1]; rfl) (by decide) rfl (fun ls hl => ?_)
        refine lv_goto (tgt := 52) hx hb dX6_aim_111 (by decide) ?_
        exact ih52 I106_ _ _ ls x52_3 x106_s0 v1 (dk_near hn52 (by rw [ev1]; exact dk_inc r106_2 rfl) (dkN_lt r106_2 rfl)) hW hS hF hO (dkN_sub r106_0 rfl) (dkN_sub k106_1 rfl) (dkN_sub dv1 rfl) (lv_sub hl [2, 3, 4, 5, 1, 0] rfl)
      have C104 : ∀ (I : dkI) (H : Heap) (locs : List Loc) (ls : Array Slot) (x104_6 : Int32), dkW g z I H → va_S (dkA z) s.heap H locs → dkF [] I0 I → dkOk I → dkN [(4, 2147483647)] x52_3 → dkN [(0, 8)] x52_4 → dkN [(1, 8)] x52_5 → dkN [(2, 9)] (I 348 0) → lv_has ls 7 [(0, .ref (z + 348)), (1, .int p0), (2, .int p1), (3, .int x52_3), (4, .int x52_4), (5, .int x52_5), (6, .int x104_6)] → W p l e (headSpec wsX6_aim (dkR 3)).room s m args below meth c H locs 0 0 (MQ below (dkQi g z (fun r I1 => dkF [] I0 I1 ∧ dkOk I1 ∧ ((True ∧ True)))) args s 0 0 (dkA z)) (F0 m 104 ls []) := by
        intro I104_ H locs ls x104_6 hW hS hF_104 hO r104_0 r104_1 r104_2 f104_0 hl
        have hF := hF_104
        refine lv_iload hx hb dX6_aim_104 (lv_at hl 4 rfl) ?_
        exact C106 I104_ _ _ ls x104_6 x52_4 hW hS hF hO (dkN_sub r104_1 rfl) (dkN_sub r104_0 rfl) (dkN_sub r104_1 rfl) (dkN_sub r104_2 rfl) (show dkN [(2, 9)] (I104_ 348 0) from dkN_sub f104_0 rfl) (lv_sub hl [0, 1, 2, 3, 4, 5, 6] rfl)
      have C99 : ∀ (I : dkI) (H : Heap) (locs : List Loc) (ls : Array Slot) (x99_6 : Int32), dkW g z I H → va_S (dkA z) s.heap H locs → dkF [] I0 I → dkOk I → dkN [(-2147483648, -1), (1, 2147483647)] x99_6 → dkN [(4, 5)] x52_3 → dkN [(0, 8)] x52_4 → dkN [(1, 8)] x52_5 → dkN [(2, 9)] (I 348 0) → lv_has ls 7 [(0, .ref (z + 348)), (1, .int p0), (2, .int p1), (3, .int x52_3), (4, .int x52_4), (5, .int x52_5), (6, .int x99_6)] → W p l e (headSpec wsX6_aim (dkR 3)).room s m args below meth c H locs 0 0 (MQ below (dkQi g z (fun r I1 => dkF [] I0 I1 ∧ dkOk I1 ∧ ((True ∧ True)))) args s 0 0 (dkA z)) (F0 m 99 ls []) := by
        intro I99_ H locs ls x99_6 hW hS hF_99 hO k99_0 r99_0 r99_1 r99_2 f99_0 hl
        have hF := hF_99
        refine lv_iload hx hb dX6_aim_99 (lv_at hl 5 rfl) ?_
        refine lv_goto (tgt := 106) hx hb dX6_aim_101 (by decide) ?_
        exact C106 I99_ _ _ ls x99_6 x52_5 hW hS hF hO (dkN_sub r99_2 rfl) (dkN_sub r99_0 rfl) (dkN_sub r99_1 rfl) (dkN_sub r99_2 rfl) (show dkN [(2, 9)] (I99_ 348 0) from dkN_sub f99_0 rfl) (lv_sub hl [0, 1, 2, 3, 4, 5, 6] rfl)
      have C89 : ∀ (I : dkI) (H : Heap) (locs : List Loc) (ls : Array Slot) (x89_6 : Int32), dkW g z I H → va_S (dkA z) s.heap H locs → dkF [] I0 I → dkOk I → dkN [(4, 2147483647)] x52_3 → dkN [(0, 8)] x52_4 → dkN [(1, 8)] x52_5 → dkN [(2, 9)] (I 348 0) → lv_has ls 7 [(0, .ref (z + 348)), (1, .int p0), (2, .int p1), (3, .int x52_3), (4, .int x52_4), (5, .int x52_5), (6, .int x89_6)] → W p l e (headSpec wsX6_aim (dkR 3)).room s m args below meth c H locs 0 0 (MQ below (dkQi g z (fun r I1 => dkF [] I0 I1 ∧ dkOk I1 ∧ ((True ∧ True)))) args s 0 0 (dkA z)) (F0 m 89 ls []) := by
        intro I89_ H locs ls x89_6 hW hS hF_89 hO r89_0 r89_1 r89_2 f89_0 hl
        have hF := hF_89
        refine lv_iload_n hx hb dX6_aim_89 rfl (lv_at hl 3 rfl) ?_
        refine lv_iconst (v := 5) hx hb dX6_aim_90 (by decide) ?_
        refine lv_icmp_ne (tgt := 104) hx hb dX6_aim_91 (by decide) (fun c2 => ?_) (fun c2 => ?_)
        ·
          have d3 : dkN [(4, 4), (6, 2147483647)] x52_3 := dkN_ne1 (5) r89_0 (dkN_lit (x := 5) (5) rfl) (dk_ne c2) rfl
          exact C104 I89_ _ _ ls x89_6 hW hS hF hO (dkN_sub d3 rfl) (dkN_sub r89_1 rfl) (dkN_sub r89_2 rfl) (show dkN [(2, 9)] (I89_ 348 0) from dkN_sub f89_0 rfl) (lv_sub hl [0, 1, 2, 3, 4, 5, 6] rfl)
        ·
          have d4 : dkN [(5, 5)] x52_3 := dkN_eq1 r89_0 (dkN_lit (x := 5) (5) rfl) (congrArg Int32.toInt c2) rfl
          refine lv_iload hx hb dX6_aim_94 (lv_at hl 6 rfl) ?_
          refine lv_if_ge (tgt := 104) hx hb dX6_aim_96 (by decide) (fun c5 => ?_) (fun c5 => ?_)
          ·
            have d6 : dkN [(0, 2147483647)] x89_6 := dkN_le2 0 (dkN_lit (x := 0) (0) rfl) (dkN_top x89_6) (dkc_le c5) rfl
            exact C104 I89_ _ _ ls x89_6 hW hS hF hO (dkN_sub d4 rfl) (dkN_sub r89_1 rfl) (dkN_sub r89_2 rfl) (show dkN [(2, 9)] (I89_ 348 0) from dkN_sub f89_0 rfl) (lv_sub hl [0, 1, 2, 3, 4, 5, 6] rfl)
          ·
            have d7 : dkN [(-2147483648, -1)] x89_6 := dkN_le1 1 (dkN_top x89_6) (dkN_lit (x := 0) (0) rfl) (dkc_nle c5) rfl
            exact C99 I89_ _ _ ls x89_6 hW hS hF hO (dkN_sub d7 rfl) (dkN_sub d4 rfl) (dkN_sub r89_1 rfl) (dkN_sub r89_2 rfl) (show dkN [(2, 9)] (I89_ 348 0) from dkN_sub f89_0 rfl) (lv_sub hl [0, 1, 2, 3, 4, 5, 6] rfl)
      refine lv_iload hx hb dX6_aim_52 (lv_at hl 5 rfl) ?_
      refine lv_aload_n hx hb dX6_aim_54 rfl (lv_at hl 0 rfl) ?_
      refine lv_iconst (v := 0) hx hb dX6_aim_55 (by decide) ?_
      refine dk_ild (k := 348) hx hb hK (dk_at348 hW) (dkN_in (n := 54) (dkN_lit (x := 0) (0) rfl) rfl) dX6_aim_56 ?_
      refine lv_topi (fun v8 ev8 => ?_)
      have ev8 : v8 = I52_ 348 0 := ev8
      have dv8 : dkN [(0, 9)] v8 := by rw [ev8]; exact (show dkN [(0, 9)] (I52_ 348 0) from (hO 348 0))
      refine lv_icmp_ge (tgt := 114) hx hb dX6_aim_57 (by decide) (fun c9 => ?_) (fun c9 => ?_)
      ·
        refine lv_iload_n hx hb dX6_aim_114 rfl (lv_at hl 3 rfl) ?_
        refine lv_iconst (v := 4) hx hb dX6_aim_115 (by decide) ?_
        refine lv_icmp_ne (tgt := 135) hx hb dX6_aim_116 (by decide) (fun c10 => ?_) (fun c10 => ?_)
        ·
          have d11 : dkN [(5, 2147483647)] x52_3 := dkN_ne1 (4) k52_0 (dkN_lit (x := 4) (4) rfl) (dk_ne c10) rfl
          refine lv_iload hx hb dX6_aim_135 (lv_at hl 4 rfl) ?_
          exact W.iret (v := x52_4) hx hb hr (fun t ht hW9 => ⟨⟨x52_4, I52_, rfl, ⟨hF, hO, ⟨trivial, trivial⟩⟩, dkW_eq ht hW⟩, hS.F ht⟩) hS.2.2 dX6_aim_137
        ·
          have d12 : dkN [(4, 4)] x52_3 := dkN_eq1 k52_0 (dkN_lit (x := 4) (4) rfl) (congrArg Int32.toInt c10) rfl
          refine lv_aload_n hx hb dX6_aim_119 rfl (lv_at hl 0 rfl) ?_
          refine lv_iload hx hb dX6_aim_120 (lv_at hl 4 rfl) ?_
          refine lv_iload_n hx hb dX6_aim_122 rfl (lv_at hl 1 rfl) ?_
          refine lv_iload_n hx hb dX6_aim_123 rfl (lv_at hl 2 rfl) ?_
          refine dk_Si (As := [.ref (z + 348), .int x52_4, .int p0, .int p1]) (rest := []) ⟨hx, hb, hml, hown, hts⟩ (c_X6_othersIn_1 l g z I52_ x52_4 p0 p1 (dkN_sub dp0 rfl) hO) (va_cwS 4 hts gX6_aim_X6_othersIn rfl rfl rfl (by decide +kernel) ⟨Nat.le_of_ble_eq_true rfl, Nat.le_of_ble_eq_true rfl⟩) hK hT hW hS rfl hl.1 rfl (Nat.le_of_ble_eq_true rfl) dX6_aim_124 ⟨Nat.zero_le _, Nat.zero_le _⟩ (fun v13 I13 H13 L13 hp13 hW hS => ?_)
          obtain ⟨hF13, hO, hc13⟩ := hp13
          have hF := dkF_call hF hF13 rfl
          obtain ⟨_, -⟩ := hc13
          refine lv_if_ne (tgt := 135) hx hb dX6_aim_127 (by decide) (fun c14 => ?_) (fun c14 => ?_)
          ·
            have d15 : dkN [(-2147483648, -1), (1, 2147483647)] v13 := dkN_ne1 (0) (dkN_top v13) (dkN_lit (x := 0) (0) rfl) (dk_ne c14) rfl
            refine lv_iload hx hb dX6_aim_135 (lv_at hl 4 rfl) ?_
            exact W.iret (v := x52_4) hx hb hr (fun t ht hW9 => ⟨⟨x52_4, I13, rfl, ⟨hF, hO, ⟨trivial, trivial⟩⟩, dkW_eq ht hW⟩, hS.F ht⟩) hS.2.2 dX6_aim_137
          ·
            have d16 : dkN [(0, 0)] v13 := dkN_eq1 (dkN_top v13) (dkN_lit (x := 0) (0) rfl) (congrArg Int32.toInt c14) rfl
            refine lv_ldc (v := (-1000000)) hx hb hown (hts (.constant RX6 50 (-1000000)) (List.mem_of_getElem? (i := 1) rfl)) dX6_aim_130 ?_
            refine lv_goto (tgt := 137) hx hb dX6_aim_132 (by decide) ?_
            exact W.iret (v := (-1000000)) hx hb hr (fun t ht hW9 => ⟨⟨(-1000000), I13, rfl, ⟨hF, hO, ⟨trivial, trivial⟩⟩, dkW_eq ht hW⟩, hS.F ht⟩) hS.2.2 dX6_aim_137
      ·
        have d17 : dkN [(2, 9)] v8 := dkN_le2 1 k52_2 dv8 (dkc_nle c9) rfl
        have f18 : dkN [(2, 9)] (I52_ 348 0) := by rw [← ev8]; exact d17
        have d19 : dkN [(1, 8)] x52_5 := dkN_le1 1 k52_2 dv8 (dkc_nle c9) rfl
        refine lv_aload_n hx hb dX6_aim_60 rfl (lv_at hl 0 rfl) ?_
        refine lv_iload hx hb dX6_aim_61 (lv_at hl 5 rfl) ?_
        refine lv_iload_n hx hb dX6_aim_63 rfl (lv_at hl 1 rfl) ?_
        refine lv_iload_n hx hb dX6_aim_64 rfl (lv_at hl 2 rfl) ?_
        refine dk_Si (As := [.ref (z + 348), .int x52_5, .int p0, .int p1]) (rest := []) ⟨hx, hb, hml, hown, hts⟩ (c_X6_othersIn_1 l g z I52_ x52_5 p0 p1 (dkN_sub dp0 rfl) hO) (va_cwS 4 hts gX6_aim_X6_othersIn rfl rfl rfl (by decide +kernel) ⟨Nat.le_of_ble_eq_true rfl, Nat.le_of_ble_eq_true rfl⟩) hK hT hW hS rfl hl.1 rfl (Nat.le_of_ble_eq_true rfl) dX6_aim_65 ⟨Nat.zero_le _, Nat.zero_le _⟩ (fun v20 I20 H20 L20 hp20 hW hS => ?_)
        obtain ⟨hF20, hO, hc20⟩ := hp20
        have hF := dkF_call hF hF20 rfl
        obtain ⟨_, -⟩ := hc20
        refine lv_aload_n hx hb dX6_aim_68 rfl (lv_at hl 0 rfl) ?_
        refine lv_iload hx hb dX6_aim_69 (lv_at hl 4 rfl) ?_
        refine lv_iload_n hx hb dX6_aim_71 rfl (lv_at hl 1 rfl) ?_
        refine lv_iload_n hx hb dX6_aim_72 rfl (lv_at hl 2 rfl) ?_
        refine dk_Si (As := [.ref (z + 348), .int x52_4, .int p0, .int p1]) (rest := [.int v20]) ⟨hx, hb, hml, hown, hts⟩ (c_X6_othersIn_1 l g z I20 x52_4 p0 p1 (dkN_sub dp0 rfl) hO) (va_cwS 4 hts gX6_aim_X6_othersIn rfl rfl rfl (by decide +kernel) ⟨Nat.le_of_ble_eq_true rfl, Nat.le_of_ble_eq_true rfl⟩) hK hT hW hS rfl hl.1 rfl (Nat.le_of_ble_eq_true rfl) dX6_aim_73 ⟨Nat.zero_le _, Nat.zero_le _⟩ (fun v21 I21 H21 L21 hp21 hW hS => ?_)
        obtain ⟨hF21, hO, hc21⟩ := hp21
        have hF := dkF_call hF hF21 rfl
        obtain ⟨_, -⟩ := hc21
        refine lv_isub hx hb dX6_aim_76 ?_
        refine lv_topi (fun v22 ev22 => ?_)
        refine lv_istore (lv' := [(6, .int v22), (0, .ref (z + 348)), (1, .int p0), (2, .int p1), (3, .int x52_3), (4, .int x52_4), (5, .int x52_5)]) hx hb dX6_aim_77 hl (by decide) rfl (fun ls hl => ?_)
        refine lv_iload_n hx hb dX6_aim_79 rfl (lv_at hl 4 rfl) ?_
        refine lv_iconst (v := 4) hx hb dX6_aim_80 (by decide) ?_
        refine lv_icmp_ne (tgt := 89) hx hb dX6_aim_81 (by decide) (fun c23 => ?_) (fun c23 => ?_)
        ·
          have d24 : dkN [(5, 2147483647)] x52_3 := dkN_ne1 (4) k52_0 (dkN_lit (x := 4) (4) rfl) (dk_ne c23) rfl
          exact C89 I21 _ _ ls v22 hW hS hF hO (dkN_sub d24 rfl) (dkN_sub k52_1 rfl) (dkN_sub d19 rfl) (show dkN [(2, 9)] (I21 348 0) from dkN_sub (by rw [hF21 348 0 rfl]; exact (by rw [hF20 348 0 rfl]; exact f18)) rfl) (lv_sub hl [1, 2, 3, 4, 5, 6, 0] rfl)
        ·
          have d25 : dkN [(4, 4)] x52_3 := dkN_eq1 k52_0 (dkN_lit (x := 4) (4) rfl) (congrArg Int32.toInt c23) rfl
          refine lv_iload hx hb dX6_aim_84 (lv_at hl 0 rfl) ?_
          refine lv_if_gt (tgt := 99) hx hb dX6_aim_86 (by decide) (fun c26 => ?_) (fun c26 => ?_)
          ·
            have d27 : dkN [(1, 2147483647)] v22 := dkN_le2 1 (dkN_lit (x := 0) (0) rfl) (dkN_top v22) (dkc_lt c26) rfl
            exact C99 I21 _ _ ls v22 hW hS hF hO (dkN_sub d27 rfl) (dkN_sub d25 rfl) (dkN_sub k52_1 rfl) (dkN_sub d19 rfl) (show dkN [(2, 9)] (I21 348 0) from dkN_sub (by rw [hF21 348 0 rfl]; exact (by rw [hF20 348 0 rfl]; exact f18)) rfl) (lv_sub hl [1, 2, 3, 4, 5, 6, 0] rfl)
          ·
            have d28 : dkN [(-2147483648, 0)] v22 := dkN_le1 0 (dkN_top v22) (dkN_lit (x := 0) (0) rfl) (dkc_nlt c26) rfl
            exact C89 I21 _ _ ls v22 hW hS hF hO (dkN_sub d25 rfl) (dkN_sub k52_1 rfl) (dkN_sub d19 rfl) (show dkN [(2, 9)] (I21 348 0) from dkN_sub (by rw [hF21 348 0 rfl]; exact (by rw [hF20 348 0 rfl]; exact f18)) rfl) (lv_sub hl [1, 2, 3, 4, 5, 6, 0] rfl)
  refine lv_aload_n hx hb dX6_aim_0 rfl (lv_at hl 0 rfl) ?_
  refine lv_bipush (v := 36) hx hb dX6_aim_1 (by decide) ?_
  refine lv_iconst (v := 3) hx hb dX6_aim_3 (by decide) ?_
  refine lv_iload_n hx hb dX6_aim_4 rfl (lv_at hl 1 rfl) ?_
  refine lv_imul hx hb dX6_aim_5 ?_
  refine lv_topi (fun v29 ev29 => ?_)
  have dv29 : dkN [(0, 0), (3, 3), (6, 6), (9, 9), (12, 12), (15, 15)] v29 := by rw [ev29]; exact dkN_mulPt 3 (dkN_lit (x := 3) (3) rfl) dp0 rfl
  refine lv_iadd hx hb dX6_aim_6 ?_
  refine lv_topi (fun v30 ev30 => ?_)
  have dv30 : dkN [(36, 36), (39, 39), (42, 42), (45, 45), (48, 48), (51, 51)] v30 := by rw [ev30]; exact dkN_add (dkN_lit (x := 36) (36) rfl) dv29 rfl
  refine dk_ild (k := 348) hx hb hK (dk_at348 hW) (dkN_in (n := 54) dv30 rfl) dX6_aim_7 ?_
  refine lv_topi (fun v31 ev31 => ?_)
  refine lv_istore_n (lv' := [(3, .int v31), (0, .ref (z + 348)), (1, .int p0), (2, .int p1)]) hx hb dX6_aim_8 rfl hl (by decide) rfl (fun ls hl => ?_)
  refine lv_iload_n hx hb dX6_aim_9 rfl (lv_at hl 0 rfl) ?_
  refine lv_iconst (v := 3) hx hb dX6_aim_10 (by decide) ?_
  refine lv_icmp_gt (tgt := 46) hx hb dX6_aim_11 (by decide) (fun c32 => ?_) (fun c32 => ?_)
  ·
    have d33 : dkN [(4, 2147483647)] v31 := dkN_le2 1 (dkN_lit (x := 3) (3) rfl) (dkN_top v31) (dkc_lt c32) rfl
    refine lv_iconst (v := 0) hx hb dX6_aim_46 (by decide) ?_
    refine lv_istore (lv' := [(4, .int 0), (3, .int v31), (0, .ref (z + 348)), (1, .int p0), (2, .int p1)]) hx hb dX6_aim_47 hl (by decide) rfl (fun ls hl => ?_)
    refine lv_iconst (v := 1) hx hb dX6_aim_49 (by decide) ?_
    refine lv_istore (lv' := [(5, .int 1), (4, .int 0), (3, .int v31), (0, .ref (z + 348)), (1, .int p0), (2, .int p1)]) hx hb dX6_aim_50 hl (by decide) rfl (fun ls hl => ?_)
    exact C52 _ I0 _ _ ls v31 0 1 (Nat.lt_succ_self _) hW hS hF hO (dkN_sub d33 rfl) (dkN_sub (dkN_lit (x := 0) (0) rfl) rfl) (dkN_sub (dkN_lit (x := 1) (1) rfl) rfl) (lv_sub hl [3, 4, 5, 2, 1, 0] rfl)
  ·
    have d34 : dkN [(-2147483648, 3)] v31 := dkN_le1 0 (dkN_top v31) (dkN_lit (x := 3) (3) rfl) (dkc_nlt c32) rfl
    refine lv_aload_n hx hb dX6_aim_14 rfl (lv_at hl 1 rfl) ?_
    refine lv_iload_n hx hb dX6_aim_15 rfl (lv_at hl 2 rfl) ?_
    refine dk_Si (As := [.ref (z + 348), .int p0]) (rest := []) ⟨hx, hb, hml, hown, hts⟩ (c_X6_master_1 l g z I0 p0 dp0 hO) (va_cwS 2 hts gX6_aim_X6_master rfl rfl rfl (by decide +kernel) ⟨Nat.le_of_ble_eq_true rfl, Nat.le_of_ble_eq_true rfl⟩) hK hT hW hS rfl hl.1 rfl (Nat.le_of_ble_eq_true rfl) dX6_aim_16 ⟨Nat.zero_le _, Nat.zero_le _⟩ (fun v35 I35 H35 L35 hp35 hW hS => ?_)
    obtain ⟨hF35, hO, hc35⟩ := hp35
    have hF := dkF_call hF hF35 rfl
    obtain ⟨dv35, -⟩ := hc35
    refine lv_istore (lv' := [(4, .int v35), (3, .int v31), (0, .ref (z + 348)), (1, .int p0), (2, .int p1)]) hx hb dX6_aim_19 hl (by decide) rfl (fun ls hl => ?_)
    refine lv_iload hx hb dX6_aim_21 (lv_at hl 0 rfl) ?_
    refine lv_ldc (v := (-1000000)) hx hb hown (hts (.constant RX6 50 (-1000000)) (List.mem_of_getElem? (i := 1) rfl)) dX6_aim_23 ?_
    refine lv_icmp_ne (tgt := 33) hx hb dX6_aim_25 (by decide) (fun c36 => ?_) (fun c36 => ?_)
    ·
      have d37 : dkN [(0, 4)] v35 := dkN_ne1 (-1000000) dv35 (dkN_lit (x := (-1000000)) (-1000000) rfl) (dk_ne c36) rfl
      refine lv_aload_n hx hb dX6_aim_33 rfl (lv_at hl 2 rfl) ?_
      refine lv_bipush (v := 6) hx hb dX6_aim_34 (by decide) ?_
      refine lv_bipush (v := 6) hx hb dX6_aim_36 (by decide) ?_
      refine lv_iload hx hb dX6_aim_38 (lv_at hl 0 rfl) ?_
      refine lv_imul hx hb dX6_aim_40 ?_
      refine lv_topi (fun v38 ev38 => ?_)
      have dv38 : dkN [(0, 24)] v38 := by rw [ev38]; exact dkN_mulL 6 (by decide) (dkN_lit (x := 6) (6) rfl) d37 rfl
      refine lv_iadd hx hb dX6_aim_41 ?_
      refine lv_topi (fun v39 ev39 => ?_)
      have dv39 : dkN [(6, 30)] v39 := by rw [ev39]; exact dkN_add (dkN_lit (x := 6) (6) rfl) dv38 rfl
      refine lv_iconst (v := 4) hx hb dX6_aim_42 (by decide) ?_
      refine lv_iadd hx hb dX6_aim_43 ?_
      refine lv_topi (fun v40 ev40 => ?_)
      have dv40 : dkN [(10, 34)] v40 := by rw [ev40]; exact dkN_add dv39 (dkN_lit (x := 4) (4) rfl) rfl
      refine dk_ild (k := 348) hx hb hK (dk_at348 hW) (dkN_in (n := 54) dv40 rfl) dX6_aim_44 ?_
      refine lv_topi (fun v41 ev41 => ?_)
      exact W.iret (v := v41) hx hb hr (fun t ht hW9 => ⟨⟨v41, I35, rfl, ⟨hF, hO, ⟨trivial, trivial⟩⟩, dkW_eq ht hW⟩, hS.F ht⟩) hS.2.2 dX6_aim_45
    ·
      have d42 : dkN [(-1000000, -1000000)] v35 := dkN_eq1 dv35 (dkN_lit (x := (-1000000)) (-1000000) rfl) (congrArg Int32.toInt c36) rfl
      refine lv_ldc (v := (-1000000)) hx hb hown (hts (.constant RX6 50 (-1000000)) (List.mem_of_getElem? (i := 1) rfl)) dX6_aim_28 ?_
      refine lv_goto (tgt := 45) hx hb dX6_aim_30 (by decide) ?_
      exact W.iret (v := (-1000000)) hx hb hr (fun t ht hW9 => ⟨⟨(-1000000), I35, rfl, ⟨hF, hO, ⟨trivial, trivial⟩⟩, dkW_eq ht hW⟩, hS.F ht⟩) hS.2.2 dX6_aim_45
set_option maxHeartbeats 4000000 in
set_option maxRecDepth 100000 in
theorem c_X6_steps_1 (l : Launch) (g : dkG) (z : Nat) (I0 : dkI) (p0 : Int32) (p1 : Int32) (p2 : Int32)  (hO : dkOk I0) : Met l yX6_steps wsX6_steps (dkR 4) (dkPc g z [.ref (z + 348), .int p0, .int p1, .int p2] I0) (dkQv g z (fun I1 => dkF [(348, 348, 3, 3), (348, 348, 8, 34), (348, 348, 38, 38), (348, 348, 41, 41), (348, 348, 44, 44), (348, 348, 47, 47), (348, 348, 50, 50), (348, 348, 53, 53)] I0 I1 ∧ dkOk I1 ∧ I1 348 3 = I0 348 3 + 1 ∧ ((True)))) 0 0 (dkA z) := by
  refine Met.ofW (cc := cX6_steps) (maxL := 9) (ret := none) (by decide) rfl ?_
  intro p e s m args below meth c s₁ B hml hv
  obtain ⟨ha, hW, hK, hT⟩ := hv
  have hx := B.exec
  have hb := B.bytes
  have hr := B.returns
  have hts := atoms_spec (ws := wsX6_steps) B.pre
  have hown : s.vm.findClass RX6 = some m.cls := findClass_of_methodNamed B.named
  have hlocks := B.notSynchronized
  have hS : va_S (dkA z) s.heap s.heap [] := va_S.rf
  have hF : dkF [(348, 348, 3, 3), (348, 348, 8, 34), (348, 348, 38, 38), (348, 348, 41, 41), (348, 348, 44, 44), (348, 348, 47, 47), (348, 348, 50, 50), (348, 348, 53, 53)] I0 I0 := dkF_rf _ _
  have hl := lv_entry ([.ref (z + 348), .int p0, .int p1, .int p2]) (n := 9) (Nat.le_of_ble_eq_true rfl)
  have hgo : entryFrame m args 9 = entryFrame m ([.ref (z + 348), .int p0, .int p1, .int p2] : List Value).toArray 9 := by rw [ha]
  rw [hgo, lg_entry_eq]
  generalize (lg_sl ([.ref (z + 348), .int p0, .int p1, .int p2]) ++ List.replicate (9 - (lg_sl ([.ref (z + 348), .int p0, .int p1, .int p2])).length) Slot.unset).toArray = ls at hl ⊢
  have hl : lv_has ls 9 [(0, .ref (z + 348)), (1, .int p0), (2, .int p1), (3, .int p2)] := hl
  have C26 : ∀ (n : Nat), ∀ (I : dkI) (H : Heap) (locs : List Loc) (ls : Array Slot) (x26_4 : Int32), (6 - x26_4.toInt).toNat < n → dkW g z I H → va_S (dkA z) s.heap H locs → dkF [(348, 348, 3, 3), (348, 348, 8, 34), (348, 348, 38, 38), (348, 348, 41, 41), (348, 348, 44, 44), (348, 348, 47, 47), (348, 348, 50, 50), (348, 348, 53, 53)] I0 I → dkOk I → dkN [(0, 6)] x26_4 → I 348 3 = I0 348 3 → lv_has ls 9 [(0, .ref (z + 348)), (1, .int p0), (2, .int p1), (3, .int p2), (4, .int x26_4)] → W p l e (headSpec wsX6_steps (dkR 4)).room s m args below meth c H locs 0 0 (MQ below (dkQv g z (fun I1 => dkF [(348, 348, 3, 3), (348, 348, 8, 34), (348, 348, 38, 38), (348, 348, 41, 41), (348, 348, 44, 44), (348, 348, 47, 47), (348, 348, 50, 50), (348, 348, 53, 53)] I0 I1 ∧ dkOk I1 ∧ I1 348 3 = I0 348 3 + 1 ∧ ((True)))) args s 0 0 (dkA z)) (F0 m 26 ls []) := by
    intro n
    induction n with
    | zero => intro I H locs ls x26_4 hn; exact absurd hn (Nat.not_lt_zero _)
    | succ n ih26 =>
      intro I26_ H locs ls x26_4 hn26 hW hS hF_26 hO k26_0 w26_0 hl
      have hF := hF_26
      have C163 : ∀ (I : dkI) (H : Heap) (locs : List Loc) (ls : Array Slot) (x163_5 : Int32) (x163_6 : Int32) (x163_7 : Int32) (x163_8 : Int32) (x163_s0 : Int32) (x163_s1 : Int32), dkW g z I H → va_S (dkA z) s.heap H locs → dkF [(348, 348, 3, 3), (348, 348, 8, 34), (348, 348, 38, 38), (348, 348, 41, 41), (348, 348, 44, 44), (348, 348, 47, 47), (348, 348, 50, 50), (348, 348, 53, 53)] I0 I → dkOk I → dkN [(38, 38), (41, 41), (44, 44), (47, 47), (50, 50), (53, 53)] x163_5 → dkN [(0, 1)] x163_8 → dkN [(38, 38), (41, 41), (44, 44), (47, 47), (50, 50), (53, 53)] x163_s1 → dkN [(0, 5)] x26_4 → dkN [(1, 6)] (I 348 5) → I 348 3 = I0 348 3 → lv_has ls 9 [(0, .ref (z + 348)), (1, .int p0), (2, .int p1), (3, .int p2), (4, .int x26_4), (5, .int x163_5), (6, .int x163_6), (7, .int x163_7), (8, .int x163_8)] → W p l e (headSpec wsX6_steps (dkR 4)).room s m args below meth c H locs 0 0 (MQ below (dkQv g z (fun I1 => dkF [(348, 348, 3, 3), (348, 348, 8, 34), (348, 348, 38, 38), (348, 348, 41, 41), (348, 348, 44, 44), (348, 348, 47, 47), (348, 348, 50, 50), (348, 348, 53, 53)] I0 I1 ∧ dkOk I1 ∧ I1 348 3 = I0 348 3 + 1 ∧ ((True)))) args s 0 0 (dkA z)) (F0 m 163 ls [.int x163_s0, .int x163_s1, .ref (z + 348)]) := by
        intro I163_ H locs ls x163_5 x163_6 x163_7 x163_8 x163_s0 x163_s1 hW hS hF_163 hO k163_0 k163_3 k163_5 r163_0 f163_0 w163_0 hl
        have hF := hF_163
        refine dk_ist (k := 348) hx hb hK hW (fun _ => rfl) (by decide) hS (dkN_in (n := 54) k163_5 rfl) dX6_steps_163 (fun I1 H1 L1 eI1 hW hS => ?_)
        have hO := dkO_set hO eI1 (by rw [dkB_w (k := 348) (B := [(-2147483648, 2147483647)]) (by decide) k163_5 rfl]; exact dkN_top _)
        have hF := dkF_set hF eI1 (dkIn_v k163_5 rfl)
        obtain ⟨v2, ev2⟩ : ∃ y : Int32, y = x26_4 + 1 := ⟨_, rfl⟩
        have dv2 : dkN [(1, 6)] v2 := by rw [ev2]; exact dkN_add r163_0 (dkN_lit (x := 1) (1) rfl) rfl
        refine lv_iinc (v := v2) (lv' := [(4, .int v2), (0, .ref (z + 348)), (1, .int p0), (2, .int p1), (3, .int p2), (5, .int x163_5), (6, .int x163_6), (7, .int x163_7), (8, .int x163_8)]) hx hb dX6_steps_164 hl (k := 4) rfl (by rw [ev2]; rfl) (by decide) rfl (fun ls hl => ?_)
        refine lv_goto (tgt := 26) hx hb dX6_steps_167 (by decide) ?_
        exact ih26 I1 _ _ ls v2 (dk_near hn26 (by rw [ev2]; exact dk_inc r163_0 rfl) (dkN_lt r163_0 rfl)) hW hS hF hO (dkN_sub dv2 rfl) ((by rw [eI1, dkU_sn (dkN_njx k163_5 rfl)] : I1 348 3 = _).trans w163_0) (lv_sub hl [1, 2, 3, 4, 0] rfl)
      have C144 : ∀ (I : dkI) (H : Heap) (locs : List Loc) (ls : Array Slot) (x144_5 : Int32) (x144_6 : Int32) (x144_7 : Int32) (x144_s0 : Int32), dkW g z I H → va_S (dkA z) s.heap H locs → dkF [(348, 348, 3, 3), (348, 348, 8, 34), (348, 348, 38, 38), (348, 348, 41, 41), (348, 348, 44, 44), (348, 348, 47, 47), (348, 348, 50, 50), (348, 348, 53, 53)] I0 I → dkOk I → dkN [(38, 38), (41, 41), (44, 44), (47, 47), (50, 50), (53, 53)] x144_5 → dkN [(0, 1)] x144_s0 → dkN [(0, 5)] x26_4 → dkN [(1, 6)] (I 348 5) → I 348 3 = I0 348 3 → lv_has ls 9 [(0, .ref (z + 348)), (1, .int p0), (2, .int p1), (3, .int p2), (4, .int x26_4), (5, .int x144_5), (6, .int x144_6), (7, .int x144_7)] → W p l e (headSpec wsX6_steps (dkR 4)).room s m args below meth c H locs 0 0 (MQ below (dkQv g z (fun I1 => dkF [(348, 348, 3, 3), (348, 348, 8, 34), (348, 348, 38, 38), (348, 348, 41, 41), (348, 348, 44, 44), (348, 348, 47, 47), (348, 348, 50, 50), (348, 348, 53, 53)] I0 I1 ∧ dkOk I1 ∧ I1 348 3 = I0 348 3 + 1 ∧ ((True)))) args s 0 0 (dkA z)) (F0 m 144 ls [.int x144_s0]) := by
        intro I144_ H locs ls x144_5 x144_6 x144_7 x144_s0 hW hS hF_144 hO k144_0 k144_3 r144_0 f144_0 w144_0 hl
        have hF := hF_144
        refine lv_istore (lv' := [(8, .int x144_s0), (0, .ref (z + 348)), (1, .int p0), (2, .int p1), (3, .int p2), (4, .int x26_4), (5, .int x144_5), (6, .int x144_6), (7, .int x144_7)]) hx hb dX6_steps_144 hl (by decide) rfl (fun ls hl => ?_)
        refine lv_aload_n hx hb dX6_steps_146 rfl (lv_at hl 1 rfl) ?_
        refine lv_iload hx hb dX6_steps_147 (lv_at hl 6 rfl) ?_
        refine lv_iload hx hb dX6_steps_149 (lv_at hl 0 rfl) ?_
        refine lv_if_eq (tgt := 159) hx hb dX6_steps_151 (by decide) (fun c3 => ?_) (fun c3 => ?_)
        ·
          have d4 : dkN [(0, 0)] x144_s0 := dkN_eq1 k144_3 (dkN_lit (x := 0) (0) rfl) (congrArg Int32.toInt c3) rfl
          refine lv_aload_n hx hb dX6_steps_159 rfl (lv_at hl 1 rfl) ?_
          refine lv_iload hx hb dX6_steps_160 (lv_at hl 6 rfl) ?_
          refine dk_ild (k := 348) hx hb hK (dk_at348 hW) (dkN_in (n := 54) k144_0 rfl) dX6_steps_162 ?_
          refine lv_topi (fun v5 ev5 => ?_)
          exact C163 I144_ _ _ ls x144_5 x144_6 x144_7 x144_s0 v5 x144_5 hW hS hF hO (dkN_sub k144_0 rfl) (dkN_sub d4 rfl) (dkN_sub k144_0 rfl) (dkN_sub r144_0 rfl) (show dkN [(1, 6)] (I144_ 348 5) from dkN_sub f144_0 rfl) w144_0 (lv_sub hl [1, 2, 3, 4, 5, 6, 7, 8, 0] rfl)
        ·
          have d6 : dkN [(1, 1)] x144_s0 := dkN_ne1 (0) k144_3 (dkN_lit (x := 0) (0) rfl) (dk_ne c3) rfl
          refine lv_iload hx hb dX6_steps_154 (lv_at hl 8 rfl) ?_
          refine lv_goto (tgt := 163) hx hb dX6_steps_156 (by decide) ?_
          exact C163 I144_ _ _ ls x144_5 x144_6 x144_7 x144_s0 x144_7 x144_5 hW hS hF hO (dkN_sub k144_0 rfl) (dkN_sub d6 rfl) (dkN_sub k144_0 rfl) (dkN_sub r144_0 rfl) (show dkN [(1, 6)] (I144_ 348 5) from dkN_sub f144_0 rfl) w144_0 (lv_sub hl [1, 2, 3, 4, 5, 6, 7, 8, 0] rfl)
      have C143 : ∀ (I : dkI) (H : Heap) (locs : List Loc) (ls : Array Slot) (x143_5 : Int32) (x143_6 : Int32) (x143_7 : Int32), dkW g z I H → va_S (dkA z) s.heap H locs → dkF [(348, 348, 3, 3), (348, 348, 8, 34), (348, 348, 38, 38), (348, 348, 41, 41), (348, 348, 44, 44), (348, 348, 47, 47), (348, 348, 50, 50), (348, 348, 53, 53)] I0 I → dkOk I → dkN [(38, 38), (41, 41), (44, 44), (47, 47), (50, 50), (53, 53)] x143_5 → dkN [(0, 5)] x26_4 → dkN [(1, 6)] (I 348 5) → I 348 3 = I0 348 3 → lv_has ls 9 [(0, .ref (z + 348)), (1, .int p0), (2, .int p1), (3, .int p2), (4, .int x26_4), (5, .int x143_5), (6, .int x143_6), (7, .int x143_7)] → W p l e (headSpec wsX6_steps (dkR 4)).room s m args below meth c H locs 0 0 (MQ below (dkQv g z (fun I1 => dkF [(348, 348, 3, 3), (348, 348, 8, 34), (348, 348, 38, 38), (348, 348, 41, 41), (348, 348, 44, 44), (348, 348, 47, 47), (348, 348, 50, 50), (348, 348, 53, 53)] I0 I1 ∧ dkOk I1 ∧ I1 348 3 = I0 348 3 + 1 ∧ ((True)))) args s 0 0 (dkA z)) (F0 m 143 ls []) := by
        intro I143_ H locs ls x143_5 x143_6 x143_7 hW hS hF_143 hO k143_0 r143_0 f143_0 w143_0 hl
        have hF := hF_143
        refine lv_iconst (v := 0) hx hb dX6_steps_143 (by decide) ?_
        exact C144 I143_ _ _ ls x143_5 x143_6 x143_7 0 hW hS hF hO (dkN_sub k143_0 rfl) (dkN_sub (dkN_lit (x := 0) (0) rfl) rfl) (dkN_sub r143_0 rfl) (show dkN [(1, 6)] (I143_ 348 5) from dkN_sub f143_0 rfl) w143_0 (lv_sub hl [0, 1, 2, 3, 4, 5, 6, 7] rfl)
      have C139 : ∀ (I : dkI) (H : Heap) (locs : List Loc) (ls : Array Slot) (x139_5 : Int32) (x139_6 : Int32) (x139_7 : Int32), dkW g z I H → va_S (dkA z) s.heap H locs → dkF [(348, 348, 3, 3), (348, 348, 8, 34), (348, 348, 38, 38), (348, 348, 41, 41), (348, 348, 44, 44), (348, 348, 47, 47), (348, 348, 50, 50), (348, 348, 53, 53)] I0 I → dkOk I → dkN [(38, 38), (41, 41), (44, 44), (47, 47), (50, 50), (53, 53)] x139_5 → dkN [(0, 5)] x26_4 → dkN [(1, 6)] (I 348 5) → I 348 3 = I0 348 3 → lv_has ls 9 [(0, .ref (z + 348)), (1, .int p0), (2, .int p1), (3, .int p2), (4, .int x26_4), (5, .int x139_5), (6, .int x139_6), (7, .int x139_7)] → W p l e (headSpec wsX6_steps (dkR 4)).room s m args below meth c H locs 0 0 (MQ below (dkQv g z (fun I1 => dkF [(348, 348, 3, 3), (348, 348, 8, 34), (348, 348, 38, 38), (348, 348, 41, 41), (348, 348, 44, 44), (348, 348, 47, 47), (348, 348, 50, 50), (348, 348, 53, 53)] I0 I1 ∧ dkOk I1 ∧ I1 348 3 = I0 348 3 + 1 ∧ ((True)))) args s 0 0 (dkA z)) (F0 m 139 ls []) := by
        intro I139_ H locs ls x139_5 x139_6 x139_7 hW hS hF_139 hO k139_0 r139_0 f139_0 w139_0 hl
        have hF := hF_139
        refine lv_iconst (v := 1) hx hb dX6_steps_139 (by decide) ?_
        refine lv_goto (tgt := 144) hx hb dX6_steps_140 (by decide) ?_
        exact C144 I139_ _ _ ls x139_5 x139_6 x139_7 1 hW hS hF hO (dkN_sub k139_0 rfl) (dkN_sub (dkN_lit (x := 1) (1) rfl) rfl) (dkN_sub r139_0 rfl) (show dkN [(1, 6)] (I139_ 348 5) from dkN_sub f139_0 rfl) w139_0 (lv_sub hl [0, 1, 2, 3, 4, 5, 6, 7] rfl)
      have C101 : ∀ (I : dkI) (H : Heap) (locs : List Loc) (ls : Array Slot) (x101_5 : Int32) (x101_6 : Int32) (x101_s0 : Int32), dkW g z I H → va_S (dkA z) s.heap H locs → dkF [(348, 348, 3, 3), (348, 348, 8, 34), (348, 348, 38, 38), (348, 348, 41, 41), (348, 348, 44, 44), (348, 348, 47, 47), (348, 348, 50, 50), (348, 348, 53, 53)] I0 I → dkOk I → dkN [(38, 38), (41, 41), (44, 44), (47, 47), (50, 50), (53, 53)] x101_5 → dkN [(0, 5)] x26_4 → dkN [(1, 6)] (I 348 5) → I 348 3 = I0 348 3 → lv_has ls 9 [(0, .ref (z + 348)), (1, .int p0), (2, .int p1), (3, .int p2), (4, .int x26_4), (5, .int x101_5), (6, .int x101_6)] → W p l e (headSpec wsX6_steps (dkR 4)).room s m args below meth c H locs 0 0 (MQ below (dkQv g z (fun I1 => dkF [(348, 348, 3, 3), (348, 348, 8, 34), (348, 348, 38, 38), (348, 348, 41, 41), (348, 348, 44, 44), (348, 348, 47, 47), (348, 348, 50, 50), (348, 348, 53, 53)] I0 I1 ∧ dkOk I1 ∧ I1 348 3 = I0 348 3 + 1 ∧ ((True)))) args s 0 0 (dkA z)) (F0 m 101 ls [.int x101_s0]) := by
        intro I101_ H locs ls x101_5 x101_6 x101_s0 hW hS hF_101 hO k101_0 r101_0 f101_0 w101_0 hl
        have hF := hF_101
        refine lv_istore (lv' := [(7, .int x101_s0), (0, .ref (z + 348)), (1, .int p0), (2, .int p1), (3, .int p2), (4, .int x26_4), (5, .int x101_5), (6, .int x101_6)]) hx hb dX6_steps_101 hl (by decide) rfl (fun ls hl => ?_)
        refine lv_iload_n hx hb dX6_steps_103 rfl (lv_at hl 2 rfl) ?_
        refine lv_iload hx hb dX6_steps_104 (lv_at hl 5 rfl) ?_
        refine dk_Si (As := [.int p0, .int x26_4]) (rest := []) ⟨hx, hb, hml, hown, hts⟩ (c_X6_has_0 l g z I101_ p0 x26_4 hO) (va_cwS 2 hts gX6_steps_X6_has rfl rfl rfl (by decide +kernel) ⟨Nat.le_of_ble_eq_true rfl, Nat.le_of_ble_eq_true rfl⟩) hK hT hW hS rfl hl.1 rfl (Nat.le_of_ble_eq_true rfl) dX6_steps_106 ⟨Nat.zero_le _, Nat.zero_le _⟩ (fun v7 I7 H7 L7 hp7 hW hS => ?_)
        obtain ⟨hF7, hO, hc7⟩ := hp7
        have hF := dkF_call hF hF7 rfl
        obtain ⟨dv7, -⟩ := hc7
        refine lv_if_ne (tgt := 143) hx hb dX6_steps_109 (by decide) (fun c8 => ?_) (fun c8 => ?_)
        ·
          have d9 : dkN [(1, 1)] v7 := dkN_ne1 (0) dv7 (dkN_lit (x := 0) (0) rfl) (dk_ne c8) rfl
          exact C143 I7 _ _ ls x101_5 x101_6 x101_s0 hW hS hF hO (dkN_sub k101_0 rfl) (dkN_sub r101_0 rfl) (show dkN [(1, 6)] (I7 348 5) from dkN_sub (by rw [hF7 348 5 rfl]; exact f101_0) rfl) ((hF7 348 3 rfl).trans w101_0) (lv_sub hl [1, 2, 3, 4, 5, 6, 7, 0] rfl)
        ·
          have d10 : dkN [(0, 0)] v7 := dkN_eq1 dv7 (dkN_lit (x := 0) (0) rfl) (congrArg Int32.toInt c8) rfl
          refine lv_iload_n hx hb dX6_steps_112 rfl (lv_at hl 3 rfl) ?_
          refine lv_iload hx hb dX6_steps_113 (lv_at hl 5 rfl) ?_
          refine dk_Si (As := [.int p1, .int x26_4]) (rest := []) ⟨hx, hb, hml, hown, hts⟩ (c_X6_has_0 l g z I7 p1 x26_4 hO) (va_cwS 2 hts gX6_steps_X6_has rfl rfl rfl (by decide +kernel) ⟨Nat.le_of_ble_eq_true rfl, Nat.le_of_ble_eq_true rfl⟩) hK hT hW hS rfl hl.1 rfl (Nat.le_of_ble_eq_true rfl) dX6_steps_115 ⟨Nat.zero_le _, Nat.zero_le _⟩ (fun v11 I11 H11 L11 hp11 hW hS => ?_)
          obtain ⟨hF11, hO, hc11⟩ := hp11
          have hF := dkF_call hF hF11 rfl
          obtain ⟨dv11, -⟩ := hc11
          refine lv_if_ne (tgt := 143) hx hb dX6_steps_118 (by decide) (fun c12 => ?_) (fun c12 => ?_)
          ·
            have d13 : dkN [(1, 1)] v11 := dkN_ne1 (0) dv11 (dkN_lit (x := 0) (0) rfl) (dk_ne c12) rfl
            exact C143 I11 _ _ ls x101_5 x101_6 x101_s0 hW hS hF hO (dkN_sub k101_0 rfl) (dkN_sub r101_0 rfl) (show dkN [(1, 6)] (I11 348 5) from dkN_sub (by rw [hF11 348 5 rfl]; exact (by rw [hF7 348 5 rfl]; exact f101_0)) rfl) ((hF11 348 3 rfl).trans ((hF7 348 3 rfl).trans w101_0)) (lv_sub hl [1, 2, 3, 4, 5, 6, 7, 0] rfl)
          ·
            have d14 : dkN [(0, 0)] v11 := dkN_eq1 dv11 (dkN_lit (x := 0) (0) rfl) (congrArg Int32.toInt c12) rfl
            refine lv_iload hx hb dX6_steps_121 (lv_at hl 0 rfl) ?_
            refine lv_aload_n hx hb dX6_steps_123 rfl (lv_at hl 1 rfl) ?_
            refine lv_iload hx hb dX6_steps_124 (lv_at hl 6 rfl) ?_
            refine dk_ild (k := 348) hx hb hK (dk_at348 hW) (dkN_in (n := 54) k101_0 rfl) dX6_steps_126 ?_
            refine lv_topi (fun v15 ev15 => ?_)
            refine lv_icmp_eq (tgt := 139) hx hb dX6_steps_127 (by decide) (fun c16 => ?_) (fun c16 => ?_)
            ·
              exact C139 I11 _ _ ls x101_5 x101_6 x101_s0 hW hS hF hO (dkN_sub k101_0 rfl) (dkN_sub r101_0 rfl) (show dkN [(1, 6)] (I11 348 5) from dkN_sub (by rw [hF11 348 5 rfl]; exact (by rw [hF7 348 5 rfl]; exact f101_0)) rfl) ((hF11 348 3 rfl).trans ((hF7 348 3 rfl).trans w101_0)) (lv_sub hl [1, 2, 3, 4, 5, 6, 7, 0] rfl)
            ·
              refine lv_iload_n hx hb dX6_steps_130 rfl (lv_at hl 4 rfl) ?_
              refine lv_iload hx hb dX6_steps_131 (lv_at hl 0 rfl) ?_
              refine dk_Si (As := [.int p2, .int x101_s0]) (rest := []) ⟨hx, hb, hml, hown, hts⟩ (c_X6_has_0 l g z I11 p2 x101_s0 hO) (va_cwS 2 hts gX6_steps_X6_has rfl rfl rfl (by decide +kernel) ⟨Nat.le_of_ble_eq_true rfl, Nat.le_of_ble_eq_true rfl⟩) hK hT hW hS rfl hl.1 rfl (Nat.le_of_ble_eq_true rfl) dX6_steps_133 ⟨Nat.zero_le _, Nat.zero_le _⟩ (fun v17 I17 H17 L17 hp17 hW hS => ?_)
              obtain ⟨hF17, hO, hc17⟩ := hp17
              have hF := dkF_call hF hF17 rfl
              obtain ⟨dv17, -⟩ := hc17
              refine lv_if_ne (tgt := 143) hx hb dX6_steps_136 (by decide) (fun c18 => ?_) (fun c18 => ?_)
              ·
                have d19 : dkN [(1, 1)] v17 := dkN_ne1 (0) dv17 (dkN_lit (x := 0) (0) rfl) (dk_ne c18) rfl
                exact C143 I17 _ _ ls x101_5 x101_6 x101_s0 hW hS hF hO (dkN_sub k101_0 rfl) (dkN_sub r101_0 rfl) (show dkN [(1, 6)] (I17 348 5) from dkN_sub (by rw [hF17 348 5 rfl]; exact (by rw [hF11 348 5 rfl]; exact (by rw [hF7 348 5 rfl]; exact f101_0))) rfl) ((hF17 348 3 rfl).trans ((hF11 348 3 rfl).trans ((hF7 348 3 rfl).trans w101_0))) (lv_sub hl [1, 2, 3, 4, 5, 6, 7, 0] rfl)
              ·
                have d20 : dkN [(0, 0)] v17 := dkN_eq1 dv17 (dkN_lit (x := 0) (0) rfl) (congrArg Int32.toInt c18) rfl
                exact C139 I17 _ _ ls x101_5 x101_6 x101_s0 hW hS hF hO (dkN_sub k101_0 rfl) (dkN_sub r101_0 rfl) (show dkN [(1, 6)] (I17 348 5) from dkN_sub (by rw [hF17 348 5 rfl]; exact (by rw [hF11 348 5 rfl]; exact (by rw [hF7 348 5 rfl]; exact f101_0))) rfl) ((hF17 348 3 rfl).trans ((hF11 348 3 rfl).trans ((hF7 348 3 rfl).trans w101_0))) (lv_sub hl [1, 2, 3, 4, 5, 6, 7, 0] rfl)
      have C70 : ∀ (I : dkI) (H : Heap) (locs : List Loc) (ls : Array Slot) (x70_5 : Int32) (x70_6 : Int32), dkW g z I H → va_S (dkA z) s.heap H locs → dkF [(348, 348, 3, 3), (348, 348, 8, 34), (348, 348, 38, 38), (348, 348, 41, 41), (348, 348, 44, 44), (348, 348, 47, 47), (348, 348, 50, 50), (348, 348, 53, 53)] I0 I → dkOk I → dkN [(38, 38), (41, 41), (44, 44), (47, 47), (50, 50), (53, 53)] x70_5 → dkN [(0, 5)] x26_4 → dkN [(1, 6)] (I 348 5) → I 348 3 = I0 348 3 → lv_has ls 9 [(0, .ref (z + 348)), (1, .int p0), (2, .int p1), (3, .int p2), (4, .int x26_4), (5, .int x70_5), (6, .int x70_6)] → W p l e (headSpec wsX6_steps (dkR 4)).room s m args below meth c H locs 0 0 (MQ below (dkQv g z (fun I1 => dkF [(348, 348, 3, 3), (348, 348, 8, 34), (348, 348, 38, 38), (348, 348, 41, 41), (348, 348, 44, 44), (348, 348, 47, 47), (348, 348, 50, 50), (348, 348, 53, 53)] I0 I1 ∧ dkOk I1 ∧ I1 348 3 = I0 348 3 + 1 ∧ ((True)))) args s 0 0 (dkA z)) (F0 m 70 ls []) := by
        intro I70_ H locs ls x70_5 x70_6 hW hS hF_70 hO k70_0 r70_0 f70_0 w70_0 hl
        have hF := hF_70
        refine lv_aload_n hx hb dX6_steps_70 rfl (lv_at hl 0 rfl) ?_
        refine lv_iload hx hb dX6_steps_71 (lv_at hl 5 rfl) ?_
        refine dk_ild (k := 348) hx hb hK (dk_at348 hW) (dkN_in (n := 54) k70_0 rfl) dX6_steps_73 ?_
        refine lv_topi (fun v21 ev21 => ?_)
        refine lv_goto (tgt := 101) hx hb dX6_steps_74 (by decide) ?_
        exact C101 I70_ _ _ ls x70_5 x70_6 v21 hW hS hF hO (dkN_sub k70_0 rfl) (dkN_sub r70_0 rfl) (show dkN [(1, 6)] (I70_ 348 5) from dkN_sub f70_0 rfl) w70_0 (lv_sub hl [0, 1, 2, 3, 4, 5, 6] rfl)
      refine lv_iload hx hb dX6_steps_26 (lv_at hl 4 rfl) ?_
      refine lv_aload_n hx hb dX6_steps_28 rfl (lv_at hl 0 rfl) ?_
      refine lv_iconst (v := 5) hx hb dX6_steps_29 (by decide) ?_
      refine dk_ild (k := 348) hx hb hK (dk_at348 hW) (dkN_in (n := 54) (dkN_lit (x := 5) (5) rfl) rfl) dX6_steps_30 ?_
      refine lv_topi (fun v22 ev22 => ?_)
      have ev22 : v22 = I26_ 348 5 := ev22
      have dv22 : dkN [(0, 6)] v22 := by rw [ev22]; exact (show dkN [(0, 6)] (I26_ 348 5) from (hO 348 5))
      refine lv_icmp_ge (tgt := 170) hx hb dX6_steps_31 (by decide) (fun c23 => ?_) (fun c23 => ?_)
      ·
        refine lv_aload_n hx hb dX6_steps_170 rfl (lv_at hl 0 rfl) ?_
        refine lv_iconst (v := 3) hx hb dX6_steps_171 (by decide) ?_
        refine lv_dup2_11 hx hb dX6_steps_172 rfl rfl ?_
        refine dk_ild (k := 348) hx hb hK (dk_at348 hW) (dkN_in (n := 54) (dkN_lit (x := 3) (3) rfl) rfl) dX6_steps_173 ?_
        refine lv_topi (fun v24 ev24 => ?_)
        have ev24 : v24 = I26_ 348 3 := ev24
        refine lv_iconst (v := 1) hx hb dX6_steps_174 (by decide) ?_
        refine lv_iadd hx hb dX6_steps_175 ?_
        refine lv_topi (fun v25 ev25 => ?_)
        refine dk_ist (k := 348) hx hb hK hW (fun _ => rfl) (by decide) hS (dkN_in (n := 54) (dkN_lit (x := 3) (3) rfl) rfl) dX6_steps_176 (fun I26 H26 L26 eI26 hW hS => ?_)
        have eI26 : I26 = dkU I26_ 348 3 v25 := eI26
        have hO := dkO_set hO eI26 (dkN_sub (dkN_top v25) rfl)
        have hF := dkF_set hF eI26 rfl
        exact W.vret hx hb hr (fun t ht hW9 => ⟨⟨I26, rfl, ⟨hF, hO, dk_incEq (by rw [eI26, dkU_ss, ev25] : I26 348 3 = v24 + 1) (ev24.trans w26_0), trivial⟩, dkW_eq ht hW⟩, hS.F ht⟩) hS.2.2 dX6_steps_177
      ·
        have d27 : dkN [(1, 6)] v22 := dkN_le2 1 k26_0 dv22 (dkc_nle c23) rfl
        have f28 : dkN [(1, 6)] (I26_ 348 5) := by rw [← ev22]; exact d27
        have d29 : dkN [(0, 5)] x26_4 := dkN_le1 1 k26_0 dv22 (dkc_nle c23) rfl
        refine lv_bipush (v := 36) hx hb dX6_steps_34 (by decide) ?_
        refine lv_iconst (v := 3) hx hb dX6_steps_36 (by decide) ?_
        refine lv_iload hx hb dX6_steps_37 (lv_at hl 4 rfl) ?_
        refine lv_imul hx hb dX6_steps_39 ?_
        refine lv_topi (fun v30 ev30 => ?_)
        have dv30 : dkN [(0, 0), (3, 3), (6, 6), (9, 9), (12, 12), (15, 15)] v30 := by rw [ev30]; exact dkN_mulPt 3 (dkN_lit (x := 3) (3) rfl) d29 rfl
        refine lv_iadd hx hb dX6_steps_40 ?_
        refine lv_topi (fun v31 ev31 => ?_)
        have dv31 : dkN [(36, 36), (39, 39), (42, 42), (45, 45), (48, 48), (51, 51)] v31 := by rw [ev31]; exact dkN_add (dkN_lit (x := 36) (36) rfl) dv30 rfl
        refine lv_iconst (v := 2) hx hb dX6_steps_41 (by decide) ?_
        refine lv_iadd hx hb dX6_steps_42 ?_
        refine lv_topi (fun v32 ev32 => ?_)
        have dv32 : dkN [(38, 38), (41, 41), (44, 44), (47, 47), (50, 50), (53, 53)] v32 := by rw [ev32]; exact dkN_add dv31 (dkN_lit (x := 2) (2) rfl) rfl
        refine lv_istore (lv' := [(5, .int v32), (0, .ref (z + 348)), (1, .int p0), (2, .int p1), (3, .int p2), (4, .int x26_4)]) hx hb dX6_steps_43 hl (by decide) rfl (fun ls hl => ?_)
        refine lv_aload_n hx hb dX6_steps_45 rfl (lv_at hl 1 rfl) ?_
        refine lv_iload hx hb dX6_steps_46 (lv_at hl 5 rfl) ?_
        refine lv_iload_n hx hb dX6_steps_48 rfl (lv_at hl 2 rfl) ?_
        refine dk_Si (As := [.ref (z + 348), .int x26_4, .int p0]) (rest := []) ⟨hx, hb, hml, hown, hts⟩ (c_X6_aim_1 l g z I26_ x26_4 p0 d29 hO) (va_cwS 3 hts gX6_steps_X6_aim rfl rfl rfl (by decide +kernel) ⟨Nat.le_of_ble_eq_true rfl, Nat.le_of_ble_eq_true rfl⟩) hK hT hW hS rfl hl.1 rfl (Nat.le_of_ble_eq_true rfl) dX6_steps_49 ⟨Nat.zero_le _, Nat.zero_le _⟩ (fun v33 I33 H33 L33 hp33 hW hS => ?_)
        obtain ⟨hF33, hO, hc33⟩ := hp33
        have hF := dkF_call hF hF33 rfl
        obtain ⟨_, -⟩ := hc33
        refine lv_istore (lv' := [(6, .int v33), (5, .int v32), (0, .ref (z + 348)), (1, .int p0), (2, .int p1), (3, .int p2), (4, .int x26_4)]) hx hb dX6_steps_52 hl (by decide) rfl (fun ls hl => ?_)
        refine lv_iload hx hb dX6_steps_54 (lv_at hl 0 rfl) ?_
        refine lv_ldc (v := (-1000000)) hx hb hown (hts (.constant RX6 50 (-1000000)) (List.mem_of_getElem? (i := 1) rfl)) dX6_steps_56 ?_
        refine lv_icmp_eq (tgt := 70) hx hb dX6_steps_58 (by decide) (fun c34 => ?_) (fun c34 => ?_)
        ·
          have d35 : dkN [(-1000000, -1000000)] v33 := dkN_eq1 (dkN_top v33) (dkN_lit (x := (-1000000)) (-1000000) rfl) (congrArg Int32.toInt c34) rfl
          exact C70 I33 _ _ ls v32 v33 hW hS hF hO (dkN_sub dv32 rfl) (dkN_sub d29 rfl) (show dkN [(1, 6)] (I33 348 5) from dkN_sub (by rw [hF33 348 5 rfl]; exact f28) rfl) ((hF33 348 3 rfl).trans w26_0) (lv_sub hl [2, 3, 4, 5, 6, 1, 0] rfl)
        ·
          have d36 : dkN [(-2147483648, -1000001), (-999999, 2147483647)] v33 := dkN_ne1 (-1000000) (dkN_top v33) (dkN_lit (x := (-1000000)) (-1000000) rfl) (dk_ne c34) rfl
          refine lv_iload hx hb dX6_steps_61 (lv_at hl 0 rfl) ?_
          refine lv_aload_n hx hb dX6_steps_63 rfl (lv_at hl 2 rfl) ?_
          refine lv_iload hx hb dX6_steps_64 (lv_at hl 1 rfl) ?_
          refine dk_ild (k := 348) hx hb hK (dk_at348 hW) (dkN_in (n := 54) dv32 rfl) dX6_steps_66 ?_
          refine lv_topi (fun v37 ev37 => ?_)
          refine lv_icmp_ne (tgt := 77) hx hb dX6_steps_67 (by decide) (fun c38 => ?_) (fun c38 => ?_)
          ·
            refine lv_iload hx hb dX6_steps_77 (lv_at hl 0 rfl) ?_
            refine lv_aload_n hx hb dX6_steps_79 rfl (lv_at hl 2 rfl) ?_
            refine lv_iload hx hb dX6_steps_80 (lv_at hl 1 rfl) ?_
            refine dk_ild (k := 348) hx hb hK (dk_at348 hW) (dkN_in (n := 54) dv32 rfl) dX6_steps_82 ?_
            refine lv_topi (fun v39 ev39 => ?_)
            refine lv_icmp_le (tgt := 95) hx hb dX6_steps_83 (by decide) (fun c40 => ?_) (fun c40 => ?_)
            ·
              refine lv_aload_n hx hb dX6_steps_95 rfl (lv_at hl 2 rfl) ?_
              refine lv_iload hx hb dX6_steps_96 (lv_at hl 1 rfl) ?_
              refine dk_ild (k := 348) hx hb hK (dk_at348 hW) (dkN_in (n := 54) dv32 rfl) dX6_steps_98 ?_
              refine lv_topi (fun v41 ev41 => ?_)
              refine lv_iconst (v := 1) hx hb dX6_steps_99 (by decide) ?_
              refine lv_isub hx hb dX6_steps_100 ?_
              refine lv_topi (fun v42 ev42 => ?_)
              exact C101 I33 _ _ ls v32 v33 v42 hW hS hF hO (dkN_sub dv32 rfl) (dkN_sub d29 rfl) (show dkN [(1, 6)] (I33 348 5) from dkN_sub (by rw [hF33 348 5 rfl]; exact f28) rfl) ((hF33 348 3 rfl).trans w26_0) (lv_sub hl [2, 3, 4, 5, 6, 1, 0] rfl)
            ·
              have d43 : dkN [(-2147483647, -1000001), (-999999, 2147483647)] v33 := dkN_le2 1 (dkN_top v39) d36 (dkc_nle c40) rfl
              have d44 : dkN [(-2147483648, 2147483646)] v39 := dkN_le1 1 (dkN_top v39) d36 (dkc_nle c40) rfl
              refine lv_aload_n hx hb dX6_steps_86 rfl (lv_at hl 2 rfl) ?_
              refine lv_iload hx hb dX6_steps_87 (lv_at hl 1 rfl) ?_
              refine dk_ild (k := 348) hx hb hK (dk_at348 hW) (dkN_in (n := 54) dv32 rfl) dX6_steps_89 ?_
              refine lv_topi (fun v45 ev45 => ?_)
              refine lv_iconst (v := 1) hx hb dX6_steps_90 (by decide) ?_
              refine lv_iadd hx hb dX6_steps_91 ?_
              refine lv_topi (fun v46 ev46 => ?_)
              refine lv_goto (tgt := 101) hx hb dX6_steps_92 (by decide) ?_
              exact C101 I33 _ _ ls v32 v33 v46 hW hS hF hO (dkN_sub dv32 rfl) (dkN_sub d29 rfl) (show dkN [(1, 6)] (I33 348 5) from dkN_sub (by rw [hF33 348 5 rfl]; exact f28) rfl) ((hF33 348 3 rfl).trans w26_0) (lv_sub hl [2, 3, 4, 5, 6, 1, 0] rfl)
          ·
            have d47 : dkN [(-2147483648, -1000001), (-999999, 2147483647)] v37 := dkN_eq1 (dkN_top v37) d36 (congrArg Int32.toInt c38).symm rfl
            exact C70 I33 _ _ ls v32 v33 hW hS hF hO (dkN_sub dv32 rfl) (dkN_sub d29 rfl) (show dkN [(1, 6)] (I33 348 5) from dkN_sub (by rw [hF33 348 5 rfl]; exact f28) rfl) ((hF33 348 3 rfl).trans w26_0) (lv_sub hl [2, 3, 4, 5, 6, 1, 0] rfl)
  have C3 : ∀ (n : Nat), ∀ (I : dkI) (H : Heap) (locs : List Loc) (ls : Array Slot) (x3_4 : Int32), (5 - x3_4.toInt).toNat < n → dkW g z I H → va_S (dkA z) s.heap H locs → dkF [(348, 348, 3, 3), (348, 348, 8, 34), (348, 348, 38, 38), (348, 348, 41, 41), (348, 348, 44, 44), (348, 348, 47, 47), (348, 348, 50, 50), (348, 348, 53, 53)] I0 I → dkOk I → dkN [(0, 5)] x3_4 → I 348 3 = I0 348 3 → lv_has ls 9 [(0, .ref (z + 348)), (1, .int p0), (2, .int p1), (3, .int p2), (4, .int x3_4)] → W p l e (headSpec wsX6_steps (dkR 4)).room s m args below meth c H locs 0 0 (MQ below (dkQv g z (fun I1 => dkF [(348, 348, 3, 3), (348, 348, 8, 34), (348, 348, 38, 38), (348, 348, 41, 41), (348, 348, 44, 44), (348, 348, 47, 47), (348, 348, 50, 50), (348, 348, 53, 53)] I0 I1 ∧ dkOk I1 ∧ I1 348 3 = I0 348 3 + 1 ∧ ((True)))) args s 0 0 (dkA z)) (F0 m 3 ls []) := by
    intro n
    induction n with
    | zero => intro I H locs ls x3_4 hn; exact absurd hn (Nat.not_lt_zero _)
    | succ n ih3 =>
      intro I3_ H locs ls x3_4 hn3 hW hS hF_3 hO k3_0 w3_0 hl
      have hF := hF_3
      refine lv_iload hx hb dX6_steps_3 (lv_at hl 4 rfl) ?_
      refine lv_aload_n hx hb dX6_steps_5 rfl (lv_at hl 0 rfl) ?_
      refine lv_iconst (v := 4) hx hb dX6_steps_6 (by decide) ?_
      refine dk_ild (k := 348) hx hb hK (dk_at348 hW) (dkN_in (n := 54) (dkN_lit (x := 4) (4) rfl) rfl) dX6_steps_7 ?_
      refine lv_topi (fun v48 ev48 => ?_)
      have ev48 : v48 = I3_ 348 4 := ev48
      have dv48 : dkN [(0, 5)] v48 := by rw [ev48]; exact (show dkN [(0, 5)] (I3_ 348 4) from (hO 348 4))
      refine lv_icmp_ge (tgt := 23) hx hb dX6_steps_8 (by decide) (fun c49 => ?_) (fun c49 => ?_)
      ·
        refine lv_iconst (v := 0) hx hb dX6_steps_23 (by decide) ?_
        refine lv_istore (lv' := [(4, .int 0), (0, .ref (z + 348)), (1, .int p0), (2, .int p1), (3, .int p2)]) hx hb dX6_steps_24 hl (by decide) rfl (fun ls hl => ?_)
        exact C26 _ I3_ _ _ ls 0 (Nat.lt_succ_self _) hW hS hF hO (dkN_sub (dkN_lit (x := 0) (0) rfl) rfl) w3_0 (lv_sub hl [1, 2, 3, 4, 0] rfl)
      ·
        have d50 : dkN [(1, 5)] v48 := dkN_le2 1 k3_0 dv48 (dkc_nle c49) rfl
        have f51 : dkN [(1, 5)] (I3_ 348 4) := by rw [← ev48]; exact d50
        have d52 : dkN [(0, 4)] x3_4 := dkN_le1 1 k3_0 dv48 (dkc_nle c49) rfl
        refine lv_aload_n hx hb dX6_steps_11 rfl (lv_at hl 0 rfl) ?_
        refine lv_iload hx hb dX6_steps_12 (lv_at hl 4 rfl) ?_
        refine dk_Sv (As := [.ref (z + 348), .int x3_4]) (rest := []) ⟨hx, hb, hml, hown, hts⟩ (c_X6_goesOut_1 l g z I3_ x3_4 d52 hO) (va_cwS 2 hts gX6_steps_X6_goesOut rfl rfl rfl (by decide +kernel) ⟨Nat.le_of_ble_eq_true rfl, Nat.le_of_ble_eq_true rfl⟩) hK hT hW hS rfl hl.1 rfl (Nat.le_of_ble_eq_true rfl) dX6_steps_14 ⟨Nat.zero_le _, Nat.zero_le _⟩ (fun I53 H53 L53 hp53 hW hS => ?_)
        obtain ⟨hF53, hO, hc53⟩ := hp53
        have hF := dkF_call hF hF53 rfl
        obtain ⟨v54, ev54⟩ : ∃ y : Int32, y = x3_4 + 1 := ⟨_, rfl⟩
        have dv54 : dkN [(1, 5)] v54 := by rw [ev54]; exact dkN_add d52 (dkN_lit (x := 1) (1) rfl) rfl
        refine lv_iinc (v := v54) (lv' := [(4, .int v54), (0, .ref (z + 348)), (1, .int p0), (2, .int p1), (3, .int p2)]) hx hb dX6_steps_17 hl (k := 4) rfl (by rw [ev54]; rfl) (by decide) rfl (fun ls hl => ?_)
        refine lv_goto (tgt := 3) hx hb dX6_steps_20 (by decide) ?_
        exact ih3 I53 _ _ ls v54 (dk_near hn3 (by rw [ev54]; exact dk_inc d52 rfl) (dkN_lt d52 rfl)) hW hS hF hO (dkN_sub dv54 rfl) ((hF53 348 3 rfl).trans w3_0) (lv_sub hl [1, 2, 3, 4, 0] rfl)
  refine lv_iconst (v := 0) hx hb dX6_steps_0 (by decide) ?_
  refine lv_istore (lv' := [(4, .int 0), (0, .ref (z + 348)), (1, .int p0), (2, .int p1), (3, .int p2)]) hx hb dX6_steps_1 hl (by decide) rfl (fun ls hl => ?_)
  exact C3 _ I0 _ _ ls 0 (Nat.lt_succ_self _) hW hS hF hO (dkN_sub (dkN_lit (x := 0) (0) rfl) rfl) rfl (lv_sub hl [1, 2, 3, 4, 0] rfl)
set_option maxHeartbeats 4000000 in
set_option maxRecDepth 100000 in
theorem c_X6_kingOf_1 (l : Launch) (g : dkG) (z : Nat) (I0 : dkI) (p0 : Int32) (dp0 : dkN [(0, 0)] p0)  (hO : dkOk I0) : Met l yX6_kingOf wsX6_kingOf (dkR 2) (dkPc g z [.ref (z + 348), .int p0] I0) (dkQi g z (fun r I1 => dkF [] I0 I1 ∧ dkOk I1 ∧ ((dkN [(-1000000, -1000000), (0, 4)] r ∧ True)))) 0 0 (dkA z) := by
  refine Met.ofW (cc := cX6_kingOf) (maxL := 6) (ret := (some .int)) (by decide) rfl ?_
  intro p e s m args below meth c s₁ B hml hv
  obtain ⟨ha, hW, hK, hT⟩ := hv
  have hx := B.exec
  have hb := B.bytes
  have hr := B.returns
  have hts := atoms_spec (ws := wsX6_kingOf) B.pre
  have hown : s.vm.findClass RX6 = some m.cls := findClass_of_methodNamed B.named
  have hlocks := B.notSynchronized
  have hS : va_S (dkA z) s.heap s.heap [] := va_S.rf
  have hF : dkF [] I0 I0 := dkF_rf _ _
  have hl := lv_entry ([.ref (z + 348), .int p0]) (n := 6) (Nat.le_of_ble_eq_true rfl)
  have hgo : entryFrame m args 6 = entryFrame m ([.ref (z + 348), .int p0] : List Value).toArray 6 := by rw [ha]
  rw [hgo, lg_entry_eq]
  generalize (lg_sl ([.ref (z + 348), .int p0]) ++ List.replicate (6 - (lg_sl ([.ref (z + 348), .int p0])).length) Slot.unset).toArray = ls at hl ⊢
  have hl : lv_has ls 6 [(0, .ref (z + 348)), (1, .int p0)] := hl
  have C8 : ∀ (n : Nat), ∀ (I : dkI) (H : Heap) (locs : List Loc) (ls : Array Slot) (x8_2 : Int32) (x8_3 : Int32) (x8_4 : Int32), (5 - x8_4.toInt).toNat < n → dkW g z I H → va_S (dkA z) s.heap H locs → dkF [] I0 I → dkOk I → dkN [(-1000000, -1000000), (0, 4)] x8_2 → dkN [(0, 2147483647)] x8_3 → dkN [(0, 5)] x8_4 → lv_has ls 6 [(0, .ref (z + 348)), (1, .int p0), (2, .int x8_2), (3, .int x8_3), (4, .int x8_4)] → W p l e (headSpec wsX6_kingOf (dkR 2)).room s m args below meth c H locs 0 0 (MQ below (dkQi g z (fun r I1 => dkF [] I0 I1 ∧ dkOk I1 ∧ ((dkN [(-1000000, -1000000), (0, 4)] r ∧ True)))) args s 0 0 (dkA z)) (F0 m 8 ls []) := by
    intro n
    induction n with
    | zero => intro I H locs ls x8_2 x8_3 x8_4 hn; exact absurd hn (Nat.not_lt_zero _)
    | succ n ih8 =>
      intro I8_ H locs ls x8_2 x8_3 x8_4 hn8 hW hS hF_8 hO k8_0 k8_1 k8_2 hl
      have hF := hF_8
      have C62 : ∀ (I : dkI) (H : Heap) (locs : List Loc) (ls : Array Slot) (x62_2 : Int32) (x62_5 : Int32) (x62_s0 : Int32), dkW g z I H → va_S (dkA z) s.heap H locs → dkF [] I0 I → dkOk I → dkN [(-1000000, -1000000), (0, 4)] x62_2 → dkN [(0, 2147483647)] x62_s0 → dkN [(0, 2147483647)] x8_3 → dkN [(0, 4)] x8_4 → dkN [(1, 5)] (I 348 4) → lv_has ls 6 [(0, .ref (z + 348)), (1, .int p0), (2, .int x62_2), (3, .int x8_3), (4, .int x8_4), (5, .int x62_5)] → W p l e (headSpec wsX6_kingOf (dkR 2)).room s m args below meth c H locs 0 0 (MQ below (dkQi g z (fun r I1 => dkF [] I0 I1 ∧ dkOk I1 ∧ ((dkN [(-1000000, -1000000), (0, 4)] r ∧ True)))) args s 0 0 (dkA z)) (F0 m 62 ls [.int x62_s0]) := by
        intro I62_ H locs ls x62_2 x62_5 x62_s0 hW hS hF_62 hO k62_0 k62_2 r62_0 r62_1 f62_0 hl
        have hF := hF_62
        refine lv_istore_n (lv' := [(3, .int x62_s0), (0, .ref (z + 348)), (1, .int p0), (2, .int x62_2), (4, .int x8_4), (5, .int x62_5)]) hx hb dX6_kingOf_62 rfl hl (by decide) rfl (fun ls hl => ?_)
        obtain ⟨v1, ev1⟩ : ∃ y : Int32, y = x8_4 + 1 := ⟨_, rfl⟩
        have dv1 : dkN [(1, 5)] v1 := by rw [ev1]; exact dkN_add r62_1 (dkN_lit (x := 1) (1) rfl) rfl
        refine lv_iinc (v := v1) (lv' := [(4, .int v1), (3, .int x62_s0), (0, .ref (z + 348)), (1, .int p0), (2, .int x62_2), (5, .int x62_5)]) hx hb dX6_kingOf_63 hl (k := 4) rfl (by rw [ev1]; rfl) (by decide) rfl (fun ls hl => ?_)
        refine lv_goto (tgt := 8) hx hb dX6_kingOf_66 (by decide) ?_
        exact ih8 I62_ _ _ ls x62_2 x62_s0 v1 (dk_near hn8 (by rw [ev1]; exact dk_inc r62_1 rfl) (dkN_lt r62_1 rfl)) hW hS hF hO (dkN_sub k62_0 rfl) (dkN_sub k62_2 rfl) (dkN_sub dv1 rfl) (lv_sub hl [2, 3, 4, 1, 0] rfl)
      have C49 : ∀ (I : dkI) (H : Heap) (locs : List Loc) (ls : Array Slot) (x49_5 : Int32) (x49_s0 : Int32), dkW g z I H → va_S (dkA z) s.heap H locs → dkF [] I0 I → dkOk I → dkN [(-1000000, -1000000), (0, 4)] x49_s0 → dkN [(-1000000, -1000000), (0, 4)] x8_2 → dkN [(0, 2147483647)] x8_3 → dkN [(0, 4)] x8_4 → dkN [(1, 5)] (I 348 4) → lv_has ls 6 [(0, .ref (z + 348)), (1, .int p0), (2, .int x8_2), (3, .int x8_3), (4, .int x8_4), (5, .int x49_5)] → W p l e (headSpec wsX6_kingOf (dkR 2)).room s m args below meth c H locs 0 0 (MQ below (dkQi g z (fun r I1 => dkF [] I0 I1 ∧ dkOk I1 ∧ ((dkN [(-1000000, -1000000), (0, 4)] r ∧ True)))) args s 0 0 (dkA z)) (F0 m 49 ls [.int x49_s0]) := by
        intro I49_ H locs ls x49_5 x49_s0 hW hS hF_49 hO k49_1 r49_0 r49_1 r49_2 f49_0 hl
        have hF := hF_49
        refine lv_istore_n (lv' := [(2, .int x49_s0), (0, .ref (z + 348)), (1, .int p0), (3, .int x8_3), (4, .int x8_4), (5, .int x49_5)]) hx hb dX6_kingOf_49 rfl hl (by decide) rfl (fun ls hl => ?_)
        refine lv_iload hx hb dX6_kingOf_50 (lv_at hl 5 rfl) ?_
        refine lv_iload_n hx hb dX6_kingOf_52 rfl (lv_at hl 3 rfl) ?_
        refine lv_icmp_le (tgt := 61) hx hb dX6_kingOf_53 (by decide) (fun c2 => ?_) (fun c2 => ?_)
        ·
          refine lv_iload_n hx hb dX6_kingOf_61 rfl (lv_at hl 3 rfl) ?_
          exact C62 I49_ _ _ ls x49_s0 x49_5 x8_3 hW hS hF hO (dkN_sub k49_1 rfl) (dkN_sub r49_1 rfl) (dkN_sub r49_1 rfl) (dkN_sub r49_2 rfl) (show dkN [(1, 5)] (I49_ 348 4) from dkN_sub f49_0 rfl) (lv_sub hl [1, 2, 0, 3, 4, 5] rfl)
        ·
          have d3 : dkN [(1, 2147483647)] x49_5 := dkN_le2 1 r49_1 (dkN_top x49_5) (dkc_nle c2) rfl
          have d4 : dkN [(0, 2147483646)] x8_3 := dkN_le1 1 r49_1 (dkN_top x49_5) (dkc_nle c2) rfl
          refine lv_iload hx hb dX6_kingOf_56 (lv_at hl 5 rfl) ?_
          refine lv_goto (tgt := 62) hx hb dX6_kingOf_58 (by decide) ?_
          exact C62 I49_ _ _ ls x49_s0 x49_5 x49_5 hW hS hF hO (dkN_sub k49_1 rfl) (dkN_sub d3 rfl) (dkN_sub d4 rfl) (dkN_sub r49_2 rfl) (show dkN [(1, 5)] (I49_ 348 4) from dkN_sub f49_0 rfl) (lv_sub hl [1, 2, 0, 3, 4, 5] rfl)
      refine lv_iload hx hb dX6_kingOf_8 (lv_at hl 4 rfl) ?_
      refine lv_aload_n hx hb dX6_kingOf_10 rfl (lv_at hl 0 rfl) ?_
      refine lv_iconst (v := 4) hx hb dX6_kingOf_11 (by decide) ?_
      refine dk_ild (k := 348) hx hb hK (dk_at348 hW) (dkN_in (n := 54) (dkN_lit (x := 4) (4) rfl) rfl) dX6_kingOf_12 ?_
      refine lv_topi (fun v5 ev5 => ?_)
      have ev5 : v5 = I8_ 348 4 := ev5
      have dv5 : dkN [(0, 5)] v5 := by rw [ev5]; exact (show dkN [(0, 5)] (I8_ 348 4) from (hO 348 4))
      refine lv_icmp_ge (tgt := 69) hx hb dX6_kingOf_13 (by decide) (fun c6 => ?_) (fun c6 => ?_)
      ·
        refine lv_iload_n hx hb dX6_kingOf_69 rfl (lv_at hl 2 rfl) ?_
        exact W.iret (v := x8_2) hx hb hr (fun t ht hW9 => ⟨⟨x8_2, I8_, rfl, ⟨hF, hO, ⟨dkN_sub k8_0 rfl, trivial⟩⟩, dkW_eq ht hW⟩, hS.F ht⟩) hS.2.2 dX6_kingOf_70
      ·
        have d7 : dkN [(1, 5)] v5 := dkN_le2 1 k8_2 dv5 (dkc_nle c6) rfl
        have f8 : dkN [(1, 5)] (I8_ 348 4) := by rw [← ev5]; exact d7
        have d9 : dkN [(0, 4)] x8_4 := dkN_le1 1 k8_2 dv5 (dkc_nle c6) rfl
        refine lv_aload_n hx hb dX6_kingOf_16 rfl (lv_at hl 0 rfl) ?_
        refine lv_aload_n hx hb dX6_kingOf_17 rfl (lv_at hl 0 rfl) ?_
        refine lv_bipush (v := 6) hx hb dX6_kingOf_18 (by decide) ?_
        refine lv_bipush (v := 6) hx hb dX6_kingOf_20 (by decide) ?_
        refine lv_iload hx hb dX6_kingOf_22 (lv_at hl 4 rfl) ?_
        refine lv_imul hx hb dX6_kingOf_24 ?_
        refine lv_topi (fun v10 ev10 => ?_)
        have dv10 : dkN [(0, 24)] v10 := by rw [ev10]; exact dkN_mulL 6 (by decide) (dkN_lit (x := 6) (6) rfl) d9 rfl
        refine lv_iadd hx hb dX6_kingOf_25 ?_
        refine lv_topi (fun v11 ev11 => ?_)
        have dv11 : dkN [(6, 30)] v11 := by rw [ev11]; exact dkN_add (dkN_lit (x := 6) (6) rfl) dv10 rfl
        refine lv_iconst (v := 4) hx hb dX6_kingOf_26 (by decide) ?_
        refine lv_iadd hx hb dX6_kingOf_27 ?_
        refine lv_topi (fun v12 ev12 => ?_)
        have dv12 : dkN [(10, 34)] v12 := by rw [ev12]; exact dkN_add dv11 (dkN_lit (x := 4) (4) rfl) rfl
        refine dk_ild (k := 348) hx hb hK (dk_at348 hW) (dkN_in (n := 54) dv12 rfl) dX6_kingOf_28 ?_
        refine lv_topi (fun v13 ev13 => ?_)
        refine lv_ldc (v := (-1000000)) hx hb hown (hts (.constant RX6 50 (-1000000)) (List.mem_of_getElem? (i := 1) rfl)) dX6_kingOf_29 ?_
        refine lv_iload_n hx hb dX6_kingOf_31 rfl (lv_at hl 1 rfl) ?_
        refine dk_Si (As := [.ref (z + 348), .int v13, .int ((-1000000)), .int p0]) (rest := []) ⟨hx, hb, hml, hown, hts⟩ (c_X6_othersIn_1 l g z I8_ v13 ((-1000000)) p0 (dkN_sub (dkN_lit (x := (-1000000)) (-1000000) rfl) rfl) hO) (va_cwS 4 hts gX6_kingOf_X6_othersIn rfl rfl rfl (by decide +kernel) ⟨Nat.le_of_ble_eq_true rfl, Nat.le_of_ble_eq_true rfl⟩) hK hT hW hS rfl hl.1 rfl (Nat.le_of_ble_eq_true rfl) dX6_kingOf_32 ⟨Nat.zero_le _, Nat.zero_le _⟩ (fun v14 I14 H14 L14 hp14 hW hS => ?_)
        obtain ⟨hF14, hO, hc14⟩ := hp14
        have hF := dkF_call hF hF14 rfl
        obtain ⟨_, -⟩ := hc14
        refine lv_istore (lv' := [(5, .int v14), (0, .ref (z + 348)), (1, .int p0), (2, .int x8_2), (3, .int x8_3), (4, .int x8_4)]) hx hb dX6_kingOf_35 hl (by decide) rfl (fun ls hl => ?_)
        refine lv_iload hx hb dX6_kingOf_37 (lv_at hl 0 rfl) ?_
        refine lv_iload_n hx hb dX6_kingOf_39 rfl (lv_at hl 4 rfl) ?_
        refine lv_icmp_le (tgt := 48) hx hb dX6_kingOf_40 (by decide) (fun c15 => ?_) (fun c15 => ?_)
        ·
          refine lv_iload_n hx hb dX6_kingOf_48 rfl (lv_at hl 3 rfl) ?_
          exact C49 I14 _ _ ls v14 x8_2 hW hS hF hO (dkN_sub k8_0 rfl) (dkN_sub k8_0 rfl) (dkN_sub k8_1 rfl) (dkN_sub d9 rfl) (show dkN [(1, 5)] (I14 348 4) from dkN_sub (by rw [hF14 348 4 rfl]; exact f8) rfl) (lv_sub hl [1, 2, 3, 4, 5, 0] rfl)
        ·
          have d16 : dkN [(1, 2147483647)] v14 := dkN_le2 1 k8_1 (dkN_top v14) (dkc_nle c15) rfl
          have d17 : dkN [(0, 2147483646)] x8_3 := dkN_le1 1 k8_1 (dkN_top v14) (dkc_nle c15) rfl
          refine lv_iload hx hb dX6_kingOf_43 (lv_at hl 5 rfl) ?_
          refine lv_goto (tgt := 49) hx hb dX6_kingOf_45 (by decide) ?_
          exact C49 I14 _ _ ls v14 x8_4 hW hS hF hO (dkN_sub d9 rfl) (dkN_sub k8_0 rfl) (dkN_sub d17 rfl) (dkN_sub d9 rfl) (show dkN [(1, 5)] (I14 348 4) from dkN_sub (by rw [hF14 348 4 rfl]; exact f8) rfl) (lv_sub hl [1, 2, 3, 4, 5, 0] rfl)
  refine lv_ldc (v := (-1000000)) hx hb hown (hts (.constant RX6 50 (-1000000)) (List.mem_of_getElem? (i := 1) rfl)) dX6_kingOf_0 ?_
  refine lv_istore_n (lv' := [(2, .int ((-1000000))), (0, .ref (z + 348)), (1, .int p0)]) hx hb dX6_kingOf_2 rfl hl (by decide) rfl (fun ls hl => ?_)
  refine lv_iconst (v := 0) hx hb dX6_kingOf_3 (by decide) ?_
  refine lv_istore_n (lv' := [(3, .int 0), (2, .int ((-1000000))), (0, .ref (z + 348)), (1, .int p0)]) hx hb dX6_kingOf_4 rfl hl (by decide) rfl (fun ls hl => ?_)
  refine lv_iconst (v := 0) hx hb dX6_kingOf_5 (by decide) ?_
  refine lv_istore (lv' := [(4, .int 0), (3, .int 0), (2, .int ((-1000000))), (0, .ref (z + 348)), (1, .int p0)]) hx hb dX6_kingOf_6 hl (by decide) rfl (fun ls hl => ?_)
  exact C8 _ I0 _ _ ls ((-1000000)) 0 0 (Nat.lt_succ_self _) hW hS hF hO (dkN_sub (dkN_lit (x := (-1000000)) (-1000000) rfl) rfl) (dkN_sub (dkN_lit (x := 0) (0) rfl) rfl) (dkN_sub (dkN_lit (x := 0) (0) rfl) rfl) (lv_sub hl [3, 4, 2, 1, 0] rfl)
set_option maxHeartbeats 4000000 in
set_option maxRecDepth 100000 in
theorem c_X6_rings_1 (l : Launch) (g : dkG) (z : Nat) (I0 : dkI)  (hO : dkOk I0) : Met l yX6_rings wsX6_rings (dkR 3) (dkPc g z [.ref (z + 348)] I0) (dkQi g z (fun r I1 => dkF [(348, 348, 2, 3), (348, 348, 10, 35), (348, 348, 38, 38), (348, 348, 41, 41), (348, 348, 44, 44), (348, 348, 47, 47), (348, 348, 50, 50), (348, 348, 53, 53)] I0 I1 ∧ dkOk I1 ∧ ((dkN [(-1000000, -1000000), (0, 4)] r ∧ dkN [(0, 0)] (I1 348 3) ∧ True)))) 0 0 (dkA z) := by
  refine Met.ofW (cc := cX6_rings) (maxL := 3) (ret := (some .int)) (by decide) rfl ?_
  intro p e s m args below meth c s₁ B hml hv
  obtain ⟨ha, hW, hK, hT⟩ := hv
  have hx := B.exec
  have hb := B.bytes
  have hr := B.returns
  have hts := atoms_spec (ws := wsX6_rings) B.pre
  have hown : s.vm.findClass RX6 = some m.cls := findClass_of_methodNamed B.named
  have hlocks := B.notSynchronized
  have hS : va_S (dkA z) s.heap s.heap [] := va_S.rf
  have hF : dkF [(348, 348, 2, 3), (348, 348, 10, 35), (348, 348, 38, 38), (348, 348, 41, 41), (348, 348, 44, 44), (348, 348, 47, 47), (348, 348, 50, 50), (348, 348, 53, 53)] I0 I0 := dkF_rf _ _
  have hl := lv_entry ([.ref (z + 348)]) (n := 3) (Nat.le_of_ble_eq_true rfl)
  have hgo : entryFrame m args 3 = entryFrame m ([.ref (z + 348)] : List Value).toArray 3 := by rw [ha]
  rw [hgo, lg_entry_eq]
  generalize (lg_sl ([.ref (z + 348)]) ++ List.replicate (3 - (lg_sl ([.ref (z + 348)])).length) Slot.unset).toArray = ls at hl ⊢
  have hl : lv_has ls 3 [(0, .ref (z + 348))] := hl
  have C85 : ∀ (n : Nat), ∀ (I : dkI) (H : Heap) (locs : List Loc) (ls : Array Slot) (x85_1 : Int32) (x85_2 : Int32), (6 - x85_2.toInt).toNat < n → dkW g z I H → va_S (dkA z) s.heap H locs → dkF [(348, 348, 2, 3), (348, 348, 10, 35), (348, 348, 38, 38), (348, 348, 41, 41), (348, 348, 44, 44), (348, 348, 47, 47), (348, 348, 50, 50), (348, 348, 53, 53)] I0 I → dkOk I → dkN [(-1000000, -1000000), (0, 4)] x85_1 → dkN [(0, 6)] x85_2 → lv_has ls 3 [(0, .ref (z + 348)), (1, .int x85_1), (2, .int x85_2)] → W p l e (headSpec wsX6_rings (dkR 3)).room s m args below meth c H locs 0 0 (MQ below (dkQi g z (fun r I1 => dkF [(348, 348, 2, 3), (348, 348, 10, 35), (348, 348, 38, 38), (348, 348, 41, 41), (348, 348, 44, 44), (348, 348, 47, 47), (348, 348, 50, 50), (348, 348, 53, 53)] I0 I1 ∧ dkOk I1 ∧ ((dkN [(-1000000, -1000000), (0, 4)] r ∧ dkN [(0, 0)] (I1 348 3) ∧ True)))) args s 0 0 (dkA z)) (F0 m 85 ls []) := by
    intro n
    induction n with
    | zero => intro I H locs ls x85_1 x85_2 hn; exact absurd hn (Nat.not_lt_zero _)
    | succ n ih85 =>
      intro I85_ H locs ls x85_1 x85_2 hn85 hW hS hF_85 hO k85_0 k85_1 hl
      have hF := hF_85
      refine lv_iload_n hx hb dX6_rings_85 rfl (lv_at hl 2 rfl) ?_
      refine lv_aload_n hx hb dX6_rings_86 rfl (lv_at hl 0 rfl) ?_
      refine lv_iconst (v := 5) hx hb dX6_rings_87 (by decide) ?_
      refine dk_ild (k := 348) hx hb hK (dk_at348 hW) (dkN_in (n := 54) (dkN_lit (x := 5) (5) rfl) rfl) dX6_rings_88 ?_
      refine lv_topi (fun v1 ev1 => ?_)
      have ev1 : v1 = I85_ 348 5 := ev1
      have dv1 : dkN [(0, 6)] v1 := by rw [ev1]; exact (show dkN [(0, 6)] (I85_ 348 5) from (hO 348 5))
      refine lv_icmp_ge (tgt := 118) hx hb dX6_rings_89 (by decide) (fun c2 => ?_) (fun c2 => ?_)
      ·
        refine lv_aload_n hx hb dX6_rings_118 rfl (lv_at hl 0 rfl) ?_
        refine lv_iconst (v := 3) hx hb dX6_rings_119 (by decide) ?_
        refine lv_iconst (v := 0) hx hb dX6_rings_120 (by decide) ?_
        refine dk_ist (k := 348) hx hb hK hW (fun _ => rfl) (by decide) hS (dkN_in (n := 54) (dkN_lit (x := 3) (3) rfl) rfl) dX6_rings_121 (fun I3 H3 L3 eI3 hW hS => ?_)
        have eI3 : I3 = dkU I85_ 348 3 0 := eI3
        have hO := dkO_set hO eI3 (dkN_sub (dkN_lit (x := 0) (0) rfl) rfl)
        have hF := dkF_set hF eI3 rfl
        refine lv_aload_n hx hb dX6_rings_122 rfl (lv_at hl 0 rfl) ?_
        refine lv_iconst (v := 2) hx hb dX6_rings_123 (by decide) ?_
        refine lv_dup2_11 hx hb dX6_rings_124 rfl rfl ?_
        refine dk_ild (k := 348) hx hb hK (dk_at348 hW) (dkN_in (n := 54) (dkN_lit (x := 2) (2) rfl) rfl) dX6_rings_125 ?_
        refine lv_topi (fun v4 ev4 => ?_)
        have ev4 : v4 = I3 348 2 := ev4
        refine lv_iconst (v := 1) hx hb dX6_rings_126 (by decide) ?_
        refine lv_iadd hx hb dX6_rings_127 ?_
        refine lv_topi (fun v5 ev5 => ?_)
        refine dk_ist (k := 348) hx hb hK hW (fun _ => rfl) (by decide) hS (dkN_in (n := 54) (dkN_lit (x := 2) (2) rfl) rfl) dX6_rings_128 (fun I6 H6 L6 eI6 hW hS => ?_)
        have eI6 : I6 = dkU I3 348 2 v5 := eI6
        have hO := dkO_set hO eI6 (dkN_sub (dkN_top v5) rfl)
        have hF := dkF_set hF eI6 rfl
        refine lv_iload_n hx hb dX6_rings_129 rfl (lv_at hl 1 rfl) ?_
        exact W.iret (v := x85_1) hx hb hr (fun t ht hW9 => ⟨⟨x85_1, I6, rfl, ⟨hF, hO, ⟨dkN_sub k85_0 rfl, (show dkN [(0, 0)] (I6 348 3) from dkN_sub (by rw [eI6, dkU_sn (by decide)]; exact (by rw [eI3, dkU_ss]; exact (dkN_lit (x := 0) (0) rfl))) rfl), trivial⟩⟩, dkW_eq ht hW⟩, hS.F ht⟩) hS.2.2 dX6_rings_130
      ·
        have d7 : dkN [(1, 6)] v1 := dkN_le2 1 k85_1 dv1 (dkc_nle c2) rfl
        have f8 : dkN [(1, 6)] (I85_ 348 5) := by rw [← ev1]; exact d7
        have d9 : dkN [(0, 5)] x85_2 := dkN_le1 1 k85_1 dv1 (dkc_nle c2) rfl
        refine lv_aload_n hx hb dX6_rings_92 rfl (lv_at hl 0 rfl) ?_
        refine lv_bipush (v := 36) hx hb dX6_rings_93 (by decide) ?_
        refine lv_iconst (v := 3) hx hb dX6_rings_95 (by decide) ?_
        refine lv_iload_n hx hb dX6_rings_96 rfl (lv_at hl 2 rfl) ?_
        refine lv_imul hx hb dX6_rings_97 ?_
        refine lv_topi (fun v10 ev10 => ?_)
        have dv10 : dkN [(0, 0), (3, 3), (6, 6), (9, 9), (12, 12), (15, 15)] v10 := by rw [ev10]; exact dkN_mulPt 3 (dkN_lit (x := 3) (3) rfl) d9 rfl
        refine lv_iadd hx hb dX6_rings_98 ?_
        refine lv_topi (fun v11 ev11 => ?_)
        have dv11 : dkN [(36, 36), (39, 39), (42, 42), (45, 45), (48, 48), (51, 51)] v11 := by rw [ev11]; exact dkN_add (dkN_lit (x := 36) (36) rfl) dv10 rfl
        refine lv_iconst (v := 2) hx hb dX6_rings_99 (by decide) ?_
        refine lv_iadd hx hb dX6_rings_100 ?_
        refine lv_topi (fun v12 ev12 => ?_)
        have dv12 : dkN [(38, 38), (41, 41), (44, 44), (47, 47), (50, 50), (53, 53)] v12 := by rw [ev12]; exact dkN_add dv11 (dkN_lit (x := 2) (2) rfl) rfl
        refine lv_aload_n hx hb dX6_rings_101 rfl (lv_at hl 0 rfl) ?_
        refine lv_bipush (v := 36) hx hb dX6_rings_102 (by decide) ?_
        refine lv_iconst (v := 3) hx hb dX6_rings_104 (by decide) ?_
        refine lv_iload_n hx hb dX6_rings_105 rfl (lv_at hl 2 rfl) ?_
        refine lv_imul hx hb dX6_rings_106 ?_
        refine lv_topi (fun v13 ev13 => ?_)
        have dv13 : dkN [(0, 0), (3, 3), (6, 6), (9, 9), (12, 12), (15, 15)] v13 := by rw [ev13]; exact dkN_mulPt 3 (dkN_lit (x := 3) (3) rfl) d9 rfl
        refine lv_iadd hx hb dX6_rings_107 ?_
        refine lv_topi (fun v14 ev14 => ?_)
        have dv14 : dkN [(36, 36), (39, 39), (42, 42), (45, 45), (48, 48), (51, 51)] v14 := by rw [ev14]; exact dkN_add (dkN_lit (x := 36) (36) rfl) dv13 rfl
        refine lv_iconst (v := 1) hx hb dX6_rings_108 (by decide) ?_
        refine lv_iadd hx hb dX6_rings_109 ?_
        refine lv_topi (fun v15 ev15 => ?_)
        have dv15 : dkN [(37, 37), (40, 40), (43, 43), (46, 46), (49, 49), (52, 52)] v15 := by rw [ev15]; exact dkN_add dv14 (dkN_lit (x := 1) (1) rfl) rfl
        refine dk_ild (k := 348) hx hb hK (dk_at348 hW) (dkN_in (n := 54) dv15 rfl) dX6_rings_110 ?_
        refine lv_topi (fun v16 ev16 => ?_)
        refine dk_ist (k := 348) hx hb hK hW (fun _ => rfl) (by decide) hS (dkN_in (n := 54) dv12 rfl) dX6_rings_111 (fun I17 H17 L17 eI17 hW hS => ?_)
        have hO := dkO_set hO eI17 (by rw [dkB_w (k := 348) (B := [(-2147483648, 2147483647)]) (by decide) dv12 rfl]; exact dkN_top _)
        have hF := dkF_set hF eI17 (dkIn_v dv12 rfl)
        obtain ⟨v18, ev18⟩ : ∃ y : Int32, y = x85_2 + 1 := ⟨_, rfl⟩
        have dv18 : dkN [(1, 6)] v18 := by rw [ev18]; exact dkN_add d9 (dkN_lit (x := 1) (1) rfl) rfl
        refine lv_iinc (v := v18) (lv' := [(2, .int v18), (0, .ref (z + 348)), (1, .int x85_1)]) hx hb dX6_rings_112 hl (k := 2) rfl (by rw [ev18]; rfl) (by decide) rfl (fun ls hl => ?_)
        refine lv_goto (tgt := 85) hx hb dX6_rings_115 (by decide) ?_
        exact ih85 I17 _ _ ls x85_1 v18 (dk_near hn85 (by rw [ev18]; exact dk_inc d9 rfl) (dkN_lt d9 rfl)) hW hS hF hO (dkN_sub k85_0 rfl) (dkN_sub dv18 rfl) (lv_sub hl [1, 2, 0] rfl)
  have C50 : ∀ (n : Nat), ∀ (I : dkI) (H : Heap) (locs : List Loc) (ls : Array Slot) (x50_1 : Int32) (x50_2 : Int32), (5 - x50_2.toInt).toNat < n → dkW g z I H → va_S (dkA z) s.heap H locs → dkF [(348, 348, 2, 3), (348, 348, 10, 35), (348, 348, 38, 38), (348, 348, 41, 41), (348, 348, 44, 44), (348, 348, 47, 47), (348, 348, 50, 50), (348, 348, 53, 53)] I0 I → dkOk I → dkN [(-1000000, -1000000), (0, 4)] x50_1 → dkN [(0, 5)] x50_2 → lv_has ls 3 [(0, .ref (z + 348)), (1, .int x50_1), (2, .int x50_2)] → W p l e (headSpec wsX6_rings (dkR 3)).room s m args below meth c H locs 0 0 (MQ below (dkQi g z (fun r I1 => dkF [(348, 348, 2, 3), (348, 348, 10, 35), (348, 348, 38, 38), (348, 348, 41, 41), (348, 348, 44, 44), (348, 348, 47, 47), (348, 348, 50, 50), (348, 348, 53, 53)] I0 I1 ∧ dkOk I1 ∧ ((dkN [(-1000000, -1000000), (0, 4)] r ∧ dkN [(0, 0)] (I1 348 3) ∧ True)))) args s 0 0 (dkA z)) (F0 m 50 ls []) := by
    intro n
    induction n with
    | zero => intro I H locs ls x50_1 x50_2 hn; exact absurd hn (Nat.not_lt_zero _)
    | succ n ih50 =>
      intro I50_ H locs ls x50_1 x50_2 hn50 hW hS hF_50 hO k50_0 k50_1 hl
      have hF := hF_50
      refine lv_iload_n hx hb dX6_rings_50 rfl (lv_at hl 2 rfl) ?_
      refine lv_aload_n hx hb dX6_rings_51 rfl (lv_at hl 0 rfl) ?_
      refine lv_iconst (v := 4) hx hb dX6_rings_52 (by decide) ?_
      refine dk_ild (k := 348) hx hb hK (dk_at348 hW) (dkN_in (n := 54) (dkN_lit (x := 4) (4) rfl) rfl) dX6_rings_53 ?_
      refine lv_topi (fun v19 ev19 => ?_)
      have ev19 : v19 = I50_ 348 4 := ev19
      have dv19 : dkN [(0, 5)] v19 := by rw [ev19]; exact (show dkN [(0, 5)] (I50_ 348 4) from (hO 348 4))
      refine lv_icmp_ge (tgt := 83) hx hb dX6_rings_54 (by decide) (fun c20 => ?_) (fun c20 => ?_)
      ·
        refine lv_iconst (v := 0) hx hb dX6_rings_83 (by decide) ?_
        refine lv_istore_n (lv' := [(2, .int 0), (0, .ref (z + 348)), (1, .int x50_1)]) hx hb dX6_rings_84 rfl hl (by decide) rfl (fun ls hl => ?_)
        exact C85 _ I50_ _ _ ls x50_1 0 (Nat.lt_succ_self _) hW hS hF hO (dkN_sub k50_0 rfl) (dkN_sub (dkN_lit (x := 0) (0) rfl) rfl) (lv_sub hl [1, 2, 0] rfl)
      ·
        have d21 : dkN [(1, 5)] v19 := dkN_le2 1 k50_1 dv19 (dkc_nle c20) rfl
        have f22 : dkN [(1, 5)] (I50_ 348 4) := by rw [← ev19]; exact d21
        have d23 : dkN [(0, 4)] x50_2 := dkN_le1 1 k50_1 dv19 (dkc_nle c20) rfl
        refine lv_aload_n hx hb dX6_rings_57 rfl (lv_at hl 0 rfl) ?_
        refine lv_bipush (v := 6) hx hb dX6_rings_58 (by decide) ?_
        refine lv_bipush (v := 6) hx hb dX6_rings_60 (by decide) ?_
        refine lv_iload_n hx hb dX6_rings_62 rfl (lv_at hl 2 rfl) ?_
        refine lv_imul hx hb dX6_rings_63 ?_
        refine lv_topi (fun v24 ev24 => ?_)
        have dv24 : dkN [(0, 24)] v24 := by rw [ev24]; exact dkN_mulL 6 (by decide) (dkN_lit (x := 6) (6) rfl) d23 rfl
        refine lv_iadd hx hb dX6_rings_64 ?_
        refine lv_topi (fun v25 ev25 => ?_)
        have dv25 : dkN [(6, 30)] v25 := by rw [ev25]; exact dkN_add (dkN_lit (x := 6) (6) rfl) dv24 rfl
        refine lv_iconst (v := 4) hx hb dX6_rings_65 (by decide) ?_
        refine lv_iadd hx hb dX6_rings_66 ?_
        refine lv_topi (fun v26 ev26 => ?_)
        have dv26 : dkN [(10, 34)] v26 := by rw [ev26]; exact dkN_add dv25 (dkN_lit (x := 4) (4) rfl) rfl
        refine lv_aload_n hx hb dX6_rings_67 rfl (lv_at hl 0 rfl) ?_
        refine lv_bipush (v := 6) hx hb dX6_rings_68 (by decide) ?_
        refine lv_bipush (v := 6) hx hb dX6_rings_70 (by decide) ?_
        refine lv_iload_n hx hb dX6_rings_72 rfl (lv_at hl 2 rfl) ?_
        refine lv_imul hx hb dX6_rings_73 ?_
        refine lv_topi (fun v27 ev27 => ?_)
        have dv27 : dkN [(0, 24)] v27 := by rw [ev27]; exact dkN_mulL 6 (by decide) (dkN_lit (x := 6) (6) rfl) d23 rfl
        refine lv_iadd hx hb dX6_rings_74 ?_
        refine lv_topi (fun v28 ev28 => ?_)
        have dv28 : dkN [(6, 30)] v28 := by rw [ev28]; exact dkN_add (dkN_lit (x := 6) (6) rfl) dv27 rfl
        refine dk_ild (k := 348) hx hb hK (dk_at348 hW) (dkN_in (n := 54) dv28 rfl) dX6_rings_75 ?_
        refine lv_topi (fun v29 ev29 => ?_)
        refine dk_ist (k := 348) hx hb hK hW (fun _ => rfl) (by decide) hS (dkN_in (n := 54) dv26 rfl) dX6_rings_76 (fun I30 H30 L30 eI30 hW hS => ?_)
        have hO := dkO_set hO eI30 (by rw [dkB_w (k := 348) (B := [(-2147483648, 2147483647)]) (by decide) dv26 rfl]; exact dkN_top _)
        have hF := dkF_set hF eI30 (dkIn_v dv26 rfl)
        obtain ⟨v31, ev31⟩ : ∃ y : Int32, y = x50_2 + 1 := ⟨_, rfl⟩
        have dv31 : dkN [(1, 5)] v31 := by rw [ev31]; exact dkN_add d23 (dkN_lit (x := 1) (1) rfl) rfl
        refine lv_iinc (v := v31) (lv' := [(2, .int v31), (0, .ref (z + 348)), (1, .int x50_1)]) hx hb dX6_rings_77 hl (k := 2) rfl (by rw [ev31]; rfl) (by decide) rfl (fun ls hl => ?_)
        refine lv_goto (tgt := 50) hx hb dX6_rings_80 (by decide) ?_
        exact ih50 I30 _ _ ls x50_1 v31 (dk_near hn50 (by rw [ev31]; exact dk_inc d23 rfl) (dkN_lt d23 rfl)) hW hS hF hO (dkN_sub k50_0 rfl) (dkN_sub dv31 rfl) (lv_sub hl [1, 2, 0] rfl)
  have C48 : ∀ (I : dkI) (H : Heap) (locs : List Loc) (ls : Array Slot) (x48_1 : Int32), dkW g z I H → va_S (dkA z) s.heap H locs → dkF [(348, 348, 2, 3), (348, 348, 10, 35), (348, 348, 38, 38), (348, 348, 41, 41), (348, 348, 44, 44), (348, 348, 47, 47), (348, 348, 50, 50), (348, 348, 53, 53)] I0 I → dkOk I → dkN [(-1000000, -1000000), (0, 4)] x48_1 → lv_has ls 3 [(0, .ref (z + 348)), (1, .int x48_1)] → W p l e (headSpec wsX6_rings (dkR 3)).room s m args below meth c H locs 0 0 (MQ below (dkQi g z (fun r I1 => dkF [(348, 348, 2, 3), (348, 348, 10, 35), (348, 348, 38, 38), (348, 348, 41, 41), (348, 348, 44, 44), (348, 348, 47, 47), (348, 348, 50, 50), (348, 348, 53, 53)] I0 I1 ∧ dkOk I1 ∧ ((dkN [(-1000000, -1000000), (0, 4)] r ∧ dkN [(0, 0)] (I1 348 3) ∧ True)))) args s 0 0 (dkA z)) (F0 m 48 ls []) := by
    intro I48_ H locs ls x48_1 hW hS hF_48 hO k48_0 hl
    have hF := hF_48
    refine lv_iconst (v := 0) hx hb dX6_rings_48 (by decide) ?_
    refine lv_istore_n (lv' := [(2, .int 0), (0, .ref (z + 348)), (1, .int x48_1)]) hx hb dX6_rings_49 rfl hl (by decide) rfl (fun ls hl => ?_)
    exact C50 _ I48_ _ _ ls x48_1 0 (Nat.lt_succ_self _) hW hS hF hO (dkN_sub k48_0 rfl) (dkN_sub (dkN_lit (x := 0) (0) rfl) rfl) (lv_sub hl [1, 2, 0] rfl)
  have C46 : ∀ (I : dkI) (H : Heap) (locs : List Loc) (ls : Array Slot) (x46_1 : Int32) (x46_s0 : Int32) (x46_s1 : Int32) (x46_s2 : Int32), dkW g z I H → va_S (dkA z) s.heap H locs → dkF [(348, 348, 2, 3), (348, 348, 10, 35), (348, 348, 38, 38), (348, 348, 41, 41), (348, 348, 44, 44), (348, 348, 47, 47), (348, 348, 50, 50), (348, 348, 53, 53)] I0 I → dkOk I → dkN [(0, 4)] x46_1 → dkN [(0, 1)] x46_s0 → dkN [(11, 35)] x46_s2 → lv_has ls 3 [(0, .ref (z + 348)), (1, .int x46_1)] → W p l e (headSpec wsX6_rings (dkR 3)).room s m args below meth c H locs 0 0 (MQ below (dkQi g z (fun r I1 => dkF [(348, 348, 2, 3), (348, 348, 10, 35), (348, 348, 38, 38), (348, 348, 41, 41), (348, 348, 44, 44), (348, 348, 47, 47), (348, 348, 50, 50), (348, 348, 53, 53)] I0 I1 ∧ dkOk I1 ∧ ((dkN [(-1000000, -1000000), (0, 4)] r ∧ dkN [(0, 0)] (I1 348 3) ∧ True)))) args s 0 0 (dkA z)) (F0 m 46 ls [.int x46_s0, .int x46_s1, .int x46_s2, .ref (z + 348)]) := by
    intro I46_ H locs ls x46_1 x46_s0 x46_s1 x46_s2 hW hS hF_46 hO k46_0 k46_1 k46_3 hl
    have hF := hF_46
    refine lv_iadd hx hb dX6_rings_46 ?_
    refine lv_topi (fun v32 ev32 => ?_)
    refine dk_ist (k := 348) hx hb hK hW (fun _ => rfl) (by decide) hS (dkN_in (n := 54) k46_3 rfl) dX6_rings_47 (fun I33 H33 L33 eI33 hW hS => ?_)
    have hO := dkO_set hO eI33 (by rw [dkB_w (k := 348) (B := [(-2147483648, 2147483647)]) (by decide) k46_3 rfl]; exact dkN_top _)
    have hF := dkF_set hF eI33 (dkIn_v k46_3 rfl)
    exact C48 I33 _ _ ls x46_1 hW hS hF hO (dkN_sub k46_0 rfl) (lv_sub hl [0, 1] rfl)
  refine lv_aload_n hx hb dX6_rings_0 rfl (lv_at hl 0 rfl) ?_
  refine lv_iconst (v := 0) hx hb dX6_rings_1 (by decide) ?_
  refine dk_Si (As := [.ref (z + 348), .int 0]) (rest := []) ⟨hx, hb, hml, hown, hts⟩ (c_X6_kingOf_1 l g z I0 0 (dkN_lit (x := 0) (0) rfl) hO) (va_cwS 2 hts gX6_rings_X6_kingOf rfl rfl rfl (by decide +kernel) ⟨Nat.le_of_ble_eq_true rfl, Nat.le_of_ble_eq_true rfl⟩) hK hT hW hS rfl hl.1 rfl (Nat.le_of_ble_eq_true rfl) dX6_rings_2 ⟨Nat.zero_le _, Nat.zero_le _⟩ (fun v34 I34 H34 L34 hp34 hW hS => ?_)
  obtain ⟨hF34, hO, hc34⟩ := hp34
  have hF := dkF_call hF hF34 rfl
  obtain ⟨dv34, -⟩ := hc34
  refine lv_istore_n (lv' := [(1, .int v34), (0, .ref (z + 348))]) hx hb dX6_rings_5 rfl hl (by decide) rfl (fun ls hl => ?_)
  refine lv_iload_n hx hb dX6_rings_6 rfl (lv_at hl 0 rfl) ?_
  refine lv_ldc (v := (-1000000)) hx hb hown (hts (.constant RX6 50 (-1000000)) (List.mem_of_getElem? (i := 1) rfl)) dX6_rings_7 ?_
  refine lv_icmp_eq (tgt := 48) hx hb dX6_rings_9 (by decide) (fun c35 => ?_) (fun c35 => ?_)
  ·
    have d36 : dkN [(-1000000, -1000000)] v34 := dkN_eq1 dv34 (dkN_lit (x := (-1000000)) (-1000000) rfl) (congrArg Int32.toInt c35) rfl
    exact C48 I34 _ _ ls v34 hW hS hF hO (dkN_sub d36 rfl) (lv_sub hl [1, 0] rfl)
  ·
    have d37 : dkN [(0, 4)] v34 := dkN_ne1 (-1000000) dv34 (dkN_lit (x := (-1000000)) (-1000000) rfl) (dk_ne c35) rfl
    refine lv_aload_n hx hb dX6_rings_12 rfl (lv_at hl 1 rfl) ?_
    refine lv_bipush (v := 6) hx hb dX6_rings_13 (by decide) ?_
    refine lv_bipush (v := 6) hx hb dX6_rings_15 (by decide) ?_
    refine lv_iload_n hx hb dX6_rings_17 rfl (lv_at hl 0 rfl) ?_
    refine lv_imul hx hb dX6_rings_18 ?_
    refine lv_topi (fun v38 ev38 => ?_)
    have dv38 : dkN [(0, 24)] v38 := by rw [ev38]; exact dkN_mulL 6 (by decide) (dkN_lit (x := 6) (6) rfl) d37 rfl
    refine lv_iadd hx hb dX6_rings_19 ?_
    refine lv_topi (fun v39 ev39 => ?_)
    have dv39 : dkN [(6, 30)] v39 := by rw [ev39]; exact dkN_add (dkN_lit (x := 6) (6) rfl) dv38 rfl
    refine lv_iconst (v := 5) hx hb dX6_rings_20 (by decide) ?_
    refine lv_iadd hx hb dX6_rings_21 ?_
    refine lv_topi (fun v40 ev40 => ?_)
    have dv40 : dkN [(11, 35)] v40 := by rw [ev40]; exact dkN_add dv39 (dkN_lit (x := 5) (5) rfl) rfl
    refine lv_dup2_11 hx hb dX6_rings_22 rfl rfl ?_
    refine dk_ild (k := 348) hx hb hK (dk_at348 hW) (dkN_in (n := 54) dv40 rfl) dX6_rings_23 ?_
    refine lv_topi (fun v41 ev41 => ?_)
    refine lv_aload_n hx hb dX6_rings_24 rfl (lv_at hl 1 rfl) ?_
    refine lv_bipush (v := 6) hx hb dX6_rings_25 (by decide) ?_
    refine lv_bipush (v := 6) hx hb dX6_rings_27 (by decide) ?_
    refine lv_iload_n hx hb dX6_rings_29 rfl (lv_at hl 0 rfl) ?_
    refine lv_imul hx hb dX6_rings_30 ?_
    refine lv_topi (fun v42 ev42 => ?_)
    have dv42 : dkN [(0, 24)] v42 := by rw [ev42]; exact dkN_mulL 6 (by decide) (dkN_lit (x := 6) (6) rfl) d37 rfl
    refine lv_iadd hx hb dX6_rings_31 ?_
    refine lv_topi (fun v43 ev43 => ?_)
    have dv43 : dkN [(6, 30)] v43 := by rw [ev43]; exact dkN_add (dkN_lit (x := 6) (6) rfl) dv42 rfl
    refine lv_iconst (v := 5) hx hb dX6_rings_32 (by decide) ?_
    refine lv_iadd hx hb dX6_rings_33 ?_
    refine lv_topi (fun v44 ev44 => ?_)
    have dv44 : dkN [(11, 35)] v44 := by rw [ev44]; exact dkN_add dv43 (dkN_lit (x := 5) (5) rfl) rfl
    refine dk_ild (k := 348) hx hb hK (dk_at348 hW) (dkN_in (n := 54) dv44 rfl) dX6_rings_34 ?_
    refine lv_topi (fun v45 ev45 => ?_)
    refine lv_sipush (v := 999) hx hb dX6_rings_35 (by decide) ?_
    refine lv_icmp_ge (tgt := 45) hx hb dX6_rings_38 (by decide) (fun c46 => ?_) (fun c46 => ?_)
    ·
      have d47 : dkN [(999, 2147483647)] v45 := dkN_le2 0 (dkN_lit (x := 999) (999) rfl) (dkN_top v45) (dkc_le c46) rfl
      refine lv_iconst (v := 0) hx hb dX6_rings_45 (by decide) ?_
      exact C46 I34 _ _ ls v34 0 v41 v40 hW hS hF hO (dkN_sub d37 rfl) (dkN_sub (dkN_lit (x := 0) (0) rfl) rfl) (dkN_sub dv40 rfl) (lv_sub hl [1, 0] rfl)
    ·
      have d48 : dkN [(-2147483648, 998)] v45 := dkN_le1 1 (dkN_top v45) (dkN_lit (x := 999) (999) rfl) (dkc_nle c46) rfl
      refine lv_iconst (v := 1) hx hb dX6_rings_41 (by decide) ?_
      refine lv_goto (tgt := 46) hx hb dX6_rings_42 (by decide) ?_
      exact C46 I34 _ _ ls v34 1 v41 v40 hW hS hF hO (dkN_sub d37 rfl) (dkN_sub (dkN_lit (x := 1) (1) rfl) rfl) (dkN_sub dv40 rfl) (lv_sub hl [1, 0] rfl)
set_option maxHeartbeats 4000000 in
set_option maxRecDepth 100000 in
theorem c_X6_passes_1 (l : Launch) (g : dkG) (z : Nat) (I0 : dkI)  (hO : dkOk I0) : Met l yX6_passes wsX6_passes (dkR 5) (dkPc g z [.ref (z + 348)] I0) (dkQv g z (fun I1 => dkF [(348, 348, 2, 3), (348, 348, 8, 35), (348, 348, 38, 38), (348, 348, 41, 41), (348, 348, 44, 44), (348, 348, 47, 47), (348, 348, 50, 50), (348, 348, 53, 53)] I0 I1 ∧ dkOk I1 ∧ ((True)))) 0 0 (dkA z) := by
  refine Met.ofW (cc := cX6_passes) (maxL := 1) (ret := none) (by decide) rfl ?_
  intro p e s m args below meth c s₁ B hml hv
  obtain ⟨ha, hW, hK, hT⟩ := hv
  have hx := B.exec
  have hb := B.bytes
  have hr := B.returns
  have hts := atoms_spec (ws := wsX6_passes) B.pre
  have hown : s.vm.findClass RX6 = some m.cls := findClass_of_methodNamed B.named
  have hlocks := B.notSynchronized
  have hS : va_S (dkA z) s.heap s.heap [] := va_S.rf
  have hF : dkF [(348, 348, 2, 3), (348, 348, 8, 35), (348, 348, 38, 38), (348, 348, 41, 41), (348, 348, 44, 44), (348, 348, 47, 47), (348, 348, 50, 50), (348, 348, 53, 53)] I0 I0 := dkF_rf _ _
  have hl := lv_entry ([.ref (z + 348)]) (n := 1) (Nat.le_of_ble_eq_true rfl)
  have hgo : entryFrame m args 1 = entryFrame m ([.ref (z + 348)] : List Value).toArray 1 := by rw [ha]
  rw [hgo, lg_entry_eq]
  generalize (lg_sl ([.ref (z + 348)]) ++ List.replicate (1 - (lg_sl ([.ref (z + 348)])).length) Slot.unset).toArray = ls at hl ⊢
  have hl : lv_has ls 1 [(0, .ref (z + 348))] := hl
  refine lv_aload_n hx hb dX6_passes_0 rfl (lv_at hl 0 rfl) ?_
  refine lv_iconst (v := 0) hx hb dX6_passes_1 (by decide) ?_
  refine lv_iconst (v := 0) hx hb dX6_passes_2 (by decide) ?_
  refine lv_iconst (v := 0) hx hb dX6_passes_3 (by decide) ?_
  refine dk_Sv (As := [.ref (z + 348), .int 0, .int 0, .int 0]) (rest := []) ⟨hx, hb, hml, hown, hts⟩ (c_X6_steps_1 l g z I0 0 0 0 hO) (va_cwS 4 hts gX6_passes_X6_steps rfl rfl rfl (by decide +kernel) ⟨Nat.le_of_ble_eq_true rfl, Nat.le_of_ble_eq_true rfl⟩) hK hT hW hS rfl hl.1 rfl (Nat.le_of_ble_eq_true rfl) dX6_passes_4 ⟨Nat.zero_le _, Nat.zero_le _⟩ (fun I1 H1 L1 hp1 hW hS => ?_)
  obtain ⟨hF1, hO, hi1_0, hc1⟩ := hp1
  have hF := dkF_call hF hF1 rfl
  refine lv_aload_n hx hb dX6_passes_7 rfl (lv_at hl 0 rfl) ?_
  refine lv_iconst (v := 3) hx hb dX6_passes_8 (by decide) ?_
  refine dk_ild (k := 348) hx hb hK (dk_at348 hW) (dkN_in (n := 54) (dkN_lit (x := 3) (3) rfl) rfl) dX6_passes_9 ?_
  refine lv_topi (fun v2 ev2 => ?_)
  have ev2 : v2 = I1 348 3 := ev2
  refine lv_aload_n hx hb dX6_passes_10 rfl (lv_at hl 0 rfl) ?_
  refine lv_iconst (v := 1) hx hb dX6_passes_11 (by decide) ?_
  refine dk_ild (k := 348) hx hb hK (dk_at348 hW) (dkN_in (n := 54) (dkN_lit (x := 1) (1) rfl) rfl) dX6_passes_12 ?_
  refine lv_topi (fun v3 ev3 => ?_)
  have ev3 : v3 = I1 348 1 := ev3
  have dv3 : dkN [(0, 30)] v3 := by rw [ev3]; exact (show dkN [(0, 30)] (I1 348 1) from (hO 348 1))
  refine lv_icmp_ne (tgt := 21) hx hb dX6_passes_13 (by decide) (fun c4 => ?_) (fun c4 => ?_)
  ·
    exact W.vret hx hb hr (fun t ht hW9 => ⟨⟨I1, rfl, ⟨hF, hO, trivial⟩, dkW_eq ht hW⟩, hS.F ht⟩) hS.2.2 dX6_passes_21
  ·
    have d5 : dkN [(0, 30)] v2 := dkN_eq1 (dkN_top v2) dv3 (congrArg Int32.toInt c4) rfl
    have f6 : dkN [(0, 30)] (I1 348 3) := by rw [← ev2]; exact d5
    refine lv_aload_n hx hb dX6_passes_16 rfl (lv_at hl 0 rfl) ?_
    refine dk_Si (As := [.ref (z + 348)]) (rest := []) ⟨hx, hb, hml, hown, hts⟩ (c_X6_rings_1 l g z I1 hO) (va_cwS 1 hts gX6_passes_X6_rings rfl rfl rfl (by decide +kernel) ⟨Nat.le_of_ble_eq_true rfl, Nat.le_of_ble_eq_true rfl⟩) hK hT hW hS rfl hl.1 rfl (Nat.le_of_ble_eq_true rfl) dX6_passes_17 ⟨Nat.zero_le _, Nat.zero_le _⟩ (fun v7 I7 H7 L7 hp7 hW hS => ?_)
    obtain ⟨hF7, hO, hc7⟩ := hp7
    have hF := dkF_call hF hF7 rfl
    obtain ⟨dv7, f7_348_3, -⟩ := hc7
    refine lv_pop hx hb dX6_passes_20 rfl ?_
    exact W.vret hx hb hr (fun t ht hW9 => ⟨⟨I7, rfl, ⟨hF, hO, trivial⟩, dkW_eq ht hW⟩, hS.F ht⟩) hS.2.2 dX6_passes_21
set_option maxHeartbeats 4000000 in
set_option maxRecDepth 100000 in
theorem c_X6_goesOn_0 (l : Launch) (g : dkG) (z : Nat) (I0 : dkI) (p0 : Int32) (dp0 : dkN [(0, 60)] p0)  (hO : dkOk I0) : Met l yX6_goesOn wsX6_goesOn (dkR 6) (dkPc g z [.ref (z + 340), .int p0] I0) (dkQv g z (fun I1 => dkF [(348, 348, 2, 3), (348, 348, 8, 35), (348, 348, 38, 38), (348, 348, 41, 41), (348, 348, 44, 44), (348, 348, 47, 47), (348, 348, 50, 50), (348, 348, 53, 53)] I0 I1 ∧ dkOk I1 ∧ ((True)))) 0 0 (dkA z) := by
  refine Met.ofW (cc := cX6_goesOn) (maxL := 3) (ret := none) (by decide) rfl ?_
  intro p e s m args below meth c s₁ B hml hv
  obtain ⟨ha, hW, hK, hT⟩ := hv
  have hx := B.exec
  have hb := B.bytes
  have hr := B.returns
  have hts := atoms_spec (ws := wsX6_goesOn) B.pre
  have hown : s.vm.findClass RX6 = some m.cls := findClass_of_methodNamed B.named
  have hlocks := B.notSynchronized
  have hS : va_S (dkA z) s.heap s.heap [] := va_S.rf
  have hF : dkF [(348, 348, 2, 3), (348, 348, 8, 35), (348, 348, 38, 38), (348, 348, 41, 41), (348, 348, 44, 44), (348, 348, 47, 47), (348, 348, 50, 50), (348, 348, 53, 53)] I0 I0 := dkF_rf _ _
  have hl := lv_entry ([.ref (z + 340), .int p0]) (n := 3) (Nat.le_of_ble_eq_true rfl)
  have hgo : entryFrame m args 3 = entryFrame m ([.ref (z + 340), .int p0] : List Value).toArray 3 := by rw [ha]
  rw [hgo, lg_entry_eq]
  generalize (lg_sl ([.ref (z + 340), .int p0]) ++ List.replicate (3 - (lg_sl ([.ref (z + 340), .int p0])).length) Slot.unset).toArray = ls at hl ⊢
  have hl : lv_has ls 3 [(0, .ref (z + 340)), (1, .int p0)] := hl
  have C2 : ∀ (n : Nat), ∀ (I : dkI) (H : Heap) (locs : List Loc) (ls : Array Slot) (x2_2 : Int32), (60 - x2_2.toInt).toNat < n → dkW g z I H → va_S (dkA z) s.heap H locs → dkF [(348, 348, 2, 3), (348, 348, 8, 35), (348, 348, 38, 38), (348, 348, 41, 41), (348, 348, 44, 44), (348, 348, 47, 47), (348, 348, 50, 50), (348, 348, 53, 53)] I0 I → dkOk I → dkN [(0, 60)] x2_2 → lv_has ls 3 [(0, .ref (z + 340)), (1, .int p0), (2, .int x2_2)] → W p l e (headSpec wsX6_goesOn (dkR 6)).room s m args below meth c H locs 0 0 (MQ below (dkQv g z (fun I1 => dkF [(348, 348, 2, 3), (348, 348, 8, 35), (348, 348, 38, 38), (348, 348, 41, 41), (348, 348, 44, 44), (348, 348, 47, 47), (348, 348, 50, 50), (348, 348, 53, 53)] I0 I1 ∧ dkOk I1 ∧ ((True)))) args s 0 0 (dkA z)) (F0 m 2 ls []) := by
    intro n
    induction n with
    | zero => intro I H locs ls x2_2 hn; exact absurd hn (Nat.not_lt_zero _)
    | succ n ih2 =>
      intro I2_ H locs ls x2_2 hn2 hW hS hF_2 hO k2_0 hl
      have hF := hF_2
      refine lv_iload_n hx hb dX6_goesOn_2 rfl (lv_at hl 2 rfl) ?_
      refine lv_iload_n hx hb dX6_goesOn_3 rfl (lv_at hl 1 rfl) ?_
      refine lv_icmp_ge (tgt := 20) hx hb dX6_goesOn_4 (by decide) (fun c1 => ?_) (fun c1 => ?_)
      ·
        exact W.vret hx hb hr (fun t ht hW9 => ⟨⟨I2_, rfl, ⟨hF, hO, trivial⟩, dkW_eq ht hW⟩, hS.F ht⟩) hS.2.2 dX6_goesOn_20
      ·
        have d2 : dkN [(1, 60)] p0 := dkN_le2 1 k2_0 dp0 (dkc_nle c1) rfl
        have d3 : dkN [(0, 59)] x2_2 := dkN_le1 1 k2_0 dp0 (dkc_nle c1) rfl
        refine lv_aload_n hx hb dX6_goesOn_7 rfl (lv_at hl 0 rfl) ?_
        refine dk_get (k := 340) hx hb hts iX6_goesOn_6 hown hK (dk_at340 hW) rfl 15 (by decide) (hts (.fieldLink RX6 31 "DogKingsModel" "tried" "[I") (List.mem_of_getElem? (i := 1) rfl)) rfl dX6_goesOn_8 ?_
        refine dk_Sv (As := [.ref (z + 348)]) (rest := []) ⟨hx, hb, hml, hown, hts⟩ (c_X6_passes_1 l g z I2_ hO) (va_cwS 1 hts gX6_goesOn_X6_passes rfl rfl rfl (by decide +kernel) ⟨Nat.le_of_ble_eq_true rfl, Nat.le_of_ble_eq_true rfl⟩) hK hT hW hS rfl hl.1 rfl (Nat.le_of_ble_eq_true rfl) dX6_goesOn_11 ⟨Nat.zero_le _, Nat.zero_le _⟩ (fun I4 H4 L4 hp4 hW hS => ?_)
        obtain ⟨hF4, hO, hc4⟩ := hp4
        have hF := dkF_call hF hF4 rfl
        obtain ⟨v5, ev5⟩ : ∃ y : Int32, y = x2_2 + 1 := ⟨_, rfl⟩
        have dv5 : dkN [(1, 60)] v5 := by rw [ev5]; exact dkN_add d3 (dkN_lit (x := 1) (1) rfl) rfl
        refine lv_iinc (v := v5) (lv' := [(2, .int v5), (0, .ref (z + 340)), (1, .int p0)]) hx hb dX6_goesOn_14 hl (k := 2) rfl (by rw [ev5]; rfl) (by decide) rfl (fun ls hl => ?_)
        refine lv_goto (tgt := 2) hx hb dX6_goesOn_17 (by decide) ?_
        exact ih2 I4 _ _ ls v5 (dk_near hn2 (by rw [ev5]; exact dk_inc d3 rfl) (dkN_lt d3 rfl)) hW hS hF hO (dkN_sub dv5 rfl) (lv_sub hl [1, 2, 0] rfl)
  refine lv_iconst (v := 0) hx hb dX6_goesOn_0 (by decide) ?_
  refine lv_istore_n (lv' := [(2, .int 0), (0, .ref (z + 340)), (1, .int p0)]) hx hb dX6_goesOn_1 rfl hl (by decide) rfl (fun ls hl => ?_)
  exact C2 _ I0 _ _ ls 0 (Nat.lt_succ_self _) hW hS hF hO (dkN_sub (dkN_lit (x := 0) (0) rfl) rfl) (lv_sub hl [1, 2, 0] rfl)
