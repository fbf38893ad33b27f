set_option maxHeartbeats 4000000 in
set_option maxRecDepth 100000 in
theorem c_X6_walks_0 (l : Launch) (g : dkG) (z : Nat) (I0 : dkI) (p0 : Int32)  (hO : dkOk I0) : Met l yX6_walks wsX6_walks (dkR 7) (dkPc g z [.ref (z + 340), .int p0] I0) (dkQi g z (fun r I1 => dkF [(340, 340, 20, 22), (348, 348, 0, 53)] I0 I1 ∧ dkOk I1 ∧ ((True ∧ True)))) 0 0 (dkA z) := by
  refine Met.ofW (cc := cX6_walks) (maxL := 4) (ret := (some .int)) (by decide) rfl ?_
  intro p e s m args below meth c s₁ B hml hv
  obtain ⟨ha, hW, hK, hT⟩ := hv
  have hx := B.exec
  have hb := B.bytes
  have hr := B.returns
  have hts := atoms_spec (ws := wsX6_walks) B.pre
  have hown : s.vm.findClass RX6 = some m.cls := findClass_of_methodNamed B.named
  have hlocks := B.notSynchronized
  have hS : va_S (dkA z) s.heap s.heap [] := va_S.rf
  have hF : dkF [(340, 340, 20, 22), (348, 348, 0, 53)] I0 I0 := dkF_rf _ _
  have hl := lv_entry ([.ref (z + 340), .int p0]) (n := 4) (Nat.le_of_ble_eq_true rfl)
  have hgo : entryFrame m args 4 = entryFrame m ([.ref (z + 340), .int p0] : List Value).toArray 4 := by rw [ha]
  rw [hgo, lg_entry_eq]
  generalize (lg_sl ([.ref (z + 340), .int p0]) ++ List.replicate (4 - (lg_sl ([.ref (z + 340), .int p0])).length) Slot.unset).toArray = ls at hl ⊢
  have hl : lv_has ls 4 [(0, .ref (z + 340)), (1, .int p0)] := hl
  have C15 : ∀ (n : Nat), ∀ (I : dkI) (H : Heap) (locs : List Loc) (ls : Array Slot) (x15_2 : Int32) (x15_3 : Int32), (3 - x15_3.toInt).toNat < n → dkW g z I H → va_S (dkA z) s.heap H locs → dkF [(340, 340, 20, 22), (348, 348, 0, 53)] I0 I → dkOk I → dkN [(0, 3)] x15_3 → dkN [(0, 4)] p0 → lv_has ls 4 [(0, .ref (z + 340)), (1, .int p0), (2, .int x15_2), (3, .int x15_3)] → W p l e (headSpec wsX6_walks (dkR 7)).room s m args below meth c H locs 0 0 (MQ below (dkQi g z (fun r I1 => dkF [(340, 340, 20, 22), (348, 348, 0, 53)] I0 I1 ∧ dkOk I1 ∧ ((True ∧ True)))) args s 0 0 (dkA z)) (F0 m 15 ls []) := by
    intro n
    induction n with
    | zero => intro I H locs ls x15_2 x15_3 hn; exact absurd hn (Nat.not_lt_zero _)
    | succ n ih15 =>
      intro I15_ H locs ls x15_2 x15_3 hn15 hW hS hF_15 hO k15_1 r15_0 hl
      have hF := hF_15
      have C55 : ∀ (I : dkI) (H : Heap) (locs : List Loc) (ls : Array Slot) (x55_s0 : Int32), dkW g z I H → va_S (dkA z) s.heap H locs → dkF [(340, 340, 20, 22), (348, 348, 0, 53)] I0 I → dkOk I → dkN [(0, 4)] x55_s0 → dkN [(0, 4)] p0 → dkN [(0, 2)] x15_3 → dkN [(0, 0)] (I 340 20) → dkN [(0, 0)] (I 340 21) → dkN [(0, 0)] (I 340 22) → dkN [(0, 2147483647)] (I 348 3) → lv_has ls 4 [(0, .ref (z + 340)), (1, .int p0), (2, .int x15_2), (3, .int x15_3)] → W p l e (headSpec wsX6_walks (dkR 7)).room s m args below meth c H locs 0 0 (MQ below (dkQi g z (fun r I1 => dkF [(340, 340, 20, 22), (348, 348, 0, 53)] I0 I1 ∧ dkOk I1 ∧ ((True ∧ True)))) args s 0 0 (dkA z)) (F0 m 55 ls [.int x55_s0, .int x15_2]) := by
        intro I55_ H locs ls x55_s0 hW hS hF_55 hO k55_0 r55_0 r55_1 f55_0 f55_1 f55_2 f55_3 hl
        have hF := hF_55
        refine lv_ior hx hb dX6_walks_55 ?_
        refine lv_topi (fun v1 ev1 => ?_)
        refine lv_istore_n (lv' := [(2, .int v1), (0, .ref (z + 340)), (1, .int p0), (3, .int x15_3)]) hx hb dX6_walks_56 rfl hl (by decide) rfl (fun ls hl => ?_)
        obtain ⟨v2, ev2⟩ : ∃ y : Int32, y = x15_3 + 1 := ⟨_, rfl⟩
        have dv2 : dkN [(1, 3)] v2 := by rw [ev2]; exact dkN_add r55_1 (dkN_lit (x := 1) (1) rfl) rfl
        refine lv_iinc (v := v2) (lv' := [(3, .int v2), (2, .int v1), (0, .ref (z + 340)), (1, .int p0)]) hx hb dX6_walks_57 hl (k := 3) rfl (by rw [ev2]; rfl) (by decide) rfl (fun ls hl => ?_)
        refine lv_goto (tgt := 15) hx hb dX6_walks_60 (by decide) ?_
        exact ih15 I55_ _ _ ls v1 v2 (dk_near hn15 (by rw [ev2]; exact dk_inc r55_1 rfl) (dkN_lt r55_1 rfl)) hW hS hF hO (dkN_sub dv2 rfl) (dkN_sub r55_0 rfl) (lv_sub hl [2, 3, 1, 0] rfl)
      refine lv_iload_n hx hb dX6_walks_15 rfl (lv_at hl 3 rfl) ?_
      refine lv_iconst (v := 3) hx hb dX6_walks_16 (by decide) ?_
      refine lv_icmp_ge (tgt := 63) hx hb dX6_walks_17 (by decide) (fun c3 => ?_) (fun c3 => ?_)
      ·
        have d4 : dkN [(3, 3)] x15_3 := dkN_le2 0 (dkN_lit (x := 3) (3) rfl) k15_1 (dkc_le c3) rfl
        refine lv_iload_n hx hb dX6_walks_63 rfl (lv_at hl 2 rfl) ?_
        exact W.iret (v := x15_2) hx hb hr (fun t ht hW9 => ⟨⟨x15_2, I15_, rfl, ⟨hF, hO, ⟨trivial, trivial⟩⟩, dkW_eq ht hW⟩, hS.F ht⟩) hS.2.2 dX6_walks_64
      ·
        have d5 : dkN [(0, 2)] x15_3 := dkN_le1 1 k15_1 (dkN_lit (x := 3) (3) rfl) (dkc_nle c3) rfl
        refine lv_aload_n hx hb dX6_walks_20 rfl (lv_at hl 0 rfl) ?_
        refine dk_Vv (As := []) (rest := []) ⟨hx, hb, hml, hown, hts⟩ (c_X6_tries_0 l g z I15_ hO) (cwV 0 hts gX6_walks_X6_tries rfl rfl rfl (by decide +kernel) ⟨Nat.le_of_ble_eq_true rfl, Nat.le_of_ble_eq_true rfl⟩) (dk_at340 hW) rfl hK hT hW hS rfl hl.1 rfl (Nat.le_of_ble_eq_true rfl) dX6_walks_21 ⟨Nat.zero_le _, Nat.zero_le _⟩ (fun I6 H6 L6 hp6 hW hS => ?_)
        obtain ⟨hF6, hO, hc6⟩ := hp6
        have hF := dkF_call hF hF6 rfl
        obtain ⟨f6_340_20, f6_340_21, f6_340_22, -⟩ := hc6
        refine lv_aload_n hx hb dX6_walks_24 rfl (lv_at hl 0 rfl) ?_
        refine dk_get (k := 340) hx hb hts iX6_walks_6 hown hK (dk_at340 hW) rfl 15 (by decide) (hts (.fieldLink RX6 31 "DogKingsModel" "tried" "[I") (List.mem_of_getElem? (i := 2) rfl)) rfl dX6_walks_25 ?_
        refine lv_bipush (v := 6) hx hb dX6_walks_28 (by decide) ?_
        refine lv_bipush (v := 6) hx hb dX6_walks_30 (by decide) ?_
        refine lv_iload_n hx hb dX6_walks_32 rfl (lv_at hl 1 rfl) ?_
        refine lv_imul hx hb dX6_walks_33 ?_
        refine lv_topi (fun v7 ev7 => ?_)
        have dv7 : dkN [(0, 24)] v7 := by rw [ev7]; exact dkN_mulL 6 (by decide) (dkN_lit (x := 6) (6) rfl) r15_0 rfl
        refine lv_iadd hx hb dX6_walks_34 ?_
        refine lv_topi (fun v8 ev8 => ?_)
        have dv8 : dkN [(6, 30)] v8 := by rw [ev8]; exact dkN_add (dkN_lit (x := 6) (6) rfl) dv7 rfl
        refine lv_iconst (v := 2) hx hb dX6_walks_35 (by decide) ?_
        refine lv_iadd hx hb dX6_walks_36 ?_
        refine lv_topi (fun v9 ev9 => ?_)
        have dv9 : dkN [(8, 32)] v9 := by rw [ev9]; exact dkN_add dv8 (dkN_lit (x := 2) (2) rfl) rfl
        refine lv_iload_n hx hb dX6_walks_37 rfl (lv_at hl 3 rfl) ?_
        refine dk_ist (k := 348) hx hb hK hW (fun _ => rfl) (by decide) hS (dkN_in (n := 54) dv9 rfl) dX6_walks_38 (fun I10 H10 L10 eI10 hW hS => ?_)
        have hO := dkO_set hO eI10 (by rw [dkB_w (k := 348) (B := [(-2147483648, 2147483647)]) (by decide) dv9 rfl]; exact dkN_top _)
        have hF := dkF_set hF eI10 (dkIn_v dv9 rfl)
        refine lv_iload_n hx hb dX6_walks_39 rfl (lv_at hl 2 rfl) ?_
        refine lv_aload_n hx hb dX6_walks_40 rfl (lv_at hl 0 rfl) ?_
        refine dk_Vi (As := []) (rest := [.int x15_2]) ⟨hx, hb, hml, hown, hts⟩ (c_X6_nextKing_0 l g z I10 hO) (cwV 0 hts gX6_walks_X6_nextKing rfl rfl rfl (by decide +kernel) ⟨Nat.le_of_ble_eq_true rfl, Nat.le_of_ble_eq_true rfl⟩) (dk_at340 hW) rfl hK hT hW hS rfl hl.1 rfl (Nat.le_of_ble_eq_true rfl) dX6_walks_41 ⟨Nat.zero_le _, Nat.zero_le _⟩ (fun v11 I11 H11 L11 hp11 hW hS => ?_)
        obtain ⟨hF11, hO, hc11⟩ := hp11
        have hF := dkF_call hF hF11 rfl
        obtain ⟨dv11, f11_348_3, -⟩ := hc11
        refine lv_iload_n hx hb dX6_walks_44 rfl (lv_at hl 1 rfl) ?_
        refine lv_icmp_ne (tgt := 54) hx hb dX6_walks_45 (by decide) (fun c12 => ?_) (fun c12 => ?_)
        ·
          refine lv_iconst (v := 0) hx hb dX6_walks_54 (by decide) ?_
          exact C55 I11 _ _ ls 0 hW hS hF hO (dkN_sub (dkN_lit (x := 0) (0) rfl) rfl) (dkN_sub r15_0 rfl) (dkN_sub d5 rfl) (show dkN [(0, 0)] (I11 340 20) from dkN_sub (by rw [hF11 340 20 rfl]; exact (by rw [eI10, dkU_n (by decide)]; exact f6_340_20)) rfl) (show dkN [(0, 0)] (I11 340 21) from dkN_sub (by rw [hF11 340 21 rfl]; exact (by rw [eI10, dkU_n (by decide)]; exact f6_340_21)) rfl) (show dkN [(0, 0)] (I11 340 22) from dkN_sub (by rw [hF11 340 22 rfl]; exact (by rw [eI10, dkU_n (by decide)]; exact f6_340_22)) rfl) (show dkN [(0, 2147483647)] (I11 348 3) from dkN_sub f11_348_3 rfl) (lv_sub hl [0, 1, 2, 3] rfl)
        ·
          have d13 : dkN [(0, 4)] v11 := dkN_eq1 dv11 r15_0 (congrArg Int32.toInt c12) rfl
          refine lv_iconst (v := 1) hx hb dX6_walks_48 (by decide) ?_
          refine lv_iload_n hx hb dX6_walks_49 rfl (lv_at hl 3 rfl) ?_
          refine lv_ishl hx hb dX6_walks_50 ?_
          refine lv_topi (fun v14 ev14 => ?_)
          have dv14 : dkN [(1, 4)] v14 := by rw [ev14]; exact dkN_shl1 0 2 (by decide) d5 rfl
          refine lv_goto (tgt := 55) hx hb dX6_walks_51 (by decide) ?_
          exact C55 I11 _ _ ls v14 hW hS hF hO (dkN_sub dv14 rfl) (dkN_sub r15_0 rfl) (dkN_sub d5 rfl) (show dkN [(0, 0)] (I11 340 20) from dkN_sub (by rw [hF11 340 20 rfl]; exact (by rw [eI10, dkU_n (by decide)]; exact f6_340_20)) rfl) (show dkN [(0, 0)] (I11 340 21) from dkN_sub (by rw [hF11 340 21 rfl]; exact (by rw [eI10, dkU_n (by decide)]; exact f6_340_21)) rfl) (show dkN [(0, 0)] (I11 340 22) from dkN_sub (by rw [hF11 340 22 rfl]; exact (by rw [eI10, dkU_n (by decide)]; exact f6_340_22)) rfl) (show dkN [(0, 2147483647)] (I11 348 3) from dkN_sub f11_348_3 rfl) (lv_sub hl [0, 1, 2, 3] rfl)
  refine lv_aload_n hx hb dX6_walks_0 rfl (lv_at hl 0 rfl) ?_
  refine lv_iload_n hx hb dX6_walks_1 rfl (lv_at hl 1 rfl) ?_
  refine dk_Vi (As := [.int p0]) (rest := []) ⟨hx, hb, hml, hown, hts⟩ (c_X6_isPerson_0 l g z I0 p0 hO) (cwV 1 hts gX6_walks_X6_isPerson rfl rfl rfl (by decide +kernel) ⟨Nat.le_of_ble_eq_true rfl, Nat.le_of_ble_eq_true rfl⟩) (dk_at340 hW) rfl hK hT hW hS rfl hl.1 rfl (Nat.le_of_ble_eq_true rfl) dX6_walks_2 ⟨Nat.zero_le _, Nat.zero_le _⟩ (fun v15 I15 H15 L15 hp15 hW hS => ?_)
  obtain ⟨hF15, hO, hc15⟩ := hp15
  have hF := dkF_call hF hF15 rfl
  rcases hc15 with ⟨dv15, -⟩ | hc15
  ·
    refine lv_if_ne (tgt := 11) hx hb dX6_walks_5 (by decide) (fun c16 => ?_) (fun c16 => ?_)
    ·
      exact (dkN_nil (show dkN [] v15 from dkN_ne1 (0) dv15 (dkN_lit (x := 0) (0) rfl) (dk_ne c16) rfl)).elim
    ·
      refine lv_ldc (v := (-1000001)) hx hb hown (hts (.constant RX6 64 (-1000001)) (List.mem_of_getElem? (i := 1) rfl)) dX6_walks_8 ?_
      exact W.iret (v := (-1000001)) hx hb hr (fun t ht hW9 => ⟨⟨(-1000001), I15, rfl, ⟨hF, hO, ⟨trivial, trivial⟩⟩, dkW_eq ht hW⟩, hS.F ht⟩) hS.2.2 dX6_walks_10
  ·
    obtain ⟨dv15, a15_0, -⟩ := hc15
    have d17 : dkN [(0, 4)] p0 := dkN_eq1 (dkN_top p0) a15_0 rfl rfl
    refine lv_if_ne (tgt := 11) hx hb dX6_walks_5 (by decide) (fun c18 => ?_) (fun c18 => ?_)
    ·
      refine lv_iconst (v := 0) hx hb dX6_walks_11 (by decide) ?_
      refine lv_istore_n (lv' := [(2, .int 0), (0, .ref (z + 340)), (1, .int p0)]) hx hb dX6_walks_12 rfl hl (by decide) rfl (fun ls hl => ?_)
      refine lv_iconst (v := 0) hx hb dX6_walks_13 (by decide) ?_
      refine lv_istore_n (lv' := [(3, .int 0), (2, .int 0), (0, .ref (z + 340)), (1, .int p0)]) hx hb dX6_walks_14 rfl hl (by decide) rfl (fun ls hl => ?_)
      exact C15 _ I15 _ _ ls 0 0 (Nat.lt_succ_self _) hW hS hF hO (dkN_sub (dkN_lit (x := 0) (0) rfl) rfl) (dkN_sub d17 rfl) (lv_sub hl [2, 3, 1, 0] rfl)
    ·
      exact (dkN_nil (show dkN [] v15 from dkN_eq1 dv15 (dkN_lit (x := 0) (0) rfl) (congrArg Int32.toInt c18) rfl)).elim
set_option maxHeartbeats 4000000 in
set_option maxRecDepth 100000 in
theorem c_X5_isUpTo_5 (l : Launch) (g : dkG) (z : Nat) (I0 : dkI) (p0 : Int32) (p1 : Int32) (dp1 : dkN [(1, 1)] p1)  (hO : dkOk I0) : Met l yX5_isUpTo wsX5_isUpTo (dkR 0) (dkPc g z [.int p0, .int p1] I0) (dkQi g z (fun r I1 => dkF [] I0 I1 ∧ dkOk I1 ∧ ((dkN [(0, 0)] r ∧ dkN [(-2147483648, -1), (2, 2147483647)] p0 ∧ True) ∨ (dkN [(1, 1)] r ∧ dkN [(0, 1)] p0 ∧ True)))) 0 0 (dkA z) := by
  refine Met.ofW (cc := cX5_isUpTo) (maxL := 2) (ret := (some .boolean)) (by decide) rfl ?_
  intro p e s m args below meth c s₁ B hml hv
  obtain ⟨ha, hW, hK, hT⟩ := hv
  have hx := B.exec
  have hb := B.bytes
  have hr := B.returns
  have hts := atoms_spec (ws := wsX5_isUpTo) B.pre
  have hown : s.vm.findClass RX5 = some m.cls := findClass_of_methodNamed B.named
  have hlocks := B.notSynchronized
  have hS : va_S (dkA z) s.heap s.heap [] := va_S.rf
  have hF : dkF [] I0 I0 := dkF_rf _ _
  have hl := lv_entry ([.int p0, .int p1]) (n := 2) (Nat.le_of_ble_eq_true rfl)
  have hgo : entryFrame m args 2 = entryFrame m ([.int p0, .int p1] : List Value).toArray 2 := by rw [ha]
  rw [hgo, lg_entry_eq]
  generalize (lg_sl ([.int p0, .int p1]) ++ List.replicate (2 - (lg_sl ([.int p0, .int p1])).length) Slot.unset).toArray = ls at hl ⊢
  have hl : lv_has ls 2 [(0, .int p0), (1, .int p1)] := hl
  refine lv_iload_n hx hb dX5_isUpTo_0 rfl (lv_at hl 0 rfl) ?_
  refine lv_if_lt (tgt := 13) hx hb dX5_isUpTo_1 (by decide) (fun c1 => ?_) (fun c1 => ?_)
  ·
    have d2 : dkN [(-2147483648, -1)] p0 := dkN_le1 1 (dkN_top p0) (dkN_lit (x := 0) (0) rfl) (dkc_lt c1) rfl
    refine lv_iconst (v := 0) hx hb dX5_isUpTo_13 (by decide) ?_
    exact W.zret (v := 0) (ty := .boolean) hx hb hr rfl (fun t ht hW9 => ⟨⟨0, I0, rfl, ⟨hF, hO, Or.inl ⟨dkN_sub (dkN_lit (x := 0) (0) rfl) rfl, dkN_sub d2 rfl, trivial⟩⟩, dkW_eq ht hW⟩, hS.F ht⟩) hS.2.2 dX5_isUpTo_14
  ·
    have d3 : dkN [(0, 2147483647)] p0 := dkN_le2 0 (dkN_lit (x := 0) (0) rfl) (dkN_top p0) (dkc_nlt c1) rfl
    refine lv_iload_n hx hb dX5_isUpTo_4 rfl (lv_at hl 0 rfl) ?_
    refine lv_iload_n hx hb dX5_isUpTo_5 rfl (lv_at hl 1 rfl) ?_
    refine lv_icmp_gt (tgt := 13) hx hb dX5_isUpTo_6 (by decide) (fun c4 => ?_) (fun c4 => ?_)
    ·
      have d5 : dkN [(2, 2147483647)] p0 := dkN_le2 1 dp1 d3 (dkc_lt c4) rfl
      refine lv_iconst (v := 0) hx hb dX5_isUpTo_13 (by decide) ?_
      exact W.zret (v := 0) (ty := .boolean) hx hb hr rfl (fun t ht hW9 => ⟨⟨0, I0, rfl, ⟨hF, hO, Or.inl ⟨dkN_sub (dkN_lit (x := 0) (0) rfl) rfl, dkN_sub d5 rfl, trivial⟩⟩, dkW_eq ht hW⟩, hS.F ht⟩) hS.2.2 dX5_isUpTo_14
    ·
      have d6 : dkN [(0, 1)] p0 := dkN_le1 0 d3 dp1 (dkc_nlt c4) rfl
      refine lv_iconst (v := 1) hx hb dX5_isUpTo_9 (by decide) ?_
      refine lv_goto (tgt := 14) hx hb dX5_isUpTo_10 (by decide) ?_
      exact W.zret (v := 1) (ty := .boolean) hx hb hr rfl (fun t ht hW9 => ⟨⟨1, I0, rfl, ⟨hF, hO, Or.inr (⟨dkN_sub (dkN_lit (x := 1) (1) rfl) rfl, dkN_sub d6 rfl, trivial⟩)⟩, dkW_eq ht hW⟩, hS.F ht⟩) hS.2.2 dX5_isUpTo_14
set_option maxHeartbeats 4000000 in
set_option maxRecDepth 100000 in
theorem c_X5_setOfAll_1 (l : Launch) (g : dkG) (z : Nat) (I0 : dkI) (p0 : Int32) (dp0 : dkN [(1, 9)] p0)  (hO : dkOk I0) : Met l yX5_setOfAll wsX5_setOfAll (dkR 0) (dkPc g z [.int p0] I0) (dkQi g z (fun r I1 => dkF [] I0 I1 ∧ dkOk I1 ∧ ((dkN [(1, 511)] r ∧ True)))) 0 0 (dkA z) := by
  refine Met.ofW (cc := cX5_setOfAll) (maxL := 1) (ret := (some .int)) (by decide) rfl ?_
  intro p e s m args below meth c s₁ B hml hv
  obtain ⟨ha, hW, hK, hT⟩ := hv
  have hx := B.exec
  have hb := B.bytes
  have hr := B.returns
  have hts := atoms_spec (ws := wsX5_setOfAll) B.pre
  have hown : s.vm.findClass RX5 = some m.cls := findClass_of_methodNamed B.named
  have hlocks := B.notSynchronized
  have hS : va_S (dkA z) s.heap s.heap [] := va_S.rf
  have hF : dkF [] I0 I0 := dkF_rf _ _
  have hl := lv_entry ([.int p0]) (n := 1) (Nat.le_of_ble_eq_true rfl)
  have hgo : entryFrame m args 1 = entryFrame m ([.int p0] : List Value).toArray 1 := by rw [ha]
  rw [hgo, lg_entry_eq]
  generalize (lg_sl ([.int p0]) ++ List.replicate (1 - (lg_sl ([.int p0])).length) Slot.unset).toArray = ls at hl ⊢
  have hl : lv_has ls 1 [(0, .int p0)] := hl
  refine lv_iconst (v := 1) hx hb dX5_setOfAll_0 (by decide) ?_
  refine lv_iload_n hx hb dX5_setOfAll_1 rfl (lv_at hl 0 rfl) ?_
  refine lv_ishl hx hb dX5_setOfAll_2 ?_
  refine lv_topi (fun v1 ev1 => ?_)
  have dv1 : dkN [(2, 512)] v1 := by rw [ev1]; exact dkN_shl1 1 9 (by decide) dp0 rfl
  refine lv_iconst (v := 1) hx hb dX5_setOfAll_3 (by decide) ?_
  refine lv_isub hx hb dX5_setOfAll_4 ?_
  refine lv_topi (fun v2 ev2 => ?_)
  have dv2 : dkN [(1, 511)] v2 := by rw [ev2]; exact dkN_subt dv1 (dkN_lit (x := 1) (1) rfl) rfl
  exact W.iret (v := v2) hx hb hr (fun t ht hW9 => ⟨⟨v2, I0, rfl, ⟨hF, hO, ⟨dkN_sub dv2 rfl, trivial⟩⟩, dkW_eq ht hW⟩, hS.F ht⟩) hS.2.2 dX5_setOfAll_5
set_option maxHeartbeats 4000000 in
set_option maxRecDepth 100000 in
theorem c_X3_keepsDogsOut_0 (l : Launch) (g : dkG) (z : Nat) (I0 : dkI) (p0 : Int32) (p1 : Int32)  (hO : dkOk I0) : Met l yX3_keepsDogsOut wsX3_keepsDogsOut (dkR 5) (dkPc g z [.ref (z + 325), .int p0, .int p1] I0) (dkQi g z (fun r I1 => dkF [(326, 326, 0, 4), (326, 326, 11, 11), (326, 326, 15, 17), (327, 327, 0, 4), (328, 328, 0, 4), (329, 329, 0, 4), (330, 330, 0, 4), (331, 331, 0, 4), (332, 332, 0, 4), (333, 333, 0, 5), (334, 334, 0, 5), (335, 335, 0, 5), (336, 336, 0, 8)] I0 I1 ∧ dkOk I1 ∧ ((dkN [(0, 1)] r ∧ True)))) 0 0 (dkA z) := by
  refine Met.ofW (cc := cX3_keepsDogsOut) (maxL := 3) (ret := (some .boolean)) (by decide) rfl ?_
  intro p e s m args below meth c s₁ B hml hv
  obtain ⟨ha, hW, hK, hT⟩ := hv
  have hx := B.exec
  have hb := B.bytes
  have hr := B.returns
  have hts := atoms_spec (ws := wsX3_keepsDogsOut) B.pre
  have hown : s.vm.findClass RX3 = some m.cls := findClass_of_methodNamed B.named
  have hlocks := B.notSynchronized
  have hS : va_S (dkA z) s.heap s.heap [] := va_S.rf
  have hF : dkF [(326, 326, 0, 4), (326, 326, 11, 11), (326, 326, 15, 17), (327, 327, 0, 4), (328, 328, 0, 4), (329, 329, 0, 4), (330, 330, 0, 4), (331, 331, 0, 4), (332, 332, 0, 4), (333, 333, 0, 5), (334, 334, 0, 5), (335, 335, 0, 5), (336, 336, 0, 8)] I0 I0 := dkF_rf _ _
  have hl := lv_entry ([.ref (z + 325), .int p0, .int p1]) (n := 3) (Nat.le_of_ble_eq_true rfl)
  have hgo : entryFrame m args 3 = entryFrame m ([.ref (z + 325), .int p0, .int p1] : List Value).toArray 3 := by rw [ha]
  rw [hgo, lg_entry_eq]
  generalize (lg_sl ([.ref (z + 325), .int p0, .int p1]) ++ List.replicate (3 - (lg_sl ([.ref (z + 325), .int p0, .int p1])).length) Slot.unset).toArray = ls at hl ⊢
  have hl : lv_has ls 3 [(0, .ref (z + 325)), (1, .int p0), (2, .int p1)] := hl
  refine lv_aload_n hx hb dX3_keepsDogsOut_0 rfl (lv_at hl 0 rfl) ?_
  refine dk_get (k := 325) hx hb hts iX3_keepsDogsOut_3 hown hK (dk_at325 hW) rfl 1 (by decide) (hts (.fieldLink RX3 12 "DogKings$Seer" "then" "LDogKings$Town;") (List.mem_of_getElem? (i := 1) rfl)) rfl dX3_keepsDogsOut_1 ?_
  refine lv_aload_n hx hb dX3_keepsDogsOut_4 rfl (lv_at hl 0 rfl) ?_
  refine dk_get (k := 325) hx hb hts iX3_keepsDogsOut_3 hown hK (dk_at325 hW) rfl 0 (by decide) (hts (.fieldLink RX3 22 "DogKings$Seer" "now" "LDogKings$Town;") (List.mem_of_getElem? (i := 2) rfl)) rfl dX3_keepsDogsOut_5 ?_
  refine dk_Vv (As := [.ref (z + 25)]) (rest := []) ⟨hx, hb, hml, hown, hts⟩ (c_X4_become_0 l g z I0 (326) (by unfold dkT; omega) (25) (by unfold dkT; omega) hO) (cwV 1 hts gX3_keepsDogsOut_X4_become rfl rfl rfl (by decide +kernel) ⟨Nat.le_of_ble_eq_true rfl, Nat.le_of_ble_eq_true rfl⟩) (dk_at326 hW) rfl hK hT hW hS rfl hl.1 rfl (Nat.le_of_ble_eq_true rfl) dX3_keepsDogsOut_8 ⟨Nat.zero_le _, Nat.zero_le _⟩ (fun I1 H1 L1 hp1 hW hS => ?_)
  obtain ⟨hF1, hO, hc1⟩ := hp1
  have hF := dkF_call hF hF1 rfl
  refine lv_aload_n hx hb dX3_keepsDogsOut_11 rfl (lv_at hl 0 rfl) ?_
  refine dk_get (k := 325) hx hb hts iX3_keepsDogsOut_3 hown hK (dk_at325 hW) rfl 1 (by decide) (hts (.fieldLink RX3 12 "DogKings$Seer" "then" "LDogKings$Town;") (List.mem_of_getElem? (i := 1) rfl)) rfl dX3_keepsDogsOut_12 ?_
  refine lv_iload_n hx hb dX3_keepsDogsOut_15 rfl (lv_at hl 1 rfl) ?_
  refine dk_put (k := 326) hx hb hts iX3_keepsDogsOut_4 tyX4 tyX4_ok nmX4 hown hK hW (dk_at326 hW) hS rfl 17 (by decide) (hts (.fieldLink RX3 81 "DogKings$Town" "cats" "I") (List.mem_of_getElem? (i := 3) rfl)) rfl rfl (Nat.le_of_ble_eq_true rfl) rfl dX3_keepsDogsOut_16 (fun I2 H2 L2 eI2 hW hS => ?_)
  have eI2 : I2 = dkU I1 326 17 p0 := eI2
  have hO := dkO_set hO eI2 (dkN_sub (dkN_top p0) rfl)
  have hF := dkF_set hF eI2 rfl
  refine lv_aload_n hx hb dX3_keepsDogsOut_19 rfl (lv_at hl 0 rfl) ?_
  refine dk_get (k := 325) hx hb hts iX3_keepsDogsOut_3 hown hK (dk_at325 hW) rfl 1 (by decide) (hts (.fieldLink RX3 12 "DogKings$Seer" "then" "LDogKings$Town;") (List.mem_of_getElem? (i := 1) rfl)) rfl dX3_keepsDogsOut_20 ?_
  refine dk_Vv (As := []) (rest := []) ⟨hx, hb, hml, hown, hts⟩ (c_X4_runToBell_0 l g z I2 (326) (by unfold dkT; omega) hO) (cwV 0 hts gX3_keepsDogsOut_X4_runToBell rfl rfl rfl (by decide +kernel) ⟨Nat.le_of_ble_eq_true rfl, Nat.le_of_ble_eq_true rfl⟩) (dk_at326 hW) rfl hK hT hW hS rfl hl.1 rfl (Nat.le_of_ble_eq_true rfl) dX3_keepsDogsOut_23 ⟨Nat.zero_le _, Nat.zero_le _⟩ (fun I3 H3 L3 hp3 hW hS => ?_)
  obtain ⟨hF3, hO, hc3⟩ := hp3
  have hF := dkF_call hF hF3 rfl
  refine lv_aload_n hx hb dX3_keepsDogsOut_26 rfl (lv_at hl 0 rfl) ?_
  refine dk_get (k := 325) hx hb hts iX3_keepsDogsOut_3 hown hK (dk_at325 hW) rfl 1 (by decide) (hts (.fieldLink RX3 12 "DogKings$Seer" "then" "LDogKings$Town;") (List.mem_of_getElem? (i := 1) rfl)) rfl dX3_keepsDogsOut_27 ?_
  refine lv_iload_n hx hb dX3_keepsDogsOut_30 rfl (lv_at hl 2 rfl) ?_
  refine dk_Vi (As := [.int p1]) (rest := []) ⟨hx, hb, hml, hown, hts⟩ (c_X4_dogsIn_0 l g z I3 (326) (by unfold dkT; omega) p1 hO) (cwV 1 hts gX3_keepsDogsOut_X4_dogsIn rfl rfl rfl (by decide +kernel) ⟨Nat.le_of_ble_eq_true rfl, Nat.le_of_ble_eq_true rfl⟩) (dk_at326 hW) rfl hK hT hW hS rfl hl.1 rfl (Nat.le_of_ble_eq_true rfl) dX3_keepsDogsOut_31 ⟨Nat.zero_le _, Nat.zero_le _⟩ (fun v4 I4 H4 L4 hp4 hW hS => ?_)
  obtain ⟨hF4, hO, hc4⟩ := hp4
  have hF := dkF_call hF hF4 rfl
  obtain ⟨_, -⟩ := hc4
  refine lv_if_ne (tgt := 41) hx hb dX3_keepsDogsOut_34 (by decide) (fun c5 => ?_) (fun c5 => ?_)
  ·
    have d6 : dkN [(-2147483648, -1), (1, 2147483647)] v4 := dkN_ne1 (0) (dkN_top v4) (dkN_lit (x := 0) (0) rfl) (dk_ne c5) rfl
    refine lv_iconst (v := 0) hx hb dX3_keepsDogsOut_41 (by decide) ?_
    exact W.zret (v := 0) (ty := .boolean) hx hb hr rfl (fun t ht hW9 => ⟨⟨0, I4, rfl, ⟨hF, hO, ⟨dkN_sub (dkN_lit (x := 0) (0) rfl) rfl, trivial⟩⟩, dkW_eq ht hW⟩, hS.F ht⟩) hS.2.2 dX3_keepsDogsOut_42
  ·
    have d7 : dkN [(0, 0)] v4 := dkN_eq1 (dkN_top v4) (dkN_lit (x := 0) (0) rfl) (congrArg Int32.toInt c5) rfl
    refine lv_iconst (v := 1) hx hb dX3_keepsDogsOut_37 (by decide) ?_
    refine lv_goto (tgt := 42) hx hb dX3_keepsDogsOut_38 (by decide) ?_
    exact W.zret (v := 1) (ty := .boolean) hx hb hr rfl (fun t ht hW9 => ⟨⟨1, I4, rfl, ⟨hF, hO, ⟨dkN_sub (dkN_lit (x := 1) (1) rfl) rfl, trivial⟩⟩, dkW_eq ht hW⟩, hS.F ht⟩) hS.2.2 dX3_keepsDogsOut_42
set_option maxHeartbeats 4000000 in
set_option maxRecDepth 100000 in
theorem c_X3_fewestCats_0 (l : Launch) (g : dkG) (z : Nat) (I0 : dkI) (p0 : Int32) (dp0 : dkN [(0, 8)] p0)  (hO : dkOk I0) : Met l yX3_fewestCats wsX3_fewestCats (dkR 6) (dkPc g z [.ref (z + 325), .int p0] I0) (dkQi g z (fun r I1 => dkF [(326, 326, 0, 4), (326, 326, 11, 11), (326, 326, 15, 17), (327, 327, 0, 4), (328, 328, 0, 4), (329, 329, 0, 4), (330, 330, 0, 4), (331, 331, 0, 4), (332, 332, 0, 4), (333, 333, 0, 5), (334, 334, 0, 5), (335, 335, 0, 5), (336, 336, 0, 8)] I0 I1 ∧ dkOk I1 ∧ ((dkN [(-1000000, -1000000)] r ∧ True) ∨ (dkN [(0, 511)] r ∧ dkN [(1, 9)] (I1 25 0) ∧ True)))) 0 0 (dkA z) := by
  refine Met.ofW (cc := cX3_fewestCats) (maxL := 4) (ret := (some .int)) (by decide) rfl ?_
  intro p e s m args below meth c s₁ B hml hv
  obtain ⟨ha, hW, hK, hT⟩ := hv
  have hx := B.exec
  have hb := B.bytes
  have hr := B.returns
  have hts := atoms_spec (ws := wsX3_fewestCats) B.pre
  have hown : s.vm.findClass RX3 = some m.cls := findClass_of_methodNamed B.named
  have hlocks := B.notSynchronized
  have hS : va_S (dkA z) s.heap s.heap [] := va_S.rf
  have hF : dkF [(326, 326, 0, 4), (326, 326, 11, 11), (326, 326, 15, 17), (327, 327, 0, 4), (328, 328, 0, 4), (329, 329, 0, 4), (330, 330, 0, 4), (331, 331, 0, 4), (332, 332, 0, 4), (333, 333, 0, 5), (334, 334, 0, 5), (335, 335, 0, 5), (336, 336, 0, 8)] I0 I0 := dkF_rf _ _
  have hl := lv_entry ([.ref (z + 325), .int p0]) (n := 4) (Nat.le_of_ble_eq_true rfl)
  have hgo : entryFrame m args 4 = entryFrame m ([.ref (z + 325), .int p0] : List Value).toArray 4 := by rw [ha]
  rw [hgo, lg_entry_eq]
  generalize (lg_sl ([.ref (z + 325), .int p0]) ++ List.replicate (4 - (lg_sl ([.ref (z + 325), .int p0])).length) Slot.unset).toArray = ls at hl ⊢
  have hl : lv_has ls 4 [(0, .ref (z + 325)), (1, .int p0)] := hl
  have C2 : ∀ (n : Nat), ∀ (I : dkI) (H : Heap) (locs : List Loc) (ls : Array Slot) (x2_2 : Int32), (9 - x2_2.toInt).toNat < n → dkW g z I H → va_S (dkA z) s.heap H locs → dkF [(326, 326, 0, 4), (326, 326, 11, 11), (326, 326, 15, 17), (327, 327, 0, 4), (328, 328, 0, 4), (329, 329, 0, 4), (330, 330, 0, 4), (331, 331, 0, 4), (332, 332, 0, 4), (333, 333, 0, 5), (334, 334, 0, 5), (335, 335, 0, 5), (336, 336, 0, 8)] I0 I → dkOk I → dkN [(0, 9)] x2_2 → lv_has ls 4 [(0, .ref (z + 325)), (1, .int p0), (2, .int x2_2)] → W p l e (headSpec wsX3_fewestCats (dkR 6)).room s m args below meth c H locs 0 0 (MQ below (dkQi g z (fun r I1 => dkF [(326, 326, 0, 4), (326, 326, 11, 11), (326, 326, 15, 17), (327, 327, 0, 4), (328, 328, 0, 4), (329, 329, 0, 4), (330, 330, 0, 4), (331, 331, 0, 4), (332, 332, 0, 4), (333, 333, 0, 5), (334, 334, 0, 5), (335, 335, 0, 5), (336, 336, 0, 8)] I0 I1 ∧ dkOk I1 ∧ ((dkN [(-1000000, -1000000)] r ∧ True) ∨ (dkN [(0, 511)] r ∧ dkN [(1, 9)] (I1 25 0) ∧ True)))) args s 0 0 (dkA z)) (F0 m 2 ls []) := by
    intro n
    induction n with
    | zero => intro I H locs ls x2_2 hn; exact absurd hn (Nat.not_lt_zero _)
    | succ n ih2 =>
      intro I2_ H locs ls x2_2 hn2 hW hS hF_2 hO k2_0 hl
      have hF := hF_2
      have C15 : ∀ (n : Nat), ∀ (I : dkI) (H : Heap) (locs : List Loc) (ls : Array Slot) (x15_3 : Int32), (2147483647 - x15_3.toInt).toNat < n → dkW g z I H → va_S (dkA z) s.heap H locs → dkF [(326, 326, 0, 4), (326, 326, 11, 11), (326, 326, 15, 17), (327, 327, 0, 4), (328, 328, 0, 4), (329, 329, 0, 4), (330, 330, 0, 4), (331, 331, 0, 4), (332, 332, 0, 4), (333, 333, 0, 5), (334, 334, 0, 5), (335, 335, 0, 5), (336, 336, 0, 8)] I0 I → dkOk I → dkN [(0, 2147483647)] x15_3 → dkN [(0, 8)] x2_2 → dkN [(1, 9)] (I 25 0) → lv_has ls 4 [(0, .ref (z + 325)), (1, .int p0), (2, .int x2_2), (3, .int x15_3)] → W p l e (headSpec wsX3_fewestCats (dkR 6)).room s m args below meth c H locs 0 0 (MQ below (dkQi g z (fun r I1 => dkF [(326, 326, 0, 4), (326, 326, 11, 11), (326, 326, 15, 17), (327, 327, 0, 4), (328, 328, 0, 4), (329, 329, 0, 4), (330, 330, 0, 4), (331, 331, 0, 4), (332, 332, 0, 4), (333, 333, 0, 5), (334, 334, 0, 5), (335, 335, 0, 5), (336, 336, 0, 8)] I0 I1 ∧ dkOk I1 ∧ ((dkN [(-1000000, -1000000)] r ∧ True) ∨ (dkN [(0, 511)] r ∧ dkN [(1, 9)] (I1 25 0) ∧ True)))) args s 0 0 (dkA z)) (F0 m 15 ls []) := by
        intro n
        induction n with
        | zero => intro I H locs ls x15_3 hn; exact absurd hn (Nat.not_lt_zero _)
        | succ n ih15 =>
          intro I15_ H locs ls x15_3 hn15 hW hS hF_15 hO k15_0 r15_0 f15_0 hl
          have hF := hF_15
          have C56 : ∀ (I : dkI) (H : Heap) (locs : List Loc) (ls : Array Slot), dkW g z I H → va_S (dkA z) s.heap H locs → dkF [(326, 326, 0, 4), (326, 326, 11, 11), (326, 326, 15, 17), (327, 327, 0, 4), (328, 328, 0, 4), (329, 329, 0, 4), (330, 330, 0, 4), (331, 331, 0, 4), (332, 332, 0, 4), (333, 333, 0, 5), (334, 334, 0, 5), (335, 335, 0, 5), (336, 336, 0, 8)] I0 I → dkOk I → dkN [(0, 8)] x2_2 → dkN [(0, 511)] x15_3 → dkN [(1, 9)] (I 25 0) → lv_has ls 4 [(0, .ref (z + 325)), (1, .int p0), (2, .int x2_2), (3, .int x15_3)] → W p l e (headSpec wsX3_fewestCats (dkR 6)).room s m args below meth c H locs 0 0 (MQ below (dkQi g z (fun r I1 => dkF [(326, 326, 0, 4), (326, 326, 11, 11), (326, 326, 15, 17), (327, 327, 0, 4), (328, 328, 0, 4), (329, 329, 0, 4), (330, 330, 0, 4), (331, 331, 0, 4), (332, 332, 0, 4), (333, 333, 0, 5), (334, 334, 0, 5), (335, 335, 0, 5), (336, 336, 0, 8)] I0 I1 ∧ dkOk I1 ∧ ((dkN [(-1000000, -1000000)] r ∧ True) ∨ (dkN [(0, 511)] r ∧ dkN [(1, 9)] (I1 25 0) ∧ True)))) args s 0 0 (dkA z)) (F0 m 56 ls []) := by
            intro I56_ H locs ls hW hS hF_56 hO r56_0 r56_1 f56_0 hl
            have hF := hF_56
            obtain ⟨v1, ev1⟩ : ∃ y : Int32, y = x15_3 + 1 := ⟨_, rfl⟩
            have dv1 : dkN [(1, 512)] v1 := by rw [ev1]; exact dkN_add r56_1 (dkN_lit (x := 1) (1) rfl) rfl
            refine lv_iinc (v := v1) (lv' := [(3, .int v1), (0, .ref (z + 325)), (1, .int p0), (2, .int x2_2)]) hx hb dX3_fewestCats_56 hl (k := 3) rfl (by rw [ev1]; rfl) (by decide) rfl (fun ls hl => ?_)
            refine lv_goto (tgt := 15) hx hb dX3_fewestCats_59 (by decide) ?_
            exact ih15 I56_ _ _ ls v1 (dk_near hn15 (by rw [ev1]; exact dk_inc r56_1 rfl) (dkN_lt r56_1 rfl)) hW hS hF hO (dkN_sub dv1 rfl) (dkN_sub r56_0 rfl) (show dkN [(1, 9)] (I56_ 25 0) from dkN_sub f56_0 rfl) (lv_sub hl [1, 2, 3, 0] rfl)
          refine lv_iload_n hx hb dX3_fewestCats_15 rfl (lv_at hl 3 rfl) ?_
          refine lv_aload_n hx hb dX3_fewestCats_16 rfl (lv_at hl 0 rfl) ?_
          refine dk_get (k := 325) hx hb hts iX3_fewestCats_3 hown hK (dk_at325 hW) rfl 0 (by decide) (hts (.fieldLink RX3 22 "DogKings$Seer" "now" "LDogKings$Town;") (List.mem_of_getElem? (i := 1) rfl)) rfl dX3_fewestCats_17 ?_
          refine dk_get (k := 25) hx hb hts iX3_fewestCats_4 hown hK (dk_at25 hW) rfl 0 (by decide) (hts (.fieldLink RX3 61 "DogKings$Town" "places" "I") (List.mem_of_getElem? (i := 2) rfl)) rfl dX3_fewestCats_20 ?_
          refine lv_topi (fun v2 ev2 => ?_)
          have dv2 : dkN [(1, 9)] v2 := by rw [ev2]; exact f15_0
          refine dk_SiN (As := [.int v2]) (rest := [.int x15_3]) ⟨hx, hb, hml, hown, hts⟩ (c_X5_setOfAll_1 l g z I15_ v2 dv2 hO) ⟨va_cnB 1 hts gX3_fewestCats_X5_setOfAll_n65 rfl rfl rfl (hK.2.1 (RX3, 65, yX5_setOfAll) (by decide)) (hts (.initialized RX5) (List.mem_of_getElem? (i := 5) rfl)) (by decide +kernel) ⟨Nat.le_of_ble_eq_true rfl, Nat.le_of_ble_eq_true rfl⟩, (hts (.static yX5_setOfAll) (List.mem_of_getElem? (i := 4) rfl)), trivial⟩ hK hT hW hS rfl hl.1 rfl (Nat.le_of_ble_eq_true rfl) dX3_fewestCats_23 ⟨Nat.zero_le _, Nat.zero_le _⟩ (fun v3 I3 H3 L3 hp3 hW hS => ?_)
          obtain ⟨hF3, hO, hc3⟩ := hp3
          have hF := dkF_call hF hF3 rfl
          obtain ⟨dv3, -⟩ := hc3
          refine lv_icmp_gt (tgt := 62) hx hb dX3_fewestCats_26 (by decide) (fun c4 => ?_) (fun c4 => ?_)
          ·
            have d5 : dkN [(2, 2147483647)] x15_3 := dkN_le2 1 dv3 k15_0 (dkc_lt c4) rfl
            obtain ⟨v6, ev6⟩ : ∃ y : Int32, y = x2_2 + 1 := ⟨_, rfl⟩
            have dv6 : dkN [(1, 9)] v6 := by rw [ev6]; exact dkN_add r15_0 (dkN_lit (x := 1) (1) rfl) rfl
            refine lv_iinc (v := v6) (lv' := [(2, .int v6), (0, .ref (z + 325)), (1, .int p0), (3, .int x15_3)]) hx hb dX3_fewestCats_62 hl (k := 2) rfl (by rw [ev6]; rfl) (by decide) rfl (fun ls hl => ?_)
            refine lv_goto (tgt := 2) hx hb dX3_fewestCats_65 (by decide) ?_
            exact ih2 I3 _ _ ls v6 (dk_near hn2 (by rw [ev6]; exact dk_inc r15_0 rfl) (dkN_lt r15_0 rfl)) hW hS hF hO (dkN_sub dv6 rfl) (lv_sub hl [1, 2, 0] rfl)
          ·
            have d7 : dkN [(0, 511)] x15_3 := dkN_le1 0 k15_0 dv3 (dkc_nlt c4) rfl
            refine lv_iload_n hx hb dX3_fewestCats_29 rfl (lv_at hl 3 rfl) ?_
            refine dk_Si (As := [.int x15_3]) (rest := []) ⟨hx, hb, hml, hown, hts⟩ (c_J6_bitCount_0f7a4_0 l g z I3 x15_3 hO) (va_cwS 1 hts gX3_fewestCats_J6_bitCount_0f7a4 rfl rfl rfl (by decide +kernel) ⟨Nat.le_of_ble_eq_true rfl, Nat.le_of_ble_eq_true rfl⟩) hK hT hW hS rfl hl.1 rfl (Nat.le_of_ble_eq_true rfl) dX3_fewestCats_30 ⟨Nat.zero_le _, Nat.zero_le _⟩ (fun v8 I8 H8 L8 hp8 hW hS => ?_)
            obtain ⟨hF8, hO, hc8⟩ := hp8
            have hF := dkF_call hF hF8 rfl
            obtain ⟨dv8, -⟩ := hc8
            refine lv_iload_n hx hb dX3_fewestCats_33 rfl (lv_at hl 2 rfl) ?_
            refine lv_icmp_ne (tgt := 56) hx hb dX3_fewestCats_34 (by decide) (fun c9 => ?_) (fun c9 => ?_)
            ·
              exact C56 I8 _ _ ls  hW hS hF hO (dkN_sub r15_0 rfl) (dkN_sub d7 rfl) (show dkN [(1, 9)] (I8 25 0) from dkN_sub (by rw [hF8 25 0 rfl]; exact (by rw [hF3 25 0 rfl]; exact f15_0)) rfl) (lv_sub hl [0, 1, 2, 3] rfl)
            ·
              have d10 : dkN [(0, 8)] v8 := dkN_eq1 dv8 r15_0 (congrArg Int32.toInt c9) rfl
              refine lv_iload_n hx hb dX3_fewestCats_37 rfl (lv_at hl 3 rfl) ?_
              refine lv_iload_n hx hb dX3_fewestCats_38 rfl (lv_at hl 1 rfl) ?_
              refine dk_SiN (As := [.int x15_3, .int p0]) (rest := []) ⟨hx, hb, hml, hown, hts⟩ (c_X5_holds_0 l g z I8 x15_3 p0 hO) ⟨va_cnB 2 hts gX3_fewestCats_X5_holds_n74 rfl rfl rfl (hK.2.1 (RX3, 74, yX5_holds) (by decide)) (hts (.initialized RX5) (List.mem_of_getElem? (i := 5) rfl)) (by decide +kernel) ⟨Nat.le_of_ble_eq_true rfl, Nat.le_of_ble_eq_true rfl⟩, (hts (.static yX5_holds) (List.mem_of_getElem? (i := 14) rfl)), trivial⟩ hK hT hW hS rfl hl.1 rfl (Nat.le_of_ble_eq_true rfl) dX3_fewestCats_39 ⟨Nat.zero_le _, Nat.zero_le _⟩ (fun v11 I11 H11 L11 hp11 hW hS => ?_)
              obtain ⟨hF11, hO, hc11⟩ := hp11
              have hF := dkF_call hF hF11 rfl
              obtain ⟨dv11, -⟩ := hc11
              refine lv_if_ne (tgt := 56) hx hb dX3_fewestCats_42 (by decide) (fun c12 => ?_) (fun c12 => ?_)
              ·
                have d13 : dkN [(1, 1)] v11 := dkN_ne1 (0) dv11 (dkN_lit (x := 0) (0) rfl) (dk_ne c12) rfl
                exact C56 I11 _ _ ls  hW hS hF hO (dkN_sub r15_0 rfl) (dkN_sub d7 rfl) (show dkN [(1, 9)] (I11 25 0) from dkN_sub (by rw [hF11 25 0 rfl]; exact (by rw [hF8 25 0 rfl]; exact (by rw [hF3 25 0 rfl]; exact f15_0))) rfl) (lv_sub hl [0, 1, 2, 3] rfl)
              ·
                have d14 : dkN [(0, 0)] v11 := dkN_eq1 dv11 (dkN_lit (x := 0) (0) rfl) (congrArg Int32.toInt c12) rfl
                refine lv_aload_n hx hb dX3_fewestCats_45 rfl (lv_at hl 0 rfl) ?_
                refine lv_iload_n hx hb dX3_fewestCats_46 rfl (lv_at hl 3 rfl) ?_
                refine lv_iload_n hx hb dX3_fewestCats_47 rfl (lv_at hl 1 rfl) ?_
                refine dk_Vi (As := [.int x15_3, .int p0]) (rest := []) ⟨hx, hb, hml, hown, hts⟩ (c_X3_keepsDogsOut_0 l g z I11 x15_3 p0 hO) (cwV 2 hts gX3_fewestCats_X3_keepsDogsOut rfl rfl rfl (by decide +kernel) ⟨Nat.le_of_ble_eq_true rfl, Nat.le_of_ble_eq_true rfl⟩) (dk_at325 hW) rfl hK hT hW hS rfl hl.1 rfl (Nat.le_of_ble_eq_true rfl) dX3_fewestCats_48 ⟨Nat.zero_le _, Nat.zero_le _⟩ (fun v15 I15 H15 L15 hp15 hW hS => ?_)
                obtain ⟨hF15, hO, hc15⟩ := hp15
                have hF := dkF_call hF hF15 rfl
                obtain ⟨dv15, -⟩ := hc15
                refine lv_if_eq (tgt := 56) hx hb dX3_fewestCats_51 (by decide) (fun c16 => ?_) (fun c16 => ?_)
                ·
                  have d17 : dkN [(0, 0)] v15 := dkN_eq1 dv15 (dkN_lit (x := 0) (0) rfl) (congrArg Int32.toInt c16) rfl
                  exact C56 I15 _ _ ls  hW hS hF hO (dkN_sub r15_0 rfl) (dkN_sub d7 rfl) (show dkN [(1, 9)] (I15 25 0) from dkN_sub (by rw [hF15 25 0 rfl]; exact (by rw [hF11 25 0 rfl]; exact (by rw [hF8 25 0 rfl]; exact (by rw [hF3 25 0 rfl]; exact f15_0)))) rfl) (lv_sub hl [0, 1, 2, 3] rfl)
                ·
                  have d18 : dkN [(1, 1)] v15 := dkN_ne1 (0) dv15 (dkN_lit (x := 0) (0) rfl) (dk_ne c16) rfl
                  refine lv_iload_n hx hb dX3_fewestCats_54 rfl (lv_at hl 3 rfl) ?_
                  exact W.iret (v := x15_3) hx hb hr (fun t ht hW9 => ⟨⟨x15_3, I15, rfl, ⟨hF, hO, Or.inr (⟨dkN_sub d7 rfl, (show dkN [(1, 9)] (I15 25 0) from dkN_sub (by rw [hF15 25 0 rfl]; exact (by rw [hF11 25 0 rfl]; exact (by rw [hF8 25 0 rfl]; exact (by rw [hF3 25 0 rfl]; exact f15_0)))) rfl), trivial⟩)⟩, dkW_eq ht hW⟩, hS.F ht⟩) hS.2.2 dX3_fewestCats_55
      refine lv_iload_n hx hb dX3_fewestCats_2 rfl (lv_at hl 2 rfl) ?_
      refine lv_aload_n hx hb dX3_fewestCats_3 rfl (lv_at hl 0 rfl) ?_
      refine dk_get (k := 325) hx hb hts iX3_fewestCats_3 hown hK (dk_at325 hW) rfl 0 (by decide) (hts (.fieldLink RX3 22 "DogKings$Seer" "now" "LDogKings$Town;") (List.mem_of_getElem? (i := 1) rfl)) rfl dX3_fewestCats_4 ?_
      refine dk_get (k := 25) hx hb hts iX3_fewestCats_4 hown hK (dk_at25 hW) rfl 0 (by decide) (hts (.fieldLink RX3 61 "DogKings$Town" "places" "I") (List.mem_of_getElem? (i := 2) rfl)) rfl dX3_fewestCats_7 ?_
      refine lv_topi (fun v19 ev19 => ?_)
      have dv19 : dkN [(0, 9)] v19 := by rw [ev19]; exact (hO 25 0)
      refine lv_icmp_ge (tgt := 68) hx hb dX3_fewestCats_10 (by decide) (fun c20 => ?_) (fun c20 => ?_)
      ·
        refine lv_ldc (v := (-1000000)) hx hb hown (hts (.constant RX3 43 (-1000000)) (List.mem_of_getElem? (i := 3) rfl)) dX3_fewestCats_68 ?_
        exact W.iret (v := (-1000000)) hx hb hr (fun t ht hW9 => ⟨⟨(-1000000), I2_, rfl, ⟨hF, hO, Or.inl ⟨dkN_sub (dkN_lit (x := (-1000000)) (-1000000) rfl) rfl, trivial⟩⟩, dkW_eq ht hW⟩, hS.F ht⟩) hS.2.2 dX3_fewestCats_70
      ·
        have d21 : dkN [(1, 9)] v19 := dkN_le2 1 k2_0 dv19 (dkc_nle c20) rfl
        have f22 : dkN [(1, 9)] (I2_ 25 0) := by rw [← ev19]; exact d21
        have d23 : dkN [(0, 8)] x2_2 := dkN_le1 1 k2_0 dv19 (dkc_nle c20) rfl
        refine lv_iconst (v := 0) hx hb dX3_fewestCats_13 (by decide) ?_
        refine lv_istore_n (lv' := [(3, .int 0), (0, .ref (z + 325)), (1, .int p0), (2, .int x2_2)]) hx hb dX3_fewestCats_14 rfl hl (by decide) rfl (fun ls hl => ?_)
        exact C15 _ I2_ _ _ ls 0 (Nat.lt_succ_self _) hW hS hF hO (dkN_sub (dkN_lit (x := 0) (0) rfl) rfl) (dkN_sub d23 rfl) (show dkN [(1, 9)] (I2_ 25 0) from dkN_sub f22 rfl) (lv_sub hl [1, 2, 3, 0] rfl)
  refine lv_iconst (v := 0) hx hb dX3_fewestCats_0 (by decide) ?_
  refine lv_istore_n (lv' := [(2, .int 0), (0, .ref (z + 325)), (1, .int p0)]) hx hb dX3_fewestCats_1 rfl hl (by decide) rfl (fun ls hl => ?_)
  exact C2 _ I0 _ _ ls 0 (Nat.lt_succ_self _) hW hS hF hO (dkN_sub (dkN_lit (x := 0) (0) rfl) rfl) (lv_sub hl [1, 2, 0] rfl)
set_option maxHeartbeats 4000000 in
set_option maxRecDepth 100000 in
theorem c_X5_cats_0 (l : Launch) (g : dkG) (z : Nat) (I0 : dkI) (p0 : Int32) (p1 : Int32)  (hO : dkOk I0) : Met l yX5_cats wsX5_cats (dkR 7) (dkPc g z [.ref (z + 0), .int p0, .int p1] I0) (dkQi g z (fun r I1 => dkF [(326, 326, 0, 4), (326, 326, 11, 11), (326, 326, 15, 17), (327, 327, 0, 4), (328, 328, 0, 4), (329, 329, 0, 4), (330, 330, 0, 4), (331, 331, 0, 4), (332, 332, 0, 4), (333, 333, 0, 5), (334, 334, 0, 5), (335, 335, 0, 5), (336, 336, 0, 8)] I0 I1 ∧ dkOk I1 ∧ ((dkN [(-1000001, -1000001)] r ∧ True) ∨ (dkN [(-1000000, -1000000)] r ∧ dkN [(0, 8)] p0 ∧ dkN [(0, 1)] p1 ∧ dkN [(1, 9)] (I1 25 0) ∧ True) ∨ (dkN [(0, 511)] r ∧ dkN [(0, 8)] p0 ∧ dkN [(0, 1)] p1 ∧ dkN [(1, 9)] (I1 25 0) ∧ True)))) 0 0 (dkA z) := by
  refine Met.ofW (cc := cX5_cats) (maxL := 4) (ret := (some .int)) (by decide) rfl ?_
  intro p e s m args below meth c s₁ B hml hv
  obtain ⟨ha, hW, hK, hT⟩ := hv
  have hx := B.exec
  have hb := B.bytes
  have hr := B.returns
  have hts := atoms_spec (ws := wsX5_cats) B.pre
  have hown : s.vm.findClass RX5 = some m.cls := findClass_of_methodNamed B.named
  have hlocks := B.notSynchronized
  have hS : va_S (dkA z) s.heap s.heap [] := va_S.rf
  have hF : dkF [(326, 326, 0, 4), (326, 326, 11, 11), (326, 326, 15, 17), (327, 327, 0, 4), (328, 328, 0, 4), (329, 329, 0, 4), (330, 330, 0, 4), (331, 331, 0, 4), (332, 332, 0, 4), (333, 333, 0, 5), (334, 334, 0, 5), (335, 335, 0, 5), (336, 336, 0, 8)] I0 I0 := dkF_rf _ _
  have hl := lv_entry ([.ref (z + 0), .int p0, .int p1]) (n := 4) (Nat.le_of_ble_eq_true rfl)
  have hgo : entryFrame m args 4 = entryFrame m ([.ref (z + 0), .int p0, .int p1] : List Value).toArray 4 := by rw [ha]
  rw [hgo, lg_entry_eq]
  generalize (lg_sl ([.ref (z + 0), .int p0, .int p1]) ++ List.replicate (4 - (lg_sl ([.ref (z + 0), .int p0, .int p1])).length) Slot.unset).toArray = ls at hl ⊢
  have hl : lv_has ls 4 [(0, .ref (z + 0)), (1, .int p0), (2, .int p1)] := hl
  refine lv_aload_n hx hb dX5_cats_0 rfl (lv_at hl 0 rfl) ?_
  refine lv_iload_n hx hb dX5_cats_1 rfl (lv_at hl 1 rfl) ?_
  refine dk_Vi (As := [.int p0]) (rest := []) ⟨hx, hb, hml, hown, hts⟩ (c_X5_isPlace_0 l g z I0 p0 hO) (cwV 1 hts gX5_cats_X5_isPlace rfl rfl rfl (by decide +kernel) ⟨Nat.le_of_ble_eq_true rfl, Nat.le_of_ble_eq_true rfl⟩) (dk_at0 hW) rfl hK hT hW hS rfl hl.1 rfl (Nat.le_of_ble_eq_true rfl) dX5_cats_2 ⟨Nat.zero_le _, Nat.zero_le _⟩ (fun v1 I1 H1 L1 hp1 hW hS => ?_)
  obtain ⟨hF1, hO, hc1⟩ := hp1
  have hF := dkF_call hF hF1 rfl
  rcases hc1 with ⟨dv1, -⟩ | hc1
  ·
    refine lv_if_eq (tgt := 16) hx hb dX5_cats_5 (by decide) (fun c2 => ?_) (fun c2 => ?_)
    ·
      refine lv_ldc (v := (-1000001)) hx hb hown (hts (.constant RX5 70 (-1000001)) (List.mem_of_getElem? (i := 1) rfl)) dX5_cats_16 ?_
      exact W.iret (v := (-1000001)) hx hb hr (fun t ht hW9 => ⟨⟨(-1000001), I1, rfl, ⟨hF, hO, Or.inl ⟨dkN_sub (dkN_lit (x := (-1000001)) (-1000001) rfl) rfl, trivial⟩⟩, dkW_eq ht hW⟩, hS.F ht⟩) hS.2.2 dX5_cats_18
    ·
      exact (dkN_nil (show dkN [] v1 from dkN_ne1 (0) dv1 (dkN_lit (x := 0) (0) rfl) (dk_ne c2) rfl)).elim
  ·
    obtain ⟨dv1, a1_0, f1_25_0, -⟩ := hc1
    have d3 : dkN [(0, 8)] p0 := dkN_eq1 (dkN_top p0) a1_0 rfl rfl
    refine lv_if_eq (tgt := 16) hx hb dX5_cats_5 (by decide) (fun c4 => ?_) (fun c4 => ?_)
    ·
      exact (dkN_nil (show dkN [] v1 from dkN_eq1 dv1 (dkN_lit (x := 0) (0) rfl) (congrArg Int32.toInt c4) rfl)).elim
    ·
      refine lv_iload_n hx hb dX5_cats_8 rfl (lv_at hl 2 rfl) ?_
      refine lv_iconst (v := 1) hx hb dX5_cats_9 (by decide) ?_
      refine dk_Si (As := [.int p1, .int 1]) (rest := []) ⟨hx, hb, hml, hown, hts⟩ (c_X5_isUpTo_5 l g z I1 p1 1 (dkN_lit (x := 1) (1) rfl) hO) (va_cwS 2 hts gX5_cats_X5_isUpTo rfl rfl rfl (by decide +kernel) ⟨Nat.le_of_ble_eq_true rfl, Nat.le_of_ble_eq_true rfl⟩) hK hT hW hS rfl hl.1 rfl (Nat.le_of_ble_eq_true rfl) dX5_cats_10 ⟨Nat.zero_le _, Nat.zero_le _⟩ (fun v5 I5 H5 L5 hp5 hW hS => ?_)
      obtain ⟨hF5, hO, hc5⟩ := hp5
      have hF := dkF_call hF hF5 rfl
      rcases hc5 with ⟨dv5, a5_0, -⟩ | hc5
      ·
        have d6 : dkN [(-2147483648, -1), (2, 2147483647)] p1 := dkN_eq1 (dkN_top p1) a5_0 rfl rfl
        refine lv_if_ne (tgt := 19) hx hb dX5_cats_13 (by decide) (fun c7 => ?_) (fun c7 => ?_)
        ·
          exact (dkN_nil (show dkN [] v5 from dkN_ne1 (0) dv5 (dkN_lit (x := 0) (0) rfl) (dk_ne c7) rfl)).elim
        ·
          refine lv_ldc (v := (-1000001)) hx hb hown (hts (.constant RX5 70 (-1000001)) (List.mem_of_getElem? (i := 1) rfl)) dX5_cats_16 ?_
          exact W.iret (v := (-1000001)) hx hb hr (fun t ht hW9 => ⟨⟨(-1000001), I5, rfl, ⟨hF, hO, Or.inl ⟨dkN_sub (dkN_lit (x := (-1000001)) (-1000001) rfl) rfl, trivial⟩⟩, dkW_eq ht hW⟩, hS.F ht⟩) hS.2.2 dX5_cats_18
      ·
        obtain ⟨dv5, a5_0, -⟩ := hc5
        have d8 : dkN [(0, 1)] p1 := dkN_eq1 (dkN_top p1) a5_0 rfl rfl
        refine lv_if_ne (tgt := 19) hx hb dX5_cats_13 (by decide) (fun c9 => ?_) (fun c9 => ?_)
        ·
          refine lv_aload_n hx hb dX5_cats_19 rfl (lv_at hl 0 rfl) ?_
          refine dk_get (k := 0) hx hb hts iX5_cats_5 hown hK (dk_at0 hW) rfl 8 (by decide) (hts (.fieldLink RX5 51 "DogKings" "seer" "LDogKings$Seer;") (List.mem_of_getElem? (i := 2) rfl)) rfl dX5_cats_20 ?_
          refine lv_iload_n hx hb dX5_cats_23 rfl (lv_at hl 1 rfl) ?_
          refine dk_Vi (As := [.int p0]) (rest := []) ⟨hx, hb, hml, hown, hts⟩ (c_X3_fewestCats_0 l g z I5 p0 d3 hO) (cwV 1 hts gX5_cats_X3_fewestCats rfl rfl rfl (by decide +kernel) ⟨Nat.le_of_ble_eq_true rfl, Nat.le_of_ble_eq_true rfl⟩) (dk_at325 hW) rfl hK hT hW hS rfl hl.1 rfl (Nat.le_of_ble_eq_true rfl) dX5_cats_24 ⟨Nat.zero_le _, Nat.zero_le _⟩ (fun v10 I10 H10 L10 hp10 hW hS => ?_)
          obtain ⟨hF10, hO, hc10⟩ := hp10
          have hF := dkF_call hF hF10 rfl
          rcases hc10 with ⟨dv10, -⟩ | hc10
          ·
            refine lv_istore_n (lv' := [(3, .int v10), (0, .ref (z + 0)), (1, .int p0), (2, .int p1)]) hx hb dX5_cats_27 rfl hl (by decide) rfl (fun ls hl => ?_)
            refine lv_iload_n hx hb dX5_cats_28 rfl (lv_at hl 3 rfl) ?_
            refine lv_if_ne (tgt := 45) hx hb dX5_cats_29 (by decide) (fun c11 => ?_) (fun c11 => ?_)
            ·
              have d12 : dkN [(1, 1)] p1 := dkN_ne1 (0) d8 (dkN_lit (x := 0) (0) rfl) (dk_ne c11) rfl
              refine lv_iload_n hx hb dX5_cats_45 rfl (lv_at hl 0 rfl) ?_
              exact W.iret (v := v10) hx hb hr (fun t ht hW9 => ⟨⟨v10, I10, rfl, ⟨hF, hO, Or.inr (Or.inl ⟨dkN_sub dv10 rfl, dkN_sub d3 rfl, dkN_sub d12 rfl, (show dkN [(1, 9)] (I10 25 0) from dkN_sub (by rw [hF10 25 0 rfl]; exact (by rw [hF5 25 0 rfl]; exact f1_25_0)) rfl), trivial⟩)⟩, dkW_eq ht hW⟩, hS.F ht⟩) hS.2.2 dX5_cats_46
            ·
              have d13 : dkN [(0, 0)] p1 := dkN_eq1 d8 (dkN_lit (x := 0) (0) rfl) (congrArg Int32.toInt c11) rfl
              refine lv_iload_n hx hb dX5_cats_32 rfl (lv_at hl 0 rfl) ?_
              refine lv_ldc (v := (-1000000)) hx hb hown (hts (.constant RX5 210 (-1000000)) (List.mem_of_getElem? (i := 3) rfl)) dX5_cats_33 ?_
              refine lv_icmp_eq (tgt := 45) hx hb dX5_cats_35 (by decide) (fun c14 => ?_) (fun c14 => ?_)
              ·
                refine lv_iload_n hx hb dX5_cats_45 rfl (lv_at hl 0 rfl) ?_
                exact W.iret (v := v10) hx hb hr (fun t ht hW9 => ⟨⟨v10, I10, rfl, ⟨hF, hO, Or.inr (Or.inl ⟨dkN_sub dv10 rfl, dkN_sub d3 rfl, dkN_sub d13 rfl, (show dkN [(1, 9)] (I10 25 0) from dkN_sub (by rw [hF10 25 0 rfl]; exact (by rw [hF5 25 0 rfl]; exact f1_25_0)) rfl), trivial⟩)⟩, dkW_eq ht hW⟩, hS.F ht⟩) hS.2.2 dX5_cats_46
              ·
                exact (dkN_nil (show dkN [] v10 from dkN_ne1 (-1000000) dv10 (dkN_lit (x := (-1000000)) (-1000000) rfl) (dk_ne c14) rfl)).elim
          ·
            obtain ⟨dv10, f10_25_0, -⟩ := hc10
            refine lv_istore_n (lv' := [(3, .int v10), (0, .ref (z + 0)), (1, .int p0), (2, .int p1)]) hx hb dX5_cats_27 rfl hl (by decide) rfl (fun ls hl => ?_)
            refine lv_iload_n hx hb dX5_cats_28 rfl (lv_at hl 3 rfl) ?_
            refine lv_if_ne (tgt := 45) hx hb dX5_cats_29 (by decide) (fun c15 => ?_) (fun c15 => ?_)
            ·
              have d16 : dkN [(1, 1)] p1 := dkN_ne1 (0) d8 (dkN_lit (x := 0) (0) rfl) (dk_ne c15) rfl
              refine lv_iload_n hx hb dX5_cats_45 rfl (lv_at hl 0 rfl) ?_
              exact W.iret (v := v10) hx hb hr (fun t ht hW9 => ⟨⟨v10, I10, rfl, ⟨hF, hO, Or.inr (Or.inr (⟨dkN_sub dv10 rfl, dkN_sub d3 rfl, dkN_sub d16 rfl, (show dkN [(1, 9)] (I10 25 0) from dkN_sub f10_25_0 rfl), trivial⟩))⟩, dkW_eq ht hW⟩, hS.F ht⟩) hS.2.2 dX5_cats_46
            ·
              have d17 : dkN [(0, 0)] p1 := dkN_eq1 d8 (dkN_lit (x := 0) (0) rfl) (congrArg Int32.toInt c15) rfl
              refine lv_iload_n hx hb dX5_cats_32 rfl (lv_at hl 0 rfl) ?_
              refine lv_ldc (v := (-1000000)) hx hb hown (hts (.constant RX5 210 (-1000000)) (List.mem_of_getElem? (i := 3) rfl)) dX5_cats_33 ?_
              refine lv_icmp_eq (tgt := 45) hx hb dX5_cats_35 (by decide) (fun c18 => ?_) (fun c18 => ?_)
              ·
                exact (dkN_nil (show dkN [] v10 from dkN_eq1 dv10 (dkN_lit (x := (-1000000)) (-1000000) rfl) (congrArg Int32.toInt c18) rfl)).elim
              ·
                refine lv_iload_n hx hb dX5_cats_38 rfl (lv_at hl 0 rfl) ?_
                refine dk_Si (As := [.int v10]) (rest := []) ⟨hx, hb, hml, hown, hts⟩ (c_J6_bitCount_0f7a4_0 l g z I10 v10 hO) (va_cwS 1 hts gX5_cats_J6_bitCount_0f7a4 rfl rfl rfl (by decide +kernel) ⟨Nat.le_of_ble_eq_true rfl, Nat.le_of_ble_eq_true rfl⟩) hK hT hW hS rfl hl.1 rfl (Nat.le_of_ble_eq_true rfl) dX5_cats_39 ⟨Nat.zero_le _, Nat.zero_le _⟩ (fun v19 I19 H19 L19 hp19 hW hS => ?_)
                obtain ⟨hF19, hO, hc19⟩ := hp19
                have hF := dkF_call hF hF19 rfl
                obtain ⟨dv19, -⟩ := hc19
                refine lv_goto (tgt := 46) hx hb dX5_cats_42 (by decide) ?_
                exact W.iret (v := v19) hx hb hr (fun t ht hW9 => ⟨⟨v19, I19, rfl, ⟨hF, hO, Or.inr (Or.inr (⟨dkN_sub dv19 rfl, dkN_sub d3 rfl, dkN_sub d17 rfl, (show dkN [(1, 9)] (I19 25 0) from dkN_sub (by rw [hF19 25 0 rfl]; exact f10_25_0) rfl), trivial⟩))⟩, dkW_eq ht hW⟩, hS.F ht⟩) hS.2.2 dX5_cats_46
        ·
          exact (dkN_nil (show dkN [] v5 from dkN_eq1 dv5 (dkN_lit (x := 0) (0) rfl) (congrArg Int32.toInt c9) rfl)).elim
set_option maxHeartbeats 4000000 in
set_option maxRecDepth 100000 in
theorem c_X6_in_16 (l : Launch) (g : dkG) (z : Nat) (I0 : dkI) (p0 : Int32) (p1 : Int32) (p2 : Int32) (dp1 : dkN [(0, 0)] p1) (dp2 : dkN [(1, 1)] p2)  (hO : dkOk I0) : Met l yX6_in wsX6_in (dkR 0) (dkPc g z [.int p0, .int p1, .int p2] I0) (dkQi g z (fun r I1 => dkF [] I0 I1 ∧ dkOk I1 ∧ ((dkN [(0, 0)] r ∧ dkN [(-2147483648, -1), (2, 2147483647)] p0 ∧ True) ∨ (dkN [(1, 1)] r ∧ dkN [(0, 1)] p0 ∧ True)))) 0 0 (dkA z) := by
  refine Met.ofW (cc := cX6_in) (maxL := 3) (ret := (some .boolean)) (by decide) rfl ?_
  intro p e s m args below meth c s₁ B hml hv
  obtain ⟨ha, hW, hK, hT⟩ := hv
  have hx := B.exec
  have hb := B.bytes
  have hr := B.returns
  have hts := atoms_spec (ws := wsX6_in) B.pre
  have hown : s.vm.findClass RX6 = some m.cls := findClass_of_methodNamed B.named
  have hlocks := B.notSynchronized
  have hS : va_S (dkA z) s.heap s.heap [] := va_S.rf
  have hF : dkF [] I0 I0 := dkF_rf _ _
  have hl := lv_entry ([.int p0, .int p1, .int p2]) (n := 3) (Nat.le_of_ble_eq_true rfl)
  have hgo : entryFrame m args 3 = entryFrame m ([.int p0, .int p1, .int p2] : List Value).toArray 3 := by rw [ha]
  rw [hgo, lg_entry_eq]
  generalize (lg_sl ([.int p0, .int p1, .int p2]) ++ List.replicate (3 - (lg_sl ([.int p0, .int p1, .int p2])).length) Slot.unset).toArray = ls at hl ⊢
  have hl : lv_has ls 3 [(0, .int p0), (1, .int p1), (2, .int p2)] := hl
  refine lv_iload_n hx hb dX6_in_0 rfl (lv_at hl 0 rfl) ?_
  refine lv_iload_n hx hb dX6_in_1 rfl (lv_at hl 1 rfl) ?_
  refine lv_icmp_lt (tgt := 14) hx hb dX6_in_2 (by decide) (fun c1 => ?_) (fun c1 => ?_)
  ·
    have d2 : dkN [(-2147483648, -1)] p0 := dkN_le1 1 (dkN_top p0) dp1 (dkc_lt c1) rfl
    refine lv_iconst (v := 0) hx hb dX6_in_14 (by decide) ?_
    exact W.zret (v := 0) (ty := .boolean) hx hb hr rfl (fun t ht hW9 => ⟨⟨0, I0, rfl, ⟨hF, hO, Or.inl ⟨dkN_sub (dkN_lit (x := 0) (0) rfl) rfl, dkN_sub d2 rfl, trivial⟩⟩, dkW_eq ht hW⟩, hS.F ht⟩) hS.2.2 dX6_in_15
  ·
    have d3 : dkN [(0, 2147483647)] p0 := dkN_le2 0 dp1 (dkN_top p0) (dkc_nlt c1) rfl
    refine lv_iload_n hx hb dX6_in_5 rfl (lv_at hl 0 rfl) ?_
    refine lv_iload_n hx hb dX6_in_6 rfl (lv_at hl 2 rfl) ?_
    refine lv_icmp_gt (tgt := 14) hx hb dX6_in_7 (by decide) (fun c4 => ?_) (fun c4 => ?_)
    ·
      have d5 : dkN [(2, 2147483647)] p0 := dkN_le2 1 dp2 d3 (dkc_lt c4) rfl
      refine lv_iconst (v := 0) hx hb dX6_in_14 (by decide) ?_
      exact W.zret (v := 0) (ty := .boolean) hx hb hr rfl (fun t ht hW9 => ⟨⟨0, I0, rfl, ⟨hF, hO, Or.inl ⟨dkN_sub (dkN_lit (x := 0) (0) rfl) rfl, dkN_sub d5 rfl, trivial⟩⟩, dkW_eq ht hW⟩, hS.F ht⟩) hS.2.2 dX6_in_15
    ·
      have d6 : dkN [(0, 1)] p0 := dkN_le1 0 d3 dp2 (dkc_nlt c4) rfl
      refine lv_iconst (v := 1) hx hb dX6_in_10 (by decide) ?_
      refine lv_goto (tgt := 15) hx hb dX6_in_11 (by decide) ?_
      exact W.zret (v := 1) (ty := .boolean) hx hb hr rfl (fun t ht hW9 => ⟨⟨1, I0, rfl, ⟨hF, hO, Or.inr (⟨dkN_sub (dkN_lit (x := 1) (1) rfl) rfl, dkN_sub d6 rfl, trivial⟩)⟩, dkW_eq ht hW⟩, hS.F ht⟩) hS.2.2 dX6_in_15
set_option maxHeartbeats 4000000 in
set_option maxRecDepth 100000 in
theorem c_X6_ones_19 (l : Launch) (g : dkG) (z : Nat) (I0 : dkI) (p0 : Int32) (dp0 : dkN [(0, 511)] p0)  (hO : dkOk I0) : Met l yX6_ones wsX6_ones (dkR 0) (dkPc g z [.int p0] I0) (dkQi g z (fun r I1 => dkF [] I0 I1 ∧ dkOk I1 ∧ ((True ∧ True)))) 0 0 (dkA z) := by
  refine Met.ofW (cc := cX6_ones) (maxL := 3) (ret := (some .int)) (by decide) rfl ?_
  intro p e s m args below meth c s₁ B hml hv
  obtain ⟨ha, hW, hK, hT⟩ := hv
  have hx := B.exec
  have hb := B.bytes
  have hr := B.returns
  have hts := atoms_spec (ws := wsX6_ones) B.pre
  have hown : s.vm.findClass RX6 = some m.cls := findClass_of_methodNamed B.named
  have hlocks := B.notSynchronized
  have hS : va_S (dkA z) s.heap s.heap [] := va_S.rf
  have hF : dkF [] I0 I0 := dkF_rf _ _
  have hl := lv_entry ([.int p0]) (n := 3) (Nat.le_of_ble_eq_true rfl)
  have hgo : entryFrame m args 3 = entryFrame m ([.int p0] : List Value).toArray 3 := by rw [ha]
  rw [hgo, lg_entry_eq]
  generalize (lg_sl ([.int p0]) ++ List.replicate (3 - (lg_sl ([.int p0])).length) Slot.unset).toArray = ls at hl ⊢
  have hl : lv_has ls 3 [(0, .int p0)] := hl
  have C4 : ∀ (n : Nat), ∀ (I : dkI) (H : Heap) (locs : List Loc) (ls : Array Slot) (x4_1 : Int32) (x4_2 : Int32), (9 - x4_2.toInt).toNat < n → dkW g z I H → va_S (dkA z) s.heap H locs → dkF [] I0 I → dkOk I → dkN [(0, 9)] x4_2 → lv_has ls 3 [(0, .int p0), (1, .int x4_1), (2, .int x4_2)] → W p l e (headSpec wsX6_ones (dkR 0)).room s m args below meth c H locs 0 0 (MQ below (dkQi g z (fun r I1 => dkF [] I0 I1 ∧ dkOk I1 ∧ ((True ∧ True)))) args s 0 0 (dkA z)) (F0 m 4 ls []) := by
    intro n
    induction n with
    | zero => intro I H locs ls x4_1 x4_2 hn; exact absurd hn (Nat.not_lt_zero _)
    | succ n ih4 =>
      intro I4_ H locs ls x4_1 x4_2 hn4 hW hS hF_4 hO k4_1 hl
      have hF := hF_4
      refine lv_iload_n hx hb dX6_ones_4 rfl (lv_at hl 2 rfl) ?_
      refine lv_bipush (v := 9) hx hb dX6_ones_5 (by decide) ?_
      refine lv_icmp_ge (tgt := 24) hx hb dX6_ones_7 (by decide) (fun c1 => ?_) (fun c1 => ?_)
      ·
        have d2 : dkN [(9, 9)] x4_2 := dkN_le2 0 (dkN_lit (x := 9) (9) rfl) k4_1 (dkc_le c1) rfl
        refine lv_iload_n hx hb dX6_ones_24 rfl (lv_at hl 1 rfl) ?_
        exact W.iret (v := x4_1) hx hb hr (fun t ht hW9 => ⟨⟨x4_1, I4_, rfl, ⟨hF, hO, ⟨trivial, trivial⟩⟩, dkW_eq ht hW⟩, hS.F ht⟩) hS.2.2 dX6_ones_25
      ·
        have d3 : dkN [(0, 8)] x4_2 := dkN_le1 1 k4_1 (dkN_lit (x := 9) (9) rfl) (dkc_nle c1) rfl
        refine lv_iload_n hx hb dX6_ones_10 rfl (lv_at hl 1 rfl) ?_
        refine lv_iload_n hx hb dX6_ones_11 rfl (lv_at hl 0 rfl) ?_
        refine lv_iload_n hx hb dX6_ones_12 rfl (lv_at hl 2 rfl) ?_
        refine lv_ishr hx hb dX6_ones_13 ?_
        refine lv_topi (fun v4 ev4 => ?_)
        refine lv_iconst (v := 1) hx hb dX6_ones_14 (by decide) ?_
        refine lv_iand hx hb dX6_ones_15 ?_
        refine lv_topi (fun v5 ev5 => ?_)
        have dv5 : dkN [(0, 1)] v5 := by rw [ev5]; exact dkN_and (dkN_lit (x := 1) (1) rfl) rfl
        refine lv_iadd hx hb dX6_ones_16 ?_
        refine lv_topi (fun v6 ev6 => ?_)
        refine lv_istore_n (lv' := [(1, .int v6), (0, .int p0), (2, .int x4_2)]) hx hb dX6_ones_17 rfl hl (by decide) rfl (fun ls hl => ?_)
        obtain ⟨v7, ev7⟩ : ∃ y : Int32, y = x4_2 + 1 := ⟨_, rfl⟩
        have dv7 : dkN [(1, 9)] v7 := by rw [ev7]; exact dkN_add d3 (dkN_lit (x := 1) (1) rfl) rfl
        refine lv_iinc (v := v7) (lv' := [(2, .int v7), (1, .int v6), (0, .int p0)]) hx hb dX6_ones_18 hl (k := 2) rfl (by rw [ev7]; rfl) (by decide) rfl (fun ls hl => ?_)
        refine lv_goto (tgt := 4) hx hb dX6_ones_21 (by decide) ?_
        exact ih4 I4_ _ _ ls v6 v7 (dk_near hn4 (by rw [ev7]; exact dk_inc d3 rfl) (dkN_lt d3 rfl)) hW hS hF hO (dkN_sub dv7 rfl) (lv_sub hl [2, 1, 0] rfl)
  refine lv_iconst (v := 0) hx hb dX6_ones_0 (by decide) ?_
  refine lv_istore_n (lv' := [(1, .int 0), (0, .int p0)]) hx hb dX6_ones_1 rfl hl (by decide) rfl (fun ls hl => ?_)
  refine lv_iconst (v := 0) hx hb dX6_ones_2 (by decide) ?_
  refine lv_istore_n (lv' := [(2, .int 0), (1, .int 0), (0, .int p0)]) hx hb dX6_ones_3 rfl hl (by decide) rfl (fun ls hl => ?_)
  exact C4 _ I0 _ _ ls 0 0 (Nat.lt_succ_self _) hW hS hF hO (dkN_sub (dkN_lit (x := 0) (0) rfl) rfl) (lv_sub hl [2, 1, 0] rfl)
set_option maxHeartbeats 4000000 in
set_option maxRecDepth 100000 in
theorem c_X6_ones_20 (l : Launch) (g : dkG) (z : Nat) (I0 : dkI) (p0 : Int32) (dp0 : dkN [(0, 2147483647)] p0)  (hO : dkOk I0) : Met l yX6_ones wsX6_ones (dkR 0) (dkPc g z [.int p0] I0) (dkQi g z (fun r I1 => dkF [] I0 I1 ∧ dkOk I1 ∧ ((True ∧ True)))) 0 0 (dkA z) := by
  refine Met.ofW (cc := cX6_ones) (maxL := 3) (ret := (some .int)) (by decide) rfl ?_
  intro p e s m args below meth c s₁ B hml hv
  obtain ⟨ha, hW, hK, hT⟩ := hv
  have hx := B.exec
  have hb := B.bytes
  have hr := B.returns
  have hts := atoms_spec (ws := wsX6_ones) B.pre
  have hown : s.vm.findClass RX6 = some m.cls := findClass_of_methodNamed B.named
  have hlocks := B.notSynchronized
  have hS : va_S (dkA z) s.heap s.heap [] := va_S.rf
  have hF : dkF [] I0 I0 := dkF_rf _ _
  have hl := lv_entry ([.int p0]) (n := 3) (Nat.le_of_ble_eq_true rfl)
  have hgo : entryFrame m args 3 = entryFrame m ([.int p0] : List Value).toArray 3 := by rw [ha]
  rw [hgo, lg_entry_eq]
  generalize (lg_sl ([.int p0]) ++ List.replicate (3 - (lg_sl ([.int p0])).length) Slot.unset).toArray = ls at hl ⊢
  have hl : lv_has ls 3 [(0, .int p0)] := hl
  have C4 : ∀ (n : Nat), ∀ (I : dkI) (H : Heap) (locs : List Loc) (ls : Array Slot) (x4_1 : Int32) (x4_2 : Int32), (9 - x4_2.toInt).toNat < n → dkW g z I H → va_S (dkA z) s.heap H locs → dkF [] I0 I → dkOk I → dkN [(0, 9)] x4_2 → lv_has ls 3 [(0, .int p0), (1, .int x4_1), (2, .int x4_2)] → W p l e (headSpec wsX6_ones (dkR 0)).room s m args below meth c H locs 0 0 (MQ below (dkQi g z (fun r I1 => dkF [] I0 I1 ∧ dkOk I1 ∧ ((True ∧ True)))) args s 0 0 (dkA z)) (F0 m 4 ls []) := by
    intro n
    induction n with
    | zero => intro I H locs ls x4_1 x4_2 hn; exact absurd hn (Nat.not_lt_zero _)
    | succ n ih4 =>
      intro I4_ H locs ls x4_1 x4_2 hn4 hW hS hF_4 hO k4_1 hl
      have hF := hF_4
      refine lv_iload_n hx hb dX6_ones_4 rfl (lv_at hl 2 rfl) ?_
      refine lv_bipush (v := 9) hx hb dX6_ones_5 (by decide) ?_
      refine lv_icmp_ge (tgt := 24) hx hb dX6_ones_7 (by decide) (fun c1 => ?_) (fun c1 => ?_)
      ·
        have d2 : dkN [(9, 9)] x4_2 := dkN_le2 0 (dkN_lit (x := 9) (9) rfl) k4_1 (dkc_le c1) rfl
        refine lv_iload_n hx hb dX6_ones_24 rfl (lv_at hl 1 rfl) ?_
        exact W.iret (v := x4_1) hx hb hr (fun t ht hW9 => ⟨⟨x4_1, I4_, rfl, ⟨hF, hO, ⟨trivial, trivial⟩⟩, dkW_eq ht hW⟩, hS.F ht⟩) hS.2.2 dX6_ones_25
      ·
        have d3 : dkN [(0, 8)] x4_2 := dkN_le1 1 k4_1 (dkN_lit (x := 9) (9) rfl) (dkc_nle c1) rfl
        refine lv_iload_n hx hb dX6_ones_10 rfl (lv_at hl 1 rfl) ?_
        refine lv_iload_n hx hb dX6_ones_11 rfl (lv_at hl 0 rfl) ?_
        refine lv_iload_n hx hb dX6_ones_12 rfl (lv_at hl 2 rfl) ?_
        refine lv_ishr hx hb dX6_ones_13 ?_
        refine lv_topi (fun v4 ev4 => ?_)
        refine lv_iconst (v := 1) hx hb dX6_ones_14 (by decide) ?_
        refine lv_iand hx hb dX6_ones_15 ?_
        refine lv_topi (fun v5 ev5 => ?_)
        have dv5 : dkN [(0, 1)] v5 := by rw [ev5]; exact dkN_and (dkN_lit (x := 1) (1) rfl) rfl
        refine lv_iadd hx hb dX6_ones_16 ?_
        refine lv_topi (fun v6 ev6 => ?_)
        refine lv_istore_n (lv' := [(1, .int v6), (0, .int p0), (2, .int x4_2)]) hx hb dX6_ones_17 rfl hl (by decide) rfl (fun ls hl => ?_)
        obtain ⟨v7, ev7⟩ : ∃ y : Int32, y = x4_2 + 1 := ⟨_, rfl⟩
        have dv7 : dkN [(1, 9)] v7 := by rw [ev7]; exact dkN_add d3 (dkN_lit (x := 1) (1) rfl) rfl
        refine lv_iinc (v := v7) (lv' := [(2, .int v7), (1, .int v6), (0, .int p0)]) hx hb dX6_ones_18 hl (k := 2) rfl (by rw [ev7]; rfl) (by decide) rfl (fun ls hl => ?_)
        refine lv_goto (tgt := 4) hx hb dX6_ones_21 (by decide) ?_
        exact ih4 I4_ _ _ ls v6 v7 (dk_near hn4 (by rw [ev7]; exact dk_inc d3 rfl) (dkN_lt d3 rfl)) hW hS hF hO (dkN_sub dv7 rfl) (lv_sub hl [2, 1, 0] rfl)
  refine lv_iconst (v := 0) hx hb dX6_ones_0 (by decide) ?_
  refine lv_istore_n (lv' := [(1, .int 0), (0, .int p0)]) hx hb dX6_ones_1 rfl hl (by decide) rfl (fun ls hl => ?_)
  refine lv_iconst (v := 0) hx hb dX6_ones_2 (by decide) ?_
  refine lv_istore_n (lv' := [(2, .int 0), (1, .int 0), (0, .int p0)]) hx hb dX6_ones_3 rfl hl (by decide) rfl (fun ls hl => ?_)
  exact C4 _ I0 _ _ ls 0 0 (Nat.lt_succ_self _) hW hS hF hO (dkN_sub (dkN_lit (x := 0) (0) rfl) rfl) (lv_sub hl [2, 1, 0] rfl)
set_option maxHeartbeats 4000000 in
set_option maxRecDepth 100000 in
theorem c_X6_cats_0 (l : Launch) (g : dkG) (z : Nat) (I0 : dkI) (p0 : Int32) (p1 : Int32)  (hO : dkOk I0) : Met l yX6_cats wsX6_cats (dkR 6) (dkPc g z [.ref (z + 340), .int p0, .int p1] I0) (dkQi g z (fun r I1 => dkF [(340, 340, 20, 22), (348, 348, 0, 53)] I0 I1 ∧ dkOk I1 ∧ ((True ∧ True)))) 0 0 (dkA z) := by
  refine Met.ofW (cc := cX6_cats) (maxL := 6) (ret := (some .int)) (by decide) rfl ?_
  intro p e s m args below meth c s₁ B hml hv
  obtain ⟨ha, hW, hK, hT⟩ := hv
  have hx := B.exec
  have hb := B.bytes
  have hr := B.returns
  have hts := atoms_spec (ws := wsX6_cats) B.pre
  have hown : s.vm.findClass RX6 = some m.cls := findClass_of_methodNamed B.named
  have hlocks := B.notSynchronized
  have hS : va_S (dkA z) s.heap s.heap [] := va_S.rf
  have hF : dkF [(340, 340, 20, 22), (348, 348, 0, 53)] I0 I0 := dkF_rf _ _
  have hl := lv_entry ([.ref (z + 340), .int p0, .int p1]) (n := 6) (Nat.le_of_ble_eq_true rfl)
  have hgo : entryFrame m args 6 = entryFrame m ([.ref (z + 340), .int p0, .int p1] : List Value).toArray 6 := by rw [ha]
  rw [hgo, lg_entry_eq]
  generalize (lg_sl ([.ref (z + 340), .int p0, .int p1]) ++ List.replicate (6 - (lg_sl ([.ref (z + 340), .int p0, .int p1])).length) Slot.unset).toArray = ls at hl ⊢
  have hl : lv_has ls 6 [(0, .ref (z + 340)), (1, .int p0), (2, .int p1)] := hl
  have C26 : ∀ (n : Nat), ∀ (I : dkI) (H : Heap) (locs : List Loc) (ls : Array Slot) (x26_3 : Int32) (x26_4 : Int32), (2147483647 - x26_4.toInt).toNat < n → dkW g z I H → va_S (dkA z) s.heap H locs → dkF [(340, 340, 20, 22), (348, 348, 0, 53)] I0 I → dkOk I → dkN [(-1000000, -1000000), (0, 2147483647)] x26_3 → dkN [(0, 2147483647)] x26_4 → dkN [(0, 8)] p0 → dkN [(0, 1)] p1 → lv_has ls 6 [(0, .ref (z + 340)), (1, .int p0), (2, .int p1), (3, .int x26_3), (4, .int x26_4)] → W p l e (headSpec wsX6_cats (dkR 6)).room s m args below meth c H locs 0 0 (MQ below (dkQi g z (fun r I1 => dkF [(340, 340, 20, 22), (348, 348, 0, 53)] I0 I1 ∧ dkOk I1 ∧ ((True ∧ True)))) args s 0 0 (dkA z)) (F0 m 26 ls []) := by
    intro n
    induction n with
    | zero => intro I H locs ls x26_3 x26_4 hn; exact absurd hn (Nat.not_lt_zero _)
    | succ n ih26 =>
      intro I26_ H locs ls x26_3 x26_4 hn26 hW hS hF_26 hO k26_0 k26_1 r26_0 r26_1 hl
      have hF := hF_26
      have C113 : ∀ (I : dkI) (H : Heap) (locs : List Loc) (ls : Array Slot) (x113_3 : Int32) (x113_5 : Int32), dkW g z I H → va_S (dkA z) s.heap H locs → dkF [(340, 340, 20, 22), (348, 348, 0, 53)] I0 I → dkOk I → dkN [(-1000000, -1000000), (0, 2147483647)] x113_3 → dkN [(0, 1)] x113_5 → dkN [(0, 8)] p0 → dkN [(0, 1)] p1 → dkN [(0, 511)] x26_4 → lv_has ls 6 [(0, .ref (z + 340)), (1, .int p0), (2, .int p1), (3, .int x113_3), (4, .int x26_4), (5, .int x113_5)] → W p l e (headSpec wsX6_cats (dkR 6)).room s m args below meth c H locs 0 0 (MQ below (dkQi g z (fun r I1 => dkF [(340, 340, 20, 22), (348, 348, 0, 53)] I0 I1 ∧ dkOk I1 ∧ ((True ∧ True)))) args s 0 0 (dkA z)) (F0 m 113 ls []) := by
        intro I113_ H locs ls x113_3 x113_5 hW hS hF_113 hO k113_0 k113_1 r113_0 r113_1 r113_2 hl
        have hF := hF_113
        obtain ⟨v1, ev1⟩ : ∃ y : Int32, y = x26_4 + 1 := ⟨_, rfl⟩
        have dv1 : dkN [(1, 512)] v1 := by rw [ev1]; exact dkN_add r113_2 (dkN_lit (x := 1) (1) rfl) rfl
        refine lv_iinc (v := v1) (lv' := [(4, .int v1), (0, .ref (z + 340)), (1, .int p0), (2, .int p1), (3, .int x113_3), (5, .int x113_5)]) hx hb dX6_cats_113 hl (k := 4) rfl (by rw [ev1]; rfl) (by decide) rfl (fun ls hl => ?_)
        refine lv_goto (tgt := 26) hx hb dX6_cats_116 (by decide) ?_
        exact ih26 I113_ _ _ ls x113_3 v1 (dk_near hn26 (by rw [ev1]; exact dk_inc r113_2 rfl) (dkN_lt r113_2 rfl)) hW hS hF hO (dkN_sub k113_0 rfl) (dkN_sub dv1 rfl) (dkN_sub r113_0 rfl) (dkN_sub r113_1 rfl) (lv_sub hl [1, 2, 3, 4, 0] rfl)
      have C112 : ∀ (I : dkI) (H : Heap) (locs : List Loc) (ls : Array Slot) (x112_5 : Int32) (x112_s0 : Int32), dkW g z I H → va_S (dkA z) s.heap H locs → dkF [(340, 340, 20, 22), (348, 348, 0, 53)] I0 I → dkOk I → dkN [(1, 1)] x112_5 → dkN [(-1000000, -1000000), (0, 2147483647)] x112_s0 → dkN [(0, 8)] p0 → dkN [(0, 1)] p1 → dkN [(-1000000, -1000000), (0, 2147483647)] x26_3 → dkN [(0, 511)] x26_4 → dkN [(0, 0)] (I 340 20) → dkN [(0, 0)] (I 340 21) → dkN [(0, 2147483647)] (I 348 3) → lv_has ls 6 [(0, .ref (z + 340)), (1, .int p0), (2, .int p1), (3, .int x26_3), (4, .int x26_4), (5, .int x112_5)] → W p l e (headSpec wsX6_cats (dkR 6)).room s m args below meth c H locs 0 0 (MQ below (dkQi g z (fun r I1 => dkF [(340, 340, 20, 22), (348, 348, 0, 53)] I0 I1 ∧ dkOk I1 ∧ ((True ∧ True)))) args s 0 0 (dkA z)) (F0 m 112 ls [.int x112_s0]) := by
        intro I112_ H locs ls x112_5 x112_s0 hW hS hF_112 hO k112_0 k112_1 r112_0 r112_1 r112_2 r112_3 f112_0 f112_1 f112_2 hl
        have hF := hF_112
        refine lv_istore_n (lv' := [(3, .int x112_s0), (0, .ref (z + 340)), (1, .int p0), (2, .int p1), (4, .int x26_4), (5, .int x112_5)]) hx hb dX6_cats_112 rfl hl (by decide) rfl (fun ls hl => ?_)
        exact C113 I112_ _ _ ls x112_s0 x112_5 hW hS hF hO (dkN_sub k112_1 rfl) (dkN_sub k112_0 rfl) (dkN_sub r112_0 rfl) (dkN_sub r112_1 rfl) (dkN_sub r112_3 rfl) (lv_sub hl [1, 2, 3, 0, 4, 5] rfl)
      have C71 : ∀ (I : dkI) (H : Heap) (locs : List Loc) (ls : Array Slot) (x71_s0 : Int32), dkW g z I H → va_S (dkA z) s.heap H locs → dkF [(340, 340, 20, 22), (348, 348, 0, 53)] I0 I → dkOk I → dkN [(0, 1)] x71_s0 → dkN [(0, 8)] p0 → dkN [(0, 1)] p1 → dkN [(-1000000, -1000000), (0, 2147483647)] x26_3 → dkN [(0, 511)] x26_4 → lv_has ls 6 [(0, .ref (z + 340)), (1, .int p0), (2, .int p1), (3, .int x26_3), (4, .int x26_4)] → W p l e (headSpec wsX6_cats (dkR 6)).room s m args below meth c H locs 0 0 (MQ below (dkQi g z (fun r I1 => dkF [(340, 340, 20, 22), (348, 348, 0, 53)] I0 I1 ∧ dkOk I1 ∧ ((True ∧ True)))) args s 0 0 (dkA z)) (F0 m 71 ls [.int x71_s0]) := by
        intro I71_ H locs ls x71_s0 hW hS hF_71 hO k71_0 r71_0 r71_1 r71_2 r71_3 hl
        have hF := hF_71
        refine lv_istore (lv' := [(5, .int x71_s0), (0, .ref (z + 340)), (1, .int p0), (2, .int p1), (3, .int x26_3), (4, .int x26_4)]) hx hb dX6_cats_71 hl (by decide) rfl (fun ls hl => ?_)
        refine lv_iload hx hb dX6_cats_73 (lv_at hl 0 rfl) ?_
        refine lv_if_eq (tgt := 113) hx hb dX6_cats_75 (by decide) (fun c2 => ?_) (fun c2 => ?_)
        ·
          have d3 : dkN [(0, 0)] x71_s0 := dkN_eq1 k71_0 (dkN_lit (x := 0) (0) rfl) (congrArg Int32.toInt c2) rfl
          exact C113 I71_ _ _ ls x26_3 x71_s0 hW hS hF hO (dkN_sub r71_2 rfl) (dkN_sub d3 rfl) (dkN_sub r71_0 rfl) (dkN_sub r71_1 rfl) (dkN_sub r71_3 rfl) (lv_sub hl [1, 2, 3, 4, 5, 0] rfl)
        ·
          have d4 : dkN [(1, 1)] x71_s0 := dkN_ne1 (0) k71_0 (dkN_lit (x := 0) (0) rfl) (dk_ne c2) rfl
          refine lv_aload_n hx hb dX6_cats_78 rfl (lv_at hl 1 rfl) ?_
          refine dk_Vv (As := []) (rest := []) ⟨hx, hb, hml, hown, hts⟩ (c_X6_tries_0 l g z I71_ hO) (cwV 0 hts gX6_cats_X6_tries rfl rfl rfl (by decide +kernel) ⟨Nat.le_of_ble_eq_true rfl, Nat.le_of_ble_eq_true rfl⟩) (dk_at340 hW) rfl hK hT hW hS rfl hl.1 rfl (Nat.le_of_ble_eq_true rfl) dX6_cats_79 ⟨Nat.zero_le _, Nat.zero_le _⟩ (fun I5 H5 L5 hp5 hW hS => ?_)
          obtain ⟨hF5, hO, hc5⟩ := hp5
          have hF := dkF_call hF hF5 rfl
          obtain ⟨f5_340_20, f5_340_21, f5_340_22, -⟩ := hc5
          refine lv_aload_n hx hb dX6_cats_82 rfl (lv_at hl 1 rfl) ?_
          refine lv_iload hx hb dX6_cats_83 (lv_at hl 5 rfl) ?_
          refine dk_put (k := 340) hx hb hts iX6_cats_6 tyX6 tyX6_ok nmX6 hown hK hW (dk_at340 hW) hS rfl 22 (by decide) (hts (.fieldLink RX6 215 "DogKingsModel" "cats" "I") (List.mem_of_getElem? (i := 4) rfl)) rfl rfl (Nat.le_of_ble_eq_true rfl) rfl dX6_cats_85 (fun I6 H6 L6 eI6 hW hS => ?_)
          have eI6 : I6 = dkU I5 340 22 x26_4 := eI6
          have hO := dkO_set hO eI6 (dkN_sub r71_3 rfl)
          have hF := dkF_set hF eI6 rfl
          refine lv_aload_n hx hb dX6_cats_88 rfl (lv_at hl 1 rfl) ?_
          refine dk_Vv (As := []) (rest := []) ⟨hx, hb, hml, hown, hts⟩ (c_X6_toBell_0 l g z I6 hO) (cwV 0 hts gX6_cats_X6_toBell rfl rfl rfl (by decide +kernel) ⟨Nat.le_of_ble_eq_true rfl, Nat.le_of_ble_eq_true rfl⟩) (dk_at340 hW) rfl hK hT hW hS rfl hl.1 rfl (Nat.le_of_ble_eq_true rfl) dX6_cats_89 ⟨Nat.zero_le _, Nat.zero_le _⟩ (fun I7 H7 L7 hp7 hW hS => ?_)
          obtain ⟨hF7, hO, hc7⟩ := hp7
          have hF := dkF_call hF hF7 rfl
          obtain ⟨f7_348_3, -⟩ := hc7
          refine lv_aload_n hx hb dX6_cats_92 rfl (lv_at hl 1 rfl) ?_
          refine dk_get (k := 340) hx hb hts iX6_cats_6 hown hK (dk_at340 hW) rfl 15 (by decide) (hts (.fieldLink RX6 31 "DogKingsModel" "tried" "[I") (List.mem_of_getElem? (i := 5) rfl)) rfl dX6_cats_93 ?_
          refine lv_iload_n hx hb dX6_cats_96 rfl (lv_at hl 2 rfl) ?_
          refine lv_ldc (v := (-1000000)) hx hb hown (hts (.constant RX6 50 (-1000000)) (List.mem_of_getElem? (i := 2) rfl)) dX6_cats_97 ?_
          refine lv_iconst (v := 0) hx hb dX6_cats_99 (by decide) ?_
          refine dk_Si (As := [.ref (z + 348), .int p0, .int ((-1000000)), .int 0]) (rest := []) ⟨hx, hb, hml, hown, hts⟩ (c_X6_othersIn_1 l g z I7 p0 ((-1000000)) 0 (dkN_sub (dkN_lit (x := (-1000000)) (-1000000) rfl) rfl) hO) (va_cwS 4 hts gX6_cats_X6_othersIn rfl rfl rfl (by decide +kernel) ⟨Nat.le_of_ble_eq_true rfl, Nat.le_of_ble_eq_true rfl⟩) hK hT hW hS rfl hl.1 rfl (Nat.le_of_ble_eq_true rfl) dX6_cats_100 ⟨Nat.zero_le _, Nat.zero_le _⟩ (fun v8 I8 H8 L8 hp8 hW hS => ?_)
          obtain ⟨hF8, hO, hc8⟩ := hp8
          have hF := dkF_call hF hF8 rfl
          obtain ⟨_, -⟩ := hc8
          refine lv_if_ne (tgt := 111) hx hb dX6_cats_103 (by decide) (fun c9 => ?_) (fun c9 => ?_)
          ·
            have d10 : dkN [(-2147483648, -1), (1, 2147483647)] v8 := dkN_ne1 (0) (dkN_top v8) (dkN_lit (x := 0) (0) rfl) (dk_ne c9) rfl
            refine lv_iload_n hx hb dX6_cats_111 rfl (lv_at hl 4 rfl) ?_
            exact C112 I8 _ _ ls x71_s0 x26_3 hW hS hF hO (dkN_sub d4 rfl) (dkN_sub r71_2 rfl) (dkN_sub r71_0 rfl) (dkN_sub r71_1 rfl) (dkN_sub r71_2 rfl) (dkN_sub r71_3 rfl) (show dkN [(0, 0)] (I8 340 20) from dkN_sub (by rw [hF8 340 20 rfl]; exact (by rw [hF7 340 20 rfl]; exact (by rw [eI6, dkU_sn (by decide)]; exact f5_340_20))) rfl) (show dkN [(0, 0)] (I8 340 21) from dkN_sub (by rw [hF8 340 21 rfl]; exact (by rw [hF7 340 21 rfl]; exact (by rw [eI6, dkU_sn (by decide)]; exact f5_340_21))) rfl) (show dkN [(0, 2147483647)] (I8 348 3) from dkN_sub (by rw [hF8 348 3 rfl]; exact f7_348_3) rfl) (lv_sub hl [1, 2, 3, 4, 5, 0] rfl)
          ·
            have d11 : dkN [(0, 0)] v8 := dkN_eq1 (dkN_top v8) (dkN_lit (x := 0) (0) rfl) (congrArg Int32.toInt c9) rfl
            refine lv_iload hx hb dX6_cats_106 (lv_at hl 5 rfl) ?_
            refine lv_goto (tgt := 112) hx hb dX6_cats_108 (by decide) ?_
            exact C112 I8 _ _ ls x71_s0 x26_4 hW hS hF hO (dkN_sub d4 rfl) (dkN_sub r71_3 rfl) (dkN_sub r71_0 rfl) (dkN_sub r71_1 rfl) (dkN_sub r71_2 rfl) (dkN_sub r71_3 rfl) (show dkN [(0, 0)] (I8 340 20) from dkN_sub (by rw [hF8 340 20 rfl]; exact (by rw [hF7 340 20 rfl]; exact (by rw [eI6, dkU_sn (by decide)]; exact f5_340_20))) rfl) (show dkN [(0, 0)] (I8 340 21) from dkN_sub (by rw [hF8 340 21 rfl]; exact (by rw [hF7 340 21 rfl]; exact (by rw [eI6, dkU_sn (by decide)]; exact f5_340_21))) rfl) (show dkN [(0, 2147483647)] (I8 348 3) from dkN_sub (by rw [hF8 348 3 rfl]; exact f7_348_3) rfl) (lv_sub hl [1, 2, 3, 4, 5, 0] rfl)
      have C70 : ∀ (I : dkI) (H : Heap) (locs : List Loc) (ls : Array Slot), dkW g z I H → va_S (dkA z) s.heap H locs → dkF [(340, 340, 20, 22), (348, 348, 0, 53)] I0 I → dkOk I → dkN [(0, 8)] p0 → dkN [(0, 1)] p1 → dkN [(-1000000, -1000000), (0, 2147483647)] x26_3 → dkN [(0, 511)] x26_4 → lv_has ls 6 [(0, .ref (z + 340)), (1, .int p0), (2, .int p1), (3, .int x26_3), (4, .int x26_4)] → W p l e (headSpec wsX6_cats (dkR 6)).room s m args below meth c H locs 0 0 (MQ below (dkQi g z (fun r I1 => dkF [(340, 340, 20, 22), (348, 348, 0, 53)] I0 I1 ∧ dkOk I1 ∧ ((True ∧ True)))) args s 0 0 (dkA z)) (F0 m 70 ls []) := by
        intro I70_ H locs ls hW hS hF_70 hO r70_0 r70_1 r70_2 r70_3 hl
        have hF := hF_70
        refine lv_iconst (v := 0) hx hb dX6_cats_70 (by decide) ?_
        exact C71 I70_ _ _ ls 0 hW hS hF hO (dkN_sub (dkN_lit (x := 0) (0) rfl) rfl) (dkN_sub r70_0 rfl) (dkN_sub r70_1 rfl) (dkN_sub r70_2 rfl) (dkN_sub r70_3 rfl) (lv_sub hl [0, 1, 2, 3, 4] rfl)
      have C66 : ∀ (I : dkI) (H : Heap) (locs : List Loc) (ls : Array Slot), dkW g z I H → va_S (dkA z) s.heap H locs → dkF [(340, 340, 20, 22), (348, 348, 0, 53)] I0 I → dkOk I → dkN [(0, 8)] p0 → dkN [(0, 1)] p1 → dkN [(-1000000, -1000000), (0, 2147483647)] x26_3 → dkN [(0, 511)] x26_4 → lv_has ls 6 [(0, .ref (z + 340)), (1, .int p0), (2, .int p1), (3, .int x26_3), (4, .int x26_4)] → W p l e (headSpec wsX6_cats (dkR 6)).room s m args below meth c H locs 0 0 (MQ below (dkQi g z (fun r I1 => dkF [(340, 340, 20, 22), (348, 348, 0, 53)] I0 I1 ∧ dkOk I1 ∧ ((True ∧ True)))) args s 0 0 (dkA z)) (F0 m 66 ls []) := by
        intro I66_ H locs ls hW hS hF_66 hO r66_0 r66_1 r66_2 r66_3 hl
        have hF := hF_66
        refine lv_iconst (v := 1) hx hb dX6_cats_66 (by decide) ?_
        refine lv_goto (tgt := 71) hx hb dX6_cats_67 (by decide) ?_
        exact C71 I66_ _ _ ls 1 hW hS hF hO (dkN_sub (dkN_lit (x := 1) (1) rfl) rfl) (dkN_sub r66_0 rfl) (dkN_sub r66_1 rfl) (dkN_sub r66_2 rfl) (dkN_sub r66_3 rfl) (lv_sub hl [0, 1, 2, 3, 4] rfl)
      refine lv_iload hx hb dX6_cats_26 (lv_at hl 4 rfl) ?_
      refine lv_iconst (v := 1) hx hb dX6_cats_28 (by decide) ?_
      refine lv_aload_n hx hb dX6_cats_29 rfl (lv_at hl 0 rfl) ?_
      refine dk_get (k := 340) hx hb hts iX6_cats_6 hown hK (dk_at340 hW) rfl 13 (by decide) (hts (.fieldLink RX6 25 "DogKingsModel" "now" "[I") (List.mem_of_getElem? (i := 3) rfl)) rfl dX6_cats_30 ?_
      refine lv_iconst (v := 0) hx hb dX6_cats_33 (by decide) ?_
      refine dk_ild (k := 346) hx hb hK (dk_at346 hW) (dkN_in (n := 54) (dkN_lit (x := 0) (0) rfl) rfl) dX6_cats_34 ?_
      refine lv_topi (fun v12 ev12 => ?_)
      have ev12 : v12 = I26_ 346 0 := ev12
      have dv12 : dkN [(0, 9)] v12 := by rw [ev12]; exact (show dkN [(0, 9)] (I26_ 346 0) from (hO 346 0))
      refine lv_ishl hx hb dX6_cats_35 ?_
      refine lv_topi (fun v13 ev13 => ?_)
      have dv13 : dkN [(1, 512)] v13 := by rw [ev13]; exact dkN_shl1 0 9 (by decide) dv12 rfl
      refine lv_icmp_ge (tgt := 119) hx hb dX6_cats_36 (by decide) (fun c14 => ?_) (fun c14 => ?_)
      ·
        have d15 : dkN [(1, 2147483647)] x26_4 := dkN_le2 0 dv13 k26_1 (dkc_le c14) rfl
        refine lv_iload_n hx hb dX6_cats_119 rfl (lv_at hl 3 rfl) ?_
        refine lv_ldc (v := (-1000000)) hx hb hown (hts (.constant RX6 50 (-1000000)) (List.mem_of_getElem? (i := 2) rfl)) dX6_cats_120 ?_
        refine lv_icmp_eq (tgt := 130) hx hb dX6_cats_122 (by decide) (fun c16 => ?_) (fun c16 => ?_)
        ·
          have d17 : dkN [(-1000000, -1000000)] x26_3 := dkN_eq1 k26_0 (dkN_lit (x := (-1000000)) (-1000000) rfl) (congrArg Int32.toInt c16) rfl
          refine lv_iload_n hx hb dX6_cats_130 rfl (lv_at hl 3 rfl) ?_
          refine lv_goto (tgt := 138) hx hb dX6_cats_131 (by decide) ?_
          exact W.iret (v := x26_3) hx hb hr (fun t ht hW9 => ⟨⟨x26_3, I26_, rfl, ⟨hF, hO, ⟨trivial, trivial⟩⟩, dkW_eq ht hW⟩, hS.F ht⟩) hS.2.2 dX6_cats_138
        ·
          have d18 : dkN [(0, 2147483647)] x26_3 := dkN_ne1 (-1000000) k26_0 (dkN_lit (x := (-1000000)) (-1000000) rfl) (dk_ne c16) rfl
          refine lv_iload_n hx hb dX6_cats_125 rfl (lv_at hl 2 rfl) ?_
          refine lv_iconst (v := 1) hx hb dX6_cats_126 (by decide) ?_
          refine lv_icmp_ne (tgt := 134) hx hb dX6_cats_127 (by decide) (fun c19 => ?_) (fun c19 => ?_)
          ·
            have d20 : dkN [(0, 0)] p1 := dkN_ne1 (1) r26_1 (dkN_lit (x := 1) (1) rfl) (dk_ne c19) rfl
            refine lv_iload_n hx hb dX6_cats_134 rfl (lv_at hl 3 rfl) ?_
            refine dk_Si (As := [.int x26_3]) (rest := []) ⟨hx, hb, hml, hown, hts⟩ (c_X6_ones_20 l g z I26_ x26_3 d18 hO) (va_cwS 1 hts gX6_cats_X6_ones rfl rfl rfl (by decide +kernel) ⟨Nat.le_of_ble_eq_true rfl, Nat.le_of_ble_eq_true rfl⟩) hK hT hW hS rfl hl.1 rfl (Nat.le_of_ble_eq_true rfl) dX6_cats_135 ⟨Nat.zero_le _, Nat.zero_le _⟩ (fun v21 I21 H21 L21 hp21 hW hS => ?_)
            obtain ⟨hF21, hO, hc21⟩ := hp21
            have hF := dkF_call hF hF21 rfl
            obtain ⟨_, -⟩ := hc21
            exact W.iret (v := v21) hx hb hr (fun t ht hW9 => ⟨⟨v21, I21, rfl, ⟨hF, hO, ⟨trivial, trivial⟩⟩, dkW_eq ht hW⟩, hS.F ht⟩) hS.2.2 dX6_cats_138
          ·
            have d22 : dkN [(1, 1)] p1 := dkN_eq1 r26_1 (dkN_lit (x := 1) (1) rfl) (congrArg Int32.toInt c19) rfl
            refine lv_iload_n hx hb dX6_cats_130 rfl (lv_at hl 3 rfl) ?_
            refine lv_goto (tgt := 138) hx hb dX6_cats_131 (by decide) ?_
            exact W.iret (v := x26_3) hx hb hr (fun t ht hW9 => ⟨⟨x26_3, I26_, rfl, ⟨hF, hO, ⟨trivial, trivial⟩⟩, dkW_eq ht hW⟩, hS.F ht⟩) hS.2.2 dX6_cats_138
      ·
        have d23 : dkN [(0, 511)] x26_4 := dkN_le1 1 k26_1 dv13 (dkc_nle c14) rfl
        refine lv_iload hx hb dX6_cats_39 (lv_at hl 4 rfl) ?_
        refine lv_iload_n hx hb dX6_cats_41 rfl (lv_at hl 1 rfl) ?_
        refine dk_Si (As := [.int x26_4, .int p0]) (rest := []) ⟨hx, hb, hml, hown, hts⟩ (c_X6_has_0 l g z I26_ x26_4 p0 hO) (va_cwS 2 hts gX6_cats_X6_has rfl rfl rfl (by decide +kernel) ⟨Nat.le_of_ble_eq_true rfl, Nat.le_of_ble_eq_true rfl⟩) hK hT hW hS rfl hl.1 rfl (Nat.le_of_ble_eq_true rfl) dX6_cats_42 ⟨Nat.zero_le _, Nat.zero_le _⟩ (fun v24 I24 H24 L24 hp24 hW hS => ?_)
        obtain ⟨hF24, hO, hc24⟩ := hp24
        have hF := dkF_call hF hF24 rfl
        obtain ⟨dv24, -⟩ := hc24
        refine lv_if_ne (tgt := 70) hx hb dX6_cats_45 (by decide) (fun c25 => ?_) (fun c25 => ?_)
        ·
          have d26 : dkN [(1, 1)] v24 := dkN_ne1 (0) dv24 (dkN_lit (x := 0) (0) rfl) (dk_ne c25) rfl
          exact C70 I24 _ _ ls  hW hS hF hO (dkN_sub r26_0 rfl) (dkN_sub r26_1 rfl) (dkN_sub k26_0 rfl) (dkN_sub d23 rfl) (lv_sub hl [0, 1, 2, 3, 4] rfl)
        ·
          have d27 : dkN [(0, 0)] v24 := dkN_eq1 dv24 (dkN_lit (x := 0) (0) rfl) (congrArg Int32.toInt c25) rfl
          refine lv_iload_n hx hb dX6_cats_48 rfl (lv_at hl 3 rfl) ?_
          refine lv_ldc (v := (-1000000)) hx hb hown (hts (.constant RX6 50 (-1000000)) (List.mem_of_getElem? (i := 2) rfl)) dX6_cats_49 ?_
          refine lv_icmp_eq (tgt := 66) hx hb dX6_cats_51 (by decide) (fun c28 => ?_) (fun c28 => ?_)
          ·
            have d29 : dkN [(-1000000, -1000000)] x26_3 := dkN_eq1 k26_0 (dkN_lit (x := (-1000000)) (-1000000) rfl) (congrArg Int32.toInt c28) rfl
            exact C66 I24 _ _ ls  hW hS hF hO (dkN_sub r26_0 rfl) (dkN_sub r26_1 rfl) (dkN_sub d29 rfl) (dkN_sub d23 rfl) (lv_sub hl [0, 1, 2, 3, 4] rfl)
          ·
            have d30 : dkN [(0, 2147483647)] x26_3 := dkN_ne1 (-1000000) k26_0 (dkN_lit (x := (-1000000)) (-1000000) rfl) (dk_ne c28) rfl
            refine lv_iload hx hb dX6_cats_54 (lv_at hl 4 rfl) ?_
            refine dk_Si (As := [.int x26_4]) (rest := []) ⟨hx, hb, hml, hown, hts⟩ (c_X6_ones_19 l g z I24 x26_4 d23 hO) (va_cwS 1 hts gX6_cats_X6_ones rfl rfl rfl (by decide +kernel) ⟨Nat.le_of_ble_eq_true rfl, Nat.le_of_ble_eq_true rfl⟩) hK hT hW hS rfl hl.1 rfl (Nat.le_of_ble_eq_true rfl) dX6_cats_56 ⟨Nat.zero_le _, Nat.zero_le _⟩ (fun v31 I31 H31 L31 hp31 hW hS => ?_)
            obtain ⟨hF31, hO, hc31⟩ := hp31
            have hF := dkF_call hF hF31 rfl
            obtain ⟨_, -⟩ := hc31
            refine lv_iload_n hx hb dX6_cats_59 rfl (lv_at hl 3 rfl) ?_
            refine dk_Si (As := [.int x26_3]) (rest := [.int v31]) ⟨hx, hb, hml, hown, hts⟩ (c_X6_ones_20 l g z I31 x26_3 d30 hO) (va_cwS 1 hts gX6_cats_X6_ones rfl rfl rfl (by decide +kernel) ⟨Nat.le_of_ble_eq_true rfl, Nat.le_of_ble_eq_true rfl⟩) hK hT hW hS rfl hl.1 rfl (Nat.le_of_ble_eq_true rfl) dX6_cats_60 ⟨Nat.zero_le _, Nat.zero_le _⟩ (fun v32 I32 H32 L32 hp32 hW hS => ?_)
            obtain ⟨hF32, hO, hc32⟩ := hp32
            have hF := dkF_call hF hF32 rfl
            obtain ⟨_, -⟩ := hc32
            refine lv_icmp_ge (tgt := 70) hx hb dX6_cats_63 (by decide) (fun c33 => ?_) (fun c33 => ?_)
            ·
              exact C70 I32 _ _ ls  hW hS hF hO (dkN_sub r26_0 rfl) (dkN_sub r26_1 rfl) (dkN_sub d30 rfl) (dkN_sub d23 rfl) (lv_sub hl [0, 1, 2, 3, 4] rfl)
            ·
              have d34 : dkN [(-2147483647, 2147483647)] v32 := dkN_le2 1 (dkN_top v31) (dkN_top v32) (dkc_nle c33) rfl
              have d35 : dkN [(-2147483648, 2147483646)] v31 := dkN_le1 1 (dkN_top v31) (dkN_top v32) (dkc_nle c33) rfl
              exact C66 I32 _ _ ls  hW hS hF hO (dkN_sub r26_0 rfl) (dkN_sub r26_1 rfl) (dkN_sub d30 rfl) (dkN_sub d23 rfl) (lv_sub hl [0, 1, 2, 3, 4] rfl)
  refine lv_aload_n hx hb dX6_cats_0 rfl (lv_at hl 0 rfl) ?_
  refine lv_iload_n hx hb dX6_cats_1 rfl (lv_at hl 1 rfl) ?_
  refine dk_Vi (As := [.int p0]) (rest := []) ⟨hx, hb, hml, hown, hts⟩ (c_X6_isStreet_0 l g z I0 p0 hO) (cwV 1 hts gX6_cats_X6_isStreet rfl rfl rfl (by decide +kernel) ⟨Nat.le_of_ble_eq_true rfl, Nat.le_of_ble_eq_true rfl⟩) (dk_at340 hW) rfl hK hT hW hS rfl hl.1 rfl (Nat.le_of_ble_eq_true rfl) dX6_cats_2 ⟨Nat.zero_le _, Nat.zero_le _⟩ (fun v36 I36 H36 L36 hp36 hW hS => ?_)
  obtain ⟨hF36, hO, hc36⟩ := hp36
  have hF := dkF_call hF hF36 rfl
  rcases hc36 with ⟨dv36, -⟩ | hc36
  ·
    refine lv_if_eq (tgt := 17) hx hb dX6_cats_5 (by decide) (fun c37 => ?_) (fun c37 => ?_)
    ·
      refine lv_ldc (v := (-1000001)) hx hb hown (hts (.constant RX6 64 (-1000001)) (List.mem_of_getElem? (i := 1) rfl)) dX6_cats_17 ?_
      exact W.iret (v := (-1000001)) hx hb hr (fun t ht hW9 => ⟨⟨(-1000001), I36, rfl, ⟨hF, hO, ⟨trivial, trivial⟩⟩, dkW_eq ht hW⟩, hS.F ht⟩) hS.2.2 dX6_cats_19
    ·
      exact (dkN_nil (show dkN [] v36 from dkN_ne1 (0) dv36 (dkN_lit (x := 0) (0) rfl) (dk_ne c37) rfl)).elim
  ·
    obtain ⟨dv36, a36_0, -⟩ := hc36
    have d38 : dkN [(0, 8)] p0 := dkN_eq1 (dkN_top p0) a36_0 rfl rfl
    refine lv_if_eq (tgt := 17) hx hb dX6_cats_5 (by decide) (fun c39 => ?_) (fun c39 => ?_)
    ·
      exact (dkN_nil (show dkN [] v36 from dkN_eq1 dv36 (dkN_lit (x := 0) (0) rfl) (congrArg Int32.toInt c39) rfl)).elim
    ·
      refine lv_iload_n hx hb dX6_cats_8 rfl (lv_at hl 2 rfl) ?_
      refine lv_iconst (v := 0) hx hb dX6_cats_9 (by decide) ?_
      refine lv_iconst (v := 1) hx hb dX6_cats_10 (by decide) ?_
      refine dk_Si (As := [.int p1, .int 0, .int 1]) (rest := []) ⟨hx, hb, hml, hown, hts⟩ (c_X6_in_16 l g z I36 p1 0 1 (dkN_lit (x := 0) (0) rfl) (dkN_lit (x := 1) (1) rfl) hO) (va_cwS 3 hts gX6_cats_X6_in rfl rfl rfl (by decide +kernel) ⟨Nat.le_of_ble_eq_true rfl, Nat.le_of_ble_eq_true rfl⟩) hK hT hW hS rfl hl.1 rfl (Nat.le_of_ble_eq_true rfl) dX6_cats_11 ⟨Nat.zero_le _, Nat.zero_le _⟩ (fun v40 I40 H40 L40 hp40 hW hS => ?_)
      obtain ⟨hF40, hO, hc40⟩ := hp40
      have hF := dkF_call hF hF40 rfl
      rcases hc40 with ⟨dv40, a40_0, -⟩ | hc40
      ·
        have d41 : dkN [(-2147483648, -1), (2, 2147483647)] p1 := dkN_eq1 (dkN_top p1) a40_0 rfl rfl
        refine lv_if_ne (tgt := 20) hx hb dX6_cats_14 (by decide) (fun c42 => ?_) (fun c42 => ?_)
        ·
          exact (dkN_nil (show dkN [] v40 from dkN_ne1 (0) dv40 (dkN_lit (x := 0) (0) rfl) (dk_ne c42) rfl)).elim
        ·
          refine lv_ldc (v := (-1000001)) hx hb hown (hts (.constant RX6 64 (-1000001)) (List.mem_of_getElem? (i := 1) rfl)) dX6_cats_17 ?_
          exact W.iret (v := (-1000001)) hx hb hr (fun t ht hW9 => ⟨⟨(-1000001), I40, rfl, ⟨hF, hO, ⟨trivial, trivial⟩⟩, dkW_eq ht hW⟩, hS.F ht⟩) hS.2.2 dX6_cats_19
      ·
        obtain ⟨dv40, a40_0, -⟩ := hc40
        have d43 : dkN [(0, 1)] p1 := dkN_eq1 (dkN_top p1) a40_0 rfl rfl
        refine lv_if_ne (tgt := 20) hx hb dX6_cats_14 (by decide) (fun c44 => ?_) (fun c44 => ?_)
        ·
          refine lv_ldc (v := (-1000000)) hx hb hown (hts (.constant RX6 50 (-1000000)) (List.mem_of_getElem? (i := 2) rfl)) dX6_cats_20 ?_
          refine lv_istore_n (lv' := [(3, .int ((-1000000))), (0, .ref (z + 340)), (1, .int p0), (2, .int p1)]) hx hb dX6_cats_22 rfl hl (by decide) rfl (fun ls hl => ?_)
          refine lv_iconst (v := 0) hx hb dX6_cats_23 (by decide) ?_
          refine lv_istore (lv' := [(4, .int 0), (3, .int ((-1000000))), (0, .ref (z + 340)), (1, .int p0), (2, .int p1)]) hx hb dX6_cats_24 hl (by decide) rfl (fun ls hl => ?_)
          exact C26 _ I40 _ _ ls ((-1000000)) 0 (Nat.lt_succ_self _) hW hS hF hO (dkN_sub (dkN_lit (x := (-1000000)) (-1000000) rfl) rfl) (dkN_sub (dkN_lit (x := 0) (0) rfl) rfl) (dkN_sub d38 rfl) (dkN_sub d43 rfl) (lv_sub hl [2, 3, 4, 1, 0] rfl)
        ·
          exact (dkN_nil (show dkN [] v40 from dkN_eq1 dv40 (dkN_lit (x := 0) (0) rfl) (congrArg Int32.toInt c44) rfl)).elim
set_option maxHeartbeats 4000000 in
set_option maxRecDepth 100000 in
theorem c_X3_margin_0 (l : Launch) (g : dkG) (z : Nat) (I0 : dkI) (p0 : Int32) (p1 : Int32) (p2 : Int32) (p3 : Int32) (dp0 : dkN [(0, 4)] p0) (dp1 : dkN [(0, 4)] p1)  (hO : dkOk I0) : Met l yX3_margin wsX3_margin (dkR 5) (dkPc g z [.ref (z + 325), .int p0, .int p1, .int p2, .int p3] I0) (dkQi g z (fun r I1 => dkF [(326, 326, 0, 4), (326, 326, 11, 11), (326, 326, 15, 17), (327, 327, 0, 4), (328, 328, 0, 4), (329, 329, 0, 4), (330, 330, 0, 4), (331, 331, 0, 4), (332, 332, 0, 4), (333, 333, 0, 5), (334, 334, 0, 5), (335, 335, 0, 5), (336, 336, 0, 8)] I0 I1 ∧ dkOk I1 ∧ ((dkN [(-63, 63)] r ∧ True)))) 0 0 (dkA z) := by
  refine Met.ofW (cc := cX3_margin) (maxL := 5) (ret := (some .int)) (by decide) rfl ?_
  intro p e s m args below meth c s₁ B hml hv
  obtain ⟨ha, hW, hK, hT⟩ := hv
  have hx := B.exec
  have hb := B.bytes
  have hr := B.returns
  have hts := atoms_spec (ws := wsX3_margin) B.pre
  have hown : s.vm.findClass RX3 = some m.cls := findClass_of_methodNamed B.named
  have hlocks := B.notSynchronized
  have hS : va_S (dkA z) s.heap s.heap [] := va_S.rf
  have hF : dkF [(326, 326, 0, 4), (326, 326, 11, 11), (326, 326, 15, 17), (327, 327, 0, 4), (328, 328, 0, 4), (329, 329, 0, 4), (330, 330, 0, 4), (331, 331, 0, 4), (332, 332, 0, 4), (333, 333, 0, 5), (334, 334, 0, 5), (335, 335, 0, 5), (336, 336, 0, 8)] I0 I0 := dkF_rf _ _
  have hl := lv_entry ([.ref (z + 325), .int p0, .int p1, .int p2, .int p3]) (n := 5) (Nat.le_of_ble_eq_true rfl)
  have hgo : entryFrame m args 5 = entryFrame m ([.ref (z + 325), .int p0, .int p1, .int p2, .int p3] : List Value).toArray 5 := by rw [ha]
  rw [hgo, lg_entry_eq]
  generalize (lg_sl ([.ref (z + 325), .int p0, .int p1, .int p2, .int p3]) ++ List.replicate (5 - (lg_sl ([.ref (z + 325), .int p0, .int p1, .int p2, .int p3])).length) Slot.unset).toArray = ls at hl ⊢
  have hl : lv_has ls 5 [(0, .ref (z + 325)), (1, .int p0), (2, .int p1), (3, .int p2), (4, .int p3)] := hl
  refine lv_aload_n hx hb dX3_margin_0 rfl (lv_at hl 0 rfl) ?_
  refine dk_get (k := 325) hx hb hts iX3_margin_3 hown hK (dk_at325 hW) rfl 1 (by decide) (hts (.fieldLink RX3 12 "DogKings$Seer" "then" "LDogKings$Town;") (List.mem_of_getElem? (i := 1) rfl)) rfl dX3_margin_1 ?_
  refine lv_aload_n hx hb dX3_margin_4 rfl (lv_at hl 0 rfl) ?_
  refine dk_get (k := 325) hx hb hts iX3_margin_3 hown hK (dk_at325 hW) rfl 0 (by decide) (hts (.fieldLink RX3 22 "DogKings$Seer" "now" "LDogKings$Town;") (List.mem_of_getElem? (i := 2) rfl)) rfl dX3_margin_5 ?_
  refine dk_Vv (As := [.ref (z + 25)]) (rest := []) ⟨hx, hb, hml, hown, hts⟩ (c_X4_become_0 l g z I0 (326) (by unfold dkT; omega) (25) (by unfold dkT; omega) hO) (cwV 1 hts gX3_margin_X4_become rfl rfl rfl (by decide +kernel) ⟨Nat.le_of_ble_eq_true rfl, Nat.le_of_ble_eq_true rfl⟩) (dk_at326 hW) rfl hK hT hW hS rfl hl.1 rfl (Nat.le_of_ble_eq_true rfl) dX3_margin_8 ⟨Nat.zero_le _, Nat.zero_le _⟩ (fun I1 H1 L1 hp1 hW hS => ?_)
  obtain ⟨hF1, hO, hc1⟩ := hp1
  have hF := dkF_call hF hF1 rfl
  refine lv_aload_n hx hb dX3_margin_11 rfl (lv_at hl 0 rfl) ?_
  refine dk_get (k := 325) hx hb hts iX3_margin_3 hown hK (dk_at325 hW) rfl 1 (by decide) (hts (.fieldLink RX3 12 "DogKings$Seer" "then" "LDogKings$Town;") (List.mem_of_getElem? (i := 1) rfl)) rfl dX3_margin_12 ?_
  refine dk_get (k := 326) hx hb hts iX3_margin_4 hown hK (dk_at326 hW) rfl 8 (by decide) (hts (.fieldLink RX3 104 "DogKings$Town" "bones" "[I") (List.mem_of_getElem? (i := 3) rfl)) rfl dX3_margin_15 ?_
  refine lv_iload_n hx hb dX3_margin_18 rfl (lv_at hl 1 rfl) ?_
  refine lv_iload_n hx hb dX3_margin_19 rfl (lv_at hl 3 rfl) ?_
  refine dk_ist (k := 330) hx hb hK hW (fun _ => rfl) (by decide) hS (dkN_in (n := 5) dp0 rfl) dX3_margin_20 (fun I2 H2 L2 eI2 hW hS => ?_)
  have hO := dkO_set hO eI2 (dkN_sub (dkN_top p2) rfl)
  have hF := dkF_set hF eI2 (dkIn_v dp0 rfl)
  refine lv_aload_n hx hb dX3_margin_21 rfl (lv_at hl 0 rfl) ?_
  refine dk_get (k := 325) hx hb hts iX3_margin_3 hown hK (dk_at325 hW) rfl 1 (by decide) (hts (.fieldLink RX3 12 "DogKings$Seer" "then" "LDogKings$Town;") (List.mem_of_getElem? (i := 1) rfl)) rfl dX3_margin_22 ?_
  refine dk_get (k := 326) hx hb hts iX3_margin_4 hown hK (dk_at326 hW) rfl 8 (by decide) (hts (.fieldLink RX3 104 "DogKings$Town" "bones" "[I") (List.mem_of_getElem? (i := 3) rfl)) rfl dX3_margin_25 ?_
  refine lv_iload_n hx hb dX3_margin_28 rfl (lv_at hl 2 rfl) ?_
  refine lv_iload hx hb dX3_margin_29 (lv_at hl 4 rfl) ?_
  refine dk_ist (k := 330) hx hb hK hW (fun _ => rfl) (by decide) hS (dkN_in (n := 5) dp1 rfl) dX3_margin_31 (fun I3 H3 L3 eI3 hW hS => ?_)
  have hO := dkO_set hO eI3 (dkN_sub (dkN_top p3) rfl)
  have hF := dkF_set hF eI3 (dkIn_v dp1 rfl)
  refine lv_aload_n hx hb dX3_margin_32 rfl (lv_at hl 0 rfl) ?_
  refine dk_get (k := 325) hx hb hts iX3_margin_3 hown hK (dk_at325 hW) rfl 1 (by decide) (hts (.fieldLink RX3 12 "DogKings$Seer" "then" "LDogKings$Town;") (List.mem_of_getElem? (i := 1) rfl)) rfl dX3_margin_33 ?_
  refine dk_Vv (As := []) (rest := []) ⟨hx, hb, hml, hown, hts⟩ (c_X4_runToBell_0 l g z I3 (326) (by unfold dkT; omega) hO) (cwV 0 hts gX3_margin_X4_runToBell rfl rfl rfl (by decide +kernel) ⟨Nat.le_of_ble_eq_true rfl, Nat.le_of_ble_eq_true rfl⟩) (dk_at326 hW) rfl hK hT hW hS rfl hl.1 rfl (Nat.le_of_ble_eq_true rfl) dX3_margin_36 ⟨Nat.zero_le _, Nat.zero_le _⟩ (fun I4 H4 L4 hp4 hW hS => ?_)
  obtain ⟨hF4, hO, hc4⟩ := hp4
  have hF := dkF_call hF hF4 rfl
  refine lv_aload_n hx hb dX3_margin_39 rfl (lv_at hl 0 rfl) ?_
  refine dk_get (k := 325) hx hb hts iX3_margin_3 hown hK (dk_at325 hW) rfl 1 (by decide) (hts (.fieldLink RX3 12 "DogKings$Seer" "then" "LDogKings$Town;") (List.mem_of_getElem? (i := 1) rfl)) rfl dX3_margin_40 ?_
  refine lv_aload_n hx hb dX3_margin_43 rfl (lv_at hl 0 rfl) ?_
  refine dk_get (k := 325) hx hb hts iX3_margin_3 hown hK (dk_at325 hW) rfl 1 (by decide) (hts (.fieldLink RX3 12 "DogKings$Seer" "then" "LDogKings$Town;") (List.mem_of_getElem? (i := 1) rfl)) rfl dX3_margin_44 ?_
  refine dk_get (k := 326) hx hb hts iX3_margin_4 hown hK (dk_at326 hW) rfl 7 (by decide) (hts (.fieldLink RX3 32 "DogKings$Town" "personAt" "[I") (List.mem_of_getElem? (i := 4) rfl)) rfl dX3_margin_47 ?_
  refine lv_iload_n hx hb dX3_margin_50 rfl (lv_at hl 1 rfl) ?_
  refine dk_ild (k := 329) hx hb hK (dk_at329 hW) (dkN_in (n := 5) dp0 rfl) dX3_margin_51 ?_
  refine lv_topi (fun v5 ev5 => ?_)
  refine dk_Vi (As := [.int v5]) (rest := []) ⟨hx, hb, hml, hown, hts⟩ (c_X4_dogsIn_0 l g z I4 (326) (by unfold dkT; omega) v5 hO) (cwV 1 hts gX3_margin_X4_dogsIn rfl rfl rfl (by decide +kernel) ⟨Nat.le_of_ble_eq_true rfl, Nat.le_of_ble_eq_true rfl⟩) (dk_at326 hW) rfl hK hT hW hS rfl hl.1 rfl (Nat.le_of_ble_eq_true rfl) dX3_margin_52 ⟨Nat.zero_le _, Nat.zero_le _⟩ (fun v6 I6 H6 L6 hp6 hW hS => ?_)
  obtain ⟨hF6, hO, hc6⟩ := hp6
  have hF := dkF_call hF hF6 rfl
  obtain ⟨_, -⟩ := hc6
  refine dk_Si (As := [.int v6]) (rest := []) ⟨hx, hb, hml, hown, hts⟩ (c_J6_bitCount_0f7a4_0 l g z I6 v6 hO) (va_cwS 1 hts gX3_margin_J6_bitCount_0f7a4 rfl rfl rfl (by decide +kernel) ⟨Nat.le_of_ble_eq_true rfl, Nat.le_of_ble_eq_true rfl⟩) hK hT hW hS rfl hl.1 rfl (Nat.le_of_ble_eq_true rfl) dX3_margin_55 ⟨Nat.zero_le _, Nat.zero_le _⟩ (fun v7 I7 H7 L7 hp7 hW hS => ?_)
  obtain ⟨hF7, hO, hc7⟩ := hp7
  have hF := dkF_call hF hF7 rfl
  obtain ⟨dv7, -⟩ := hc7
  refine lv_aload_n hx hb dX3_margin_58 rfl (lv_at hl 0 rfl) ?_
  refine dk_get (k := 325) hx hb hts iX3_margin_3 hown hK (dk_at325 hW) rfl 1 (by decide) (hts (.fieldLink RX3 12 "DogKings$Seer" "then" "LDogKings$Town;") (List.mem_of_getElem? (i := 1) rfl)) rfl dX3_margin_59 ?_
  refine lv_aload_n hx hb dX3_margin_62 rfl (lv_at hl 0 rfl) ?_
  refine dk_get (k := 325) hx hb hts iX3_margin_3 hown hK (dk_at325 hW) rfl 1 (by decide) (hts (.fieldLink RX3 12 "DogKings$Seer" "then" "LDogKings$Town;") (List.mem_of_getElem? (i := 1) rfl)) rfl dX3_margin_63 ?_
  refine dk_get (k := 326) hx hb hts iX3_margin_4 hown hK (dk_at326 hW) rfl 7 (by decide) (hts (.fieldLink RX3 32 "DogKings$Town" "personAt" "[I") (List.mem_of_getElem? (i := 4) rfl)) rfl dX3_margin_66 ?_
  refine lv_iload_n hx hb dX3_margin_69 rfl (lv_at hl 2 rfl) ?_
  refine dk_ild (k := 329) hx hb hK (dk_at329 hW) (dkN_in (n := 5) dp1 rfl) dX3_margin_70 ?_
  refine lv_topi (fun v8 ev8 => ?_)
  refine dk_Vi (As := [.int v8]) (rest := [.int v7]) ⟨hx, hb, hml, hown, hts⟩ (c_X4_dogsIn_0 l g z I7 (326) (by unfold dkT; omega) v8 hO) (cwV 1 hts gX3_margin_X4_dogsIn rfl rfl rfl (by decide +kernel) ⟨Nat.le_of_ble_eq_true rfl, Nat.le_of_ble_eq_true rfl⟩) (dk_at326 hW) rfl hK hT hW hS rfl hl.1 rfl (Nat.le_of_ble_eq_true rfl) dX3_margin_71 ⟨Nat.zero_le _, Nat.zero_le _⟩ (fun v9 I9 H9 L9 hp9 hW hS => ?_)
  obtain ⟨hF9, hO, hc9⟩ := hp9
  have hF := dkF_call hF hF9 rfl
  obtain ⟨_, -⟩ := hc9
  refine dk_Si (As := [.int v9]) (rest := [.int v7]) ⟨hx, hb, hml, hown, hts⟩ (c_J6_bitCount_0f7a4_0 l g z I9 v9 hO) (va_cwS 1 hts gX3_margin_J6_bitCount_0f7a4 rfl rfl rfl (by decide +kernel) ⟨Nat.le_of_ble_eq_true rfl, Nat.le_of_ble_eq_true rfl⟩) hK hT hW hS rfl hl.1 rfl (Nat.le_of_ble_eq_true rfl) dX3_margin_74 ⟨Nat.zero_le _, Nat.zero_le _⟩ (fun v10 I10 H10 L10 hp10 hW hS => ?_)
  obtain ⟨hF10, hO, hc10⟩ := hp10
  have hF := dkF_call hF hF10 rfl
  obtain ⟨dv10, -⟩ := hc10
  refine lv_isub hx hb dX3_margin_77 ?_
  refine lv_topi (fun v11 ev11 => ?_)
  have dv11 : dkN [(-63, 63)] v11 := by rw [ev11]; exact dkN_subt dv7 dv10 rfl
  exact W.iret (v := v11) hx hb hr (fun t ht hW9 => ⟨⟨v11, I10, rfl, ⟨hF, hO, ⟨dkN_sub dv11 rfl, trivial⟩⟩, dkW_eq ht hW⟩, hS.F ht⟩) hS.2.2 dX3_margin_78
set_option maxHeartbeats 4000000 in
set_option maxRecDepth 100000 in
theorem c_X3_outcome_4 (l : Launch) (g : dkG) (z : Nat) (I0 : dkI) (p0 : Int32) (p1 : Int32) (p2 : Int32) (p3 : Int32) (p4 : Int32) (dp0 : dkN [(0, 4)] p0) (dp1 : dkN [(0, 4)] p1) (dp4 : dkN [(0, 0)] p4)  (hO : dkOk I0) : Met l yX3_outcome wsX3_outcome (dkR 6) (dkPc g z [.ref (z + 325), .int p0, .int p1, .int p2, .int p3, .int p4] I0) (dkQi g z (fun r I1 => dkF [(326, 326, 0, 4), (326, 326, 11, 11), (326, 326, 15, 17), (327, 327, 0, 4), (328, 328, 0, 4), (329, 329, 0, 4), (330, 330, 0, 4), (331, 331, 0, 4), (332, 332, 0, 4), (333, 333, 0, 5), (334, 334, 0, 5), (335, 335, 0, 5), (336, 336, 0, 8)] I0 I1 ∧ dkOk I1 ∧ ((dkN [(-63, 63)] r ∧ True)))) 0 0 (dkA z) := by
  refine Met.ofW (cc := cX3_outcome) (maxL := 8) (ret := (some .int)) (by decide) rfl ?_
  intro p e s m args below meth c s₁ B hml hv
  obtain ⟨ha, hW, hK, hT⟩ := hv
  have hx := B.exec
  have hb := B.bytes
  have hr := B.returns
  have hts := atoms_spec (ws := wsX3_outcome) B.pre
  have hown : s.vm.findClass RX3 = some m.cls := findClass_of_methodNamed B.named
  have hlocks := B.notSynchronized
  have hS : va_S (dkA z) s.heap s.heap [] := va_S.rf
  have hF : dkF [(326, 326, 0, 4), (326, 326, 11, 11), (326, 326, 15, 17), (327, 327, 0, 4), (328, 328, 0, 4), (329, 329, 0, 4), (330, 330, 0, 4), (331, 331, 0, 4), (332, 332, 0, 4), (333, 333, 0, 5), (334, 334, 0, 5), (335, 335, 0, 5), (336, 336, 0, 8)] I0 I0 := dkF_rf _ _
  have hl := lv_entry ([.ref (z + 325), .int p0, .int p1, .int p2, .int p3, .int p4]) (n := 8) (Nat.le_of_ble_eq_true rfl)
  have hgo : entryFrame m args 8 = entryFrame m ([.ref (z + 325), .int p0, .int p1, .int p2, .int p3, .int p4] : List Value).toArray 8 := by rw [ha]
  rw [hgo, lg_entry_eq]
  generalize (lg_sl ([.ref (z + 325), .int p0, .int p1, .int p2, .int p3, .int p4]) ++ List.replicate (8 - (lg_sl ([.ref (z + 325), .int p0, .int p1, .int p2, .int p3, .int p4])).length) Slot.unset).toArray = ls at hl ⊢
  have hl : lv_has ls 8 [(0, .ref (z + 325)), (1, .int p0), (2, .int p1), (3, .int p2), (4, .int p3), (5, .int p4)] := hl
  have C11 : ∀ (I : dkI) (H : Heap) (locs : List Loc) (ls : Array Slot), dkW g z I H → va_S (dkA z) s.heap H locs → dkF [(326, 326, 0, 4), (326, 326, 11, 11), (326, 326, 15, 17), (327, 327, 0, 4), (328, 328, 0, 4), (329, 329, 0, 4), (330, 330, 0, 4), (331, 331, 0, 4), (332, 332, 0, 4), (333, 333, 0, 5), (334, 334, 0, 5), (335, 335, 0, 5), (336, 336, 0, 8)] I0 I → dkOk I → lv_has ls 8 [(0, .ref (z + 325)), (1, .int p0), (2, .int p1), (3, .int p2), (4, .int p3), (5, .int p4)] → W p l e (headSpec wsX3_outcome (dkR 6)).room s m args below meth c H locs 0 0 (MQ below (dkQi g z (fun r I1 => dkF [(326, 326, 0, 4), (326, 326, 11, 11), (326, 326, 15, 17), (327, 327, 0, 4), (328, 328, 0, 4), (329, 329, 0, 4), (330, 330, 0, 4), (331, 331, 0, 4), (332, 332, 0, 4), (333, 333, 0, 5), (334, 334, 0, 5), (335, 335, 0, 5), (336, 336, 0, 8)] I0 I1 ∧ dkOk I1 ∧ ((dkN [(-63, 63)] r ∧ True)))) args s 0 0 (dkA z)) (F0 m 11 ls []) := by
    intro I11_ H locs ls hW hS hF_11 hO hl
    have hF := hF_11
    refine lv_aload_n hx hb dX3_outcome_11 rfl (lv_at hl 0 rfl) ?_
    refine lv_iload_n hx hb dX3_outcome_12 rfl (lv_at hl 1 rfl) ?_
    refine lv_iload_n hx hb dX3_outcome_13 rfl (lv_at hl 2 rfl) ?_
    refine lv_iload_n hx hb dX3_outcome_14 rfl (lv_at hl 3 rfl) ?_
    refine lv_iload hx hb dX3_outcome_15 (lv_at hl 4 rfl) ?_
    refine dk_Vi (As := [.int p0, .int p1, .int p2, .int p3]) (rest := []) ⟨hx, hb, hml, hown, hts⟩ (c_X3_margin_0 l g z I11_ p0 p1 p2 p3 dp0 dp1 hO) (cwV 4 hts gX3_outcome_X3_margin rfl rfl rfl (by decide +kernel) ⟨Nat.le_of_ble_eq_true rfl, Nat.le_of_ble_eq_true rfl⟩) (dk_at325 hW) rfl hK hT hW hS rfl hl.1 rfl (Nat.le_of_ble_eq_true rfl) dX3_outcome_17 ⟨Nat.zero_le _, Nat.zero_le _⟩ (fun v1 I1 H1 L1 hp1 hW hS => ?_)
    obtain ⟨hF1, hO, hc1⟩ := hp1
    have hF := dkF_call hF hF1 rfl
    obtain ⟨dv1, -⟩ := hc1
    exact W.iret (v := v1) hx hb hr (fun t ht hW9 => ⟨⟨v1, I1, rfl, ⟨hF, hO, ⟨dkN_sub dv1 rfl, trivial⟩⟩, dkW_eq ht hW⟩, hS.F ht⟩) hS.2.2 dX3_outcome_20
  refine lv_iload hx hb dX3_outcome_0 (lv_at hl 5 rfl) ?_
  refine lv_if_le (tgt := 11) hx hb dX3_outcome_2 (by decide) (fun c2 => ?_) (fun c2 => ?_)
  ·
    exact C11 I0 _ _ ls  hW hS hF hO  (lv_sub hl [0, 1, 2, 3, 4, 5] rfl)
  ·
    exact (dkN_nil (show dkN [] p4 from dkN_le2 1 (dkN_lit (x := 0) (0) rfl) dp4 (dkc_nle c2) rfl)).elim
set_option maxHeartbeats 4000000 in
set_option maxRecDepth 100000 in
theorem c_X3_outcome_3 (l : Launch) (g : dkG) (z : Nat) (I0 : dkI) (p0 : Int32) (p1 : Int32) (p2 : Int32) (p3 : Int32) (p4 : Int32) (dp0 : dkN [(0, 4)] p0) (dp1 : dkN [(0, 4)] p1) (dp4 : dkN [(0, 1)] p4)  (hO : dkOk I0) : Met l yX3_outcome wsX3_outcome (dkR 7) (dkPc g z [.ref (z + 325), .int p0, .int p1, .int p2, .int p3, .int p4] I0) (dkQi g z (fun r I1 => dkF [(326, 326, 0, 4), (326, 326, 11, 11), (326, 326, 15, 17), (327, 327, 0, 4), (328, 328, 0, 4), (329, 329, 0, 4), (330, 330, 0, 4), (331, 331, 0, 4), (332, 332, 0, 4), (333, 333, 0, 5), (334, 334, 0, 5), (335, 335, 0, 5), (336, 336, 0, 8)] I0 I1 ∧ dkOk I1 ∧ ((dkN [(-63, 63)] r ∧ True)))) 0 0 (dkA z) := by
  refine Met.ofW (cc := cX3_outcome) (maxL := 8) (ret := (some .int)) (by decide) rfl ?_
  intro p e s m args below meth c s₁ B hml hv
  obtain ⟨ha, hW, hK, hT⟩ := hv
  have hx := B.exec
  have hb := B.bytes
  have hr := B.returns
  have hts := atoms_spec (ws := wsX3_outcome) B.pre
  have hown : s.vm.findClass RX3 = some m.cls := findClass_of_methodNamed B.named
  have hlocks := B.notSynchronized
  have hS : va_S (dkA z) s.heap s.heap [] := va_S.rf
  have hF : dkF [(326, 326, 0, 4), (326, 326, 11, 11), (326, 326, 15, 17), (327, 327, 0, 4), (328, 328, 0, 4), (329, 329, 0, 4), (330, 330, 0, 4), (331, 331, 0, 4), (332, 332, 0, 4), (333, 333, 0, 5), (334, 334, 0, 5), (335, 335, 0, 5), (336, 336, 0, 8)] I0 I0 := dkF_rf _ _
  have hl := lv_entry ([.ref (z + 325), .int p0, .int p1, .int p2, .int p3, .int p4]) (n := 8) (Nat.le_of_ble_eq_true rfl)
  have hgo : entryFrame m args 8 = entryFrame m ([.ref (z + 325), .int p0, .int p1, .int p2, .int p3, .int p4] : List Value).toArray 8 := by rw [ha]
  rw [hgo, lg_entry_eq]
  generalize (lg_sl ([.ref (z + 325), .int p0, .int p1, .int p2, .int p3, .int p4]) ++ List.replicate (8 - (lg_sl ([.ref (z + 325), .int p0, .int p1, .int p2, .int p3, .int p4])).length) Slot.unset).toArray = ls at hl ⊢
  have hl : lv_has ls 8 [(0, .ref (z + 325)), (1, .int p0), (2, .int p1), (3, .int p2), (4, .int p3), (5, .int p4)] := hl
  have C11 : ∀ (I : dkI) (H : Heap) (locs : List Loc) (ls : Array Slot), dkW g z I H → va_S (dkA z) s.heap H locs → dkF [(326, 326, 0, 4), (326, 326, 11, 11), (326, 326, 15, 17), (327, 327, 0, 4), (328, 328, 0, 4), (329, 329, 0, 4), (330, 330, 0, 4), (331, 331, 0, 4), (332, 332, 0, 4), (333, 333, 0, 5), (334, 334, 0, 5), (335, 335, 0, 5), (336, 336, 0, 8)] I0 I → dkOk I → dkN [(0, 0)] p4 → lv_has ls 8 [(0, .ref (z + 325)), (1, .int p0), (2, .int p1), (3, .int p2), (4, .int p3), (5, .int p4)] → W p l e (headSpec wsX3_outcome (dkR 7)).room s m args below meth c H locs 0 0 (MQ below (dkQi g z (fun r I1 => dkF [(326, 326, 0, 4), (326, 326, 11, 11), (326, 326, 15, 17), (327, 327, 0, 4), (328, 328, 0, 4), (329, 329, 0, 4), (330, 330, 0, 4), (331, 331, 0, 4), (332, 332, 0, 4), (333, 333, 0, 5), (334, 334, 0, 5), (335, 335, 0, 5), (336, 336, 0, 8)] I0 I1 ∧ dkOk I1 ∧ ((dkN [(-63, 63)] r ∧ True)))) args s 0 0 (dkA z)) (F0 m 11 ls []) := by
    intro I11_ H locs ls hW hS hF_11 hO r11_0 hl
    have hF := hF_11
    refine lv_aload_n hx hb dX3_outcome_11 rfl (lv_at hl 0 rfl) ?_
    refine lv_iload_n hx hb dX3_outcome_12 rfl (lv_at hl 1 rfl) ?_
    refine lv_iload_n hx hb dX3_outcome_13 rfl (lv_at hl 2 rfl) ?_
    refine lv_iload_n hx hb dX3_outcome_14 rfl (lv_at hl 3 rfl) ?_
    refine lv_iload hx hb dX3_outcome_15 (lv_at hl 4 rfl) ?_
    refine dk_Vi (As := [.int p0, .int p1, .int p2, .int p3]) (rest := []) ⟨hx, hb, hml, hown, hts⟩ (c_X3_margin_0 l g z I11_ p0 p1 p2 p3 dp0 dp1 hO) (cwV 4 hts gX3_outcome_X3_margin rfl rfl rfl (by decide +kernel) ⟨Nat.le_of_ble_eq_true rfl, Nat.le_of_ble_eq_true rfl⟩) (dk_at325 hW) rfl hK hT hW hS rfl hl.1 rfl (Nat.le_of_ble_eq_true rfl) dX3_outcome_17 ⟨Nat.zero_le _, Nat.zero_le _⟩ (fun v1 I1 H1 L1 hp1 hW hS => ?_)
    obtain ⟨hF1, hO, hc1⟩ := hp1
    have hF := dkF_call hF hF1 rfl
    obtain ⟨dv1, -⟩ := hc1
    exact W.iret (v := v1) hx hb hr (fun t ht hW9 => ⟨⟨v1, I1, rfl, ⟨hF, hO, ⟨dkN_sub dv1 rfl, trivial⟩⟩, dkW_eq ht hW⟩, hS.F ht⟩) hS.2.2 dX3_outcome_20
  refine lv_iload hx hb dX3_outcome_0 (lv_at hl 5 rfl) ?_
  refine lv_if_le (tgt := 11) hx hb dX3_outcome_2 (by decide) (fun c2 => ?_) (fun c2 => ?_)
  ·
    have d3 : dkN [(0, 0)] p4 := dkN_le1 0 dp4 (dkN_lit (x := 0) (0) rfl) (dkc_le c2) rfl
    exact C11 I0 _ _ ls  hW hS hF hO (dkN_sub d3 rfl) (lv_sub hl [0, 1, 2, 3, 4, 5] rfl)
  ·
    have d4 : dkN [(1, 1)] p4 := dkN_le2 1 (dkN_lit (x := 0) (0) rfl) dp4 (dkc_nle c2) rfl
    refine lv_iload hx hb dX3_outcome_5 (lv_at hl 5 rfl) ?_
    refine lv_iconst (v := 4) hx hb dX3_outcome_7 (by decide) ?_
    refine lv_icmp_le (tgt := 21) hx hb dX3_outcome_8 (by decide) (fun c5 => ?_) (fun c5 => ?_)
    ·
      refine lv_aload_n hx hb dX3_outcome_21 rfl (lv_at hl 0 rfl) ?_
      refine lv_iload_n hx hb dX3_outcome_22 rfl (lv_at hl 1 rfl) ?_
      refine lv_iload_n hx hb dX3_outcome_23 rfl (lv_at hl 2 rfl) ?_
      refine lv_iload_n hx hb dX3_outcome_24 rfl (lv_at hl 3 rfl) ?_
      refine lv_iload hx hb dX3_outcome_25 (lv_at hl 4 rfl) ?_
      refine lv_iload hx hb dX3_outcome_27 (lv_at hl 5 rfl) ?_
      refine lv_iconst (v := 1) hx hb dX3_outcome_29 (by decide) ?_
      refine lv_isub hx hb dX3_outcome_30 ?_
      refine lv_topi (fun v6 ev6 => ?_)
      have dv6 : dkN [(0, 0)] v6 := by rw [ev6]; exact dkN_subt d4 (dkN_lit (x := 1) (1) rfl) rfl
      refine dk_Vi (As := [.int p0, .int p1, .int p2, .int p3, .int v6]) (rest := []) ⟨hx, hb, hml, hown, hts⟩ (c_X3_outcome_4 l g z I0 p0 p1 p2 p3 v6 dp0 dp1 dv6 hO) (cwV 5 hts gX3_outcome_X3_outcome rfl rfl rfl (by decide +kernel) ⟨Nat.le_of_ble_eq_true rfl, Nat.le_of_ble_eq_true rfl⟩) (dk_at325 hW) rfl hK hT hW hS rfl hl.1 rfl (Nat.le_of_ble_eq_true rfl) dX3_outcome_31 ⟨Nat.zero_le _, Nat.zero_le _⟩ (fun v7 I7 H7 L7 hp7 hW hS => ?_)
      obtain ⟨hF7, hO, hc7⟩ := hp7
      have hF := dkF_call hF hF7 rfl
      obtain ⟨dv7, -⟩ := hc7
      refine lv_istore (lv' := [(6, .int v7), (0, .ref (z + 325)), (1, .int p0), (2, .int p1), (3, .int p2), (4, .int p3), (5, .int p4)]) hx hb dX3_outcome_34 hl (by decide) rfl (fun ls hl => ?_)
      refine lv_iload hx hb dX3_outcome_36 (lv_at hl 6 rfl) ?_
      refine lv_iconst (v := 2) hx hb dX3_outcome_38 (by decide) ?_
      refine lv_irem hx hb dX3_outcome_39 (dkN_ne0 (dkN_lit (x := 2) (2) rfl) rfl) ?_
      refine lv_topi (fun v8 ev8 => ?_)
      have dv8 : dkN [(0, 1)] v8 := by rw [ev8]; exact dkN_rem 2 (by decide) d4 (dkN_lit (x := 2) (2) rfl) rfl
      refine lv_if_ne (tgt := 73) hx hb dX3_outcome_40 (by decide) (fun c9 => ?_) (fun c9 => ?_)
      ·
        have d10 : dkN [(1, 1)] v8 := dkN_ne1 (0) dv8 (dkN_lit (x := 0) (0) rfl) (dk_ne c9) rfl
        refine lv_iload hx hb dX3_outcome_73 (lv_at hl 5 rfl) ?_
        refine lv_iconst (v := 1) hx hb dX3_outcome_75 (by decide) ?_
        refine lv_iadd hx hb dX3_outcome_76 ?_
        refine lv_topi (fun v11 ev11 => ?_)
        refine lv_bipush (v := 9) hx hb dX3_outcome_77 (by decide) ?_
        refine va_mmin hx hb (by rw [hml]; exact hl.1.symm) hown (hts (.methodLink RX3 95 Lib.Math.min.name) (List.mem_of_getElem? (i := 1) rfl)) (hts (.static Lib.Math.min.name) (List.mem_of_getElem? (i := 2) rfl)) (hts (.initialized "java/lang/Math") (List.mem_of_getElem? (i := 3) rfl)) (hts (.code Lib.Math.min.name Lib.Math.min.code 2 (some .int)) (List.mem_of_getElem? (i := 4) rfl)) (Nat.le_of_ble_eq_true rfl) (Nat.le_of_ble_eq_true rfl) (Nat.zero_le _) (Nat.zero_le _) dX3_outcome_79 ?_
        refine lv_topi (fun v12 ev12 => ?_)
        have dv12 : dkN [(-2147483648, 9)] v12 := by rw [ev12]; exact dkN_min (dkN_top v11) (dkN_lit (x := 9) (9) rfl) rfl
        refine lv_istore (lv' := [(7, .int v12), (6, .int v7), (0, .ref (z + 325)), (1, .int p0), (2, .int p1), (3, .int p2), (4, .int p3), (5, .int p4)]) hx hb dX3_outcome_82 hl (by decide) rfl (fun ls hl => ?_)
        refine lv_iload hx hb dX3_outcome_84 (lv_at hl 1 rfl) ?_
        refine lv_aload_n hx hb dX3_outcome_86 rfl (lv_at hl 2 rfl) ?_
        refine lv_iload_n hx hb dX3_outcome_87 rfl (lv_at hl 3 rfl) ?_
        refine lv_iload_n hx hb dX3_outcome_88 rfl (lv_at hl 4 rfl) ?_
        refine lv_iload_n hx hb dX3_outcome_89 rfl (lv_at hl 5 rfl) ?_
        refine lv_iload hx hb dX3_outcome_90 (lv_at hl 0 rfl) ?_
        refine lv_iload hx hb dX3_outcome_92 (lv_at hl 7 rfl) ?_
        refine lv_iconst (v := 1) hx hb dX3_outcome_94 (by decide) ?_
        refine lv_isub hx hb dX3_outcome_95 ?_
        refine lv_topi (fun v13 ev13 => ?_)
        have dv13 : dkN [(0, 0)] v13 := by rw [ev13]; exact dkN_subt d4 (dkN_lit (x := 1) (1) rfl) rfl
        refine dk_Vi (As := [.int p0, .int p1, .int p2, .int v12, .int v13]) (rest := [.int v7]) ⟨hx, hb, hml, hown, hts⟩ (c_X3_outcome_4 l g z I7 p0 p1 p2 v12 v13 dp0 dp1 dv13 hO) (cwV 5 hts gX3_outcome_X3_outcome rfl rfl rfl (by decide +kernel) ⟨Nat.le_of_ble_eq_true rfl, Nat.le_of_ble_eq_true rfl⟩) (dk_at325 hW) rfl hK hT hW hS rfl hl.1 rfl (Nat.le_of_ble_eq_true rfl) dX3_outcome_96 ⟨Nat.zero_le _, Nat.zero_le _⟩ (fun v14 I14 H14 L14 hp14 hW hS => ?_)
        obtain ⟨hF14, hO, hc14⟩ := hp14
        have hF := dkF_call hF hF14 rfl
        obtain ⟨dv14, -⟩ := hc14
        refine va_mmin hx hb (by rw [hml]; exact hl.1.symm) hown (hts (.methodLink RX3 95 Lib.Math.min.name) (List.mem_of_getElem? (i := 1) rfl)) (hts (.static Lib.Math.min.name) (List.mem_of_getElem? (i := 2) rfl)) (hts (.initialized "java/lang/Math") (List.mem_of_getElem? (i := 3) rfl)) (hts (.code Lib.Math.min.name Lib.Math.min.code 2 (some .int)) (List.mem_of_getElem? (i := 4) rfl)) (Nat.le_of_ble_eq_true rfl) (Nat.le_of_ble_eq_true rfl) (Nat.zero_le _) (Nat.zero_le _) dX3_outcome_99 ?_
        refine lv_topi (fun v15 ev15 => ?_)
        have dv15 : dkN [(-63, 63)] v15 := by rw [ev15]; exact dkN_min dv7 dv14 rfl
        exact W.iret (v := v15) hx hb hr (fun t ht hW9 => ⟨⟨v15, I14, rfl, ⟨hF, hO, ⟨dkN_sub dv15 rfl, trivial⟩⟩, dkW_eq ht hW⟩, hS.F ht⟩) hS.2.2 dX3_outcome_102
      ·
        have d16 : dkN [(0, 0)] v8 := dkN_eq1 dv8 (dkN_lit (x := 0) (0) rfl) (congrArg Int32.toInt c9) rfl
        refine lv_iload_n hx hb dX3_outcome_43 rfl (lv_at hl 4 rfl) ?_
        refine lv_iconst (v := 1) hx hb dX3_outcome_44 (by decide) ?_
        refine lv_iadd hx hb dX3_outcome_45 ?_
        refine lv_topi (fun v17 ev17 => ?_)
        refine lv_bipush (v := 9) hx hb dX3_outcome_46 (by decide) ?_
        refine va_mmin hx hb (by rw [hml]; exact hl.1.symm) hown (hts (.methodLink RX3 95 Lib.Math.min.name) (List.mem_of_getElem? (i := 1) rfl)) (hts (.static Lib.Math.min.name) (List.mem_of_getElem? (i := 2) rfl)) (hts (.initialized "java/lang/Math") (List.mem_of_getElem? (i := 3) rfl)) (hts (.code Lib.Math.min.name Lib.Math.min.code 2 (some .int)) (List.mem_of_getElem? (i := 4) rfl)) (Nat.le_of_ble_eq_true rfl) (Nat.le_of_ble_eq_true rfl) (Nat.zero_le _) (Nat.zero_le _) dX3_outcome_48 ?_
        refine lv_topi (fun v18 ev18 => ?_)
        have dv18 : dkN [(-2147483648, 9)] v18 := by rw [ev18]; exact dkN_min (dkN_top v17) (dkN_lit (x := 9) (9) rfl) rfl
        refine lv_istore (lv' := [(7, .int v18), (6, .int v7), (0, .ref (z + 325)), (1, .int p0), (2, .int p1), (3, .int p2), (4, .int p3), (5, .int p4)]) hx hb dX3_outcome_51 hl (by decide) rfl (fun ls hl => ?_)
        refine lv_iload hx hb dX3_outcome_53 (lv_at hl 1 rfl) ?_
        refine lv_aload_n hx hb dX3_outcome_55 rfl (lv_at hl 2 rfl) ?_
        refine lv_iload_n hx hb dX3_outcome_56 rfl (lv_at hl 3 rfl) ?_
        refine lv_iload_n hx hb dX3_outcome_57 rfl (lv_at hl 4 rfl) ?_
        refine lv_iload hx hb dX3_outcome_58 (lv_at hl 0 rfl) ?_
        refine lv_iload hx hb dX3_outcome_60 (lv_at hl 6 rfl) ?_
        refine lv_iload hx hb dX3_outcome_62 (lv_at hl 7 rfl) ?_
        refine lv_iconst (v := 1) hx hb dX3_outcome_64 (by decide) ?_
        refine lv_isub hx hb dX3_outcome_65 ?_
        refine lv_topi (fun v19 ev19 => ?_)
        have dv19 : dkN [(0, 0)] v19 := by rw [ev19]; exact dkN_subt d4 (dkN_lit (x := 1) (1) rfl) rfl
        refine dk_Vi (As := [.int p0, .int p1, .int v18, .int p3, .int v19]) (rest := [.int v7]) ⟨hx, hb, hml, hown, hts⟩ (c_X3_outcome_4 l g z I7 p0 p1 v18 p3 v19 dp0 dp1 dv19 hO) (cwV 5 hts gX3_outcome_X3_outcome rfl rfl rfl (by decide +kernel) ⟨Nat.le_of_ble_eq_true rfl, Nat.le_of_ble_eq_true rfl⟩) (dk_at325 hW) rfl hK hT hW hS rfl hl.1 rfl (Nat.le_of_ble_eq_true rfl) dX3_outcome_66 ⟨Nat.zero_le _, Nat.zero_le _⟩ (fun v20 I20 H20 L20 hp20 hW hS => ?_)
        obtain ⟨hF20, hO, hc20⟩ := hp20
        have hF := dkF_call hF hF20 rfl
        obtain ⟨dv20, -⟩ := hc20
        refine va_mmax hx hb (by rw [hml]; exact hl.1.symm) hown (hts (.methodLink RX3 101 Lib.Math.max.name) (List.mem_of_getElem? (i := 5) rfl)) (hts (.static Lib.Math.max.name) (List.mem_of_getElem? (i := 6) rfl)) (hts (.initialized "java/lang/Math") (List.mem_of_getElem? (i := 3) rfl)) (hts (.code Lib.Math.max.name Lib.Math.max.code 2 (some .int)) (List.mem_of_getElem? (i := 7) rfl)) (Nat.le_of_ble_eq_true rfl) (Nat.le_of_ble_eq_true rfl) (Nat.zero_le _) (Nat.zero_le _) dX3_outcome_69 ?_
        refine lv_topi (fun v21 ev21 => ?_)
        have dv21 : dkN [(-63, 63)] v21 := by rw [ev21]; exact dkN_max dv7 dv20 rfl
        exact W.iret (v := v21) hx hb hr (fun t ht hW9 => ⟨⟨v21, I20, rfl, ⟨hF, hO, ⟨dkN_sub dv21 rfl, trivial⟩⟩, dkW_eq ht hW⟩, hS.F ht⟩) hS.2.2 dX3_outcome_72
    ·
      exact (dkN_nil (show dkN [] p4 from dkN_le2 1 (dkN_lit (x := 4) (4) rfl) d4 (dkc_nle c5) rfl)).elim
