set_option maxHeartbeats 4000000 in
set_option maxRecDepth 100000 in
theorem c_X6_rings_0 (l : Launch) (g : dkG) (z : Nat) (I0 : dkI)  (hO : dkOk I0) : Met l yX6_rings wsX6_rings (dkR 3) (dkPc g z [.ref (z + 346)] I0) (dkQi g z (fun r I1 => dkF [(346, 346, 2, 3), (346, 346, 10, 35), (346, 346, 38, 38), (346, 346, 41, 41), (346, 346, 44, 44), (346, 346, 47, 47), (346, 346, 50, 50), (346, 346, 53, 53)] I0 I1 ∧ dkOk I1 ∧ ((dkN [(-1000000, -1000000), (0, 4)] r ∧ dkN [(0, 0)] (I1 346 3) ∧ True)))) 0 0 (dkA z) := by
  refine Met.ofW (cc := cX6_rings) (maxL := 3) (ret := (some .int)) (by decide) rfl ?_
  intro p e s m args below meth c s₁ B hml hv
  obtain ⟨ha, hW, hK, hT⟩ := hv
  have hx := B.exec
  have hb := B.bytes
  have hr := B.returns
  have hts := atoms_spec (ws := wsX6_rings) B.pre
  have hown : s.vm.findClass RX6 = some m.cls := findClass_of_methodNamed B.named
  have hlocks := B.notSynchronized
  have hS : va_S (dkA z) s.heap s.heap [] := va_S.rf
  have hF : dkF [(346, 346, 2, 3), (346, 346, 10, 35), (346, 346, 38, 38), (346, 346, 41, 41), (346, 346, 44, 44), (346, 346, 47, 47), (346, 346, 50, 50), (346, 346, 53, 53)] I0 I0 := dkF_rf _ _
  have hl := lv_entry ([.ref (z + 346)]) (n := 3) (Nat.le_of_ble_eq_true rfl)
  have hgo : entryFrame m args 3 = entryFrame m ([.ref (z + 346)] : List Value).toArray 3 := by rw [ha]
  rw [hgo, lg_entry_eq]
  generalize (lg_sl ([.ref (z + 346)]) ++ List.replicate (3 - (lg_sl ([.ref (z + 346)])).length) Slot.unset).toArray = ls at hl ⊢
  have hl : lv_has ls 3 [(0, .ref (z + 346))] := hl
  have C85 : ∀ (n : Nat), ∀ (I : dkI) (H : Heap) (locs : List Loc) (ls : Array Slot) (x85_1 : Int32) (x85_2 : Int32), (6 - x85_2.toInt).toNat < n → dkW g z I H → va_S (dkA z) s.heap H locs → dkF [(346, 346, 2, 3), (346, 346, 10, 35), (346, 346, 38, 38), (346, 346, 41, 41), (346, 346, 44, 44), (346, 346, 47, 47), (346, 346, 50, 50), (346, 346, 53, 53)] I0 I → dkOk I → dkN [(-1000000, -1000000), (0, 4)] x85_1 → dkN [(0, 6)] x85_2 → lv_has ls 3 [(0, .ref (z + 346)), (1, .int x85_1), (2, .int x85_2)] → W p l e (headSpec wsX6_rings (dkR 3)).room s m args below meth c H locs 0 0 (MQ below (dkQi g z (fun r I1 => dkF [(346, 346, 2, 3), (346, 346, 10, 35), (346, 346, 38, 38), (346, 346, 41, 41), (346, 346, 44, 44), (346, 346, 47, 47), (346, 346, 50, 50), (346, 346, 53, 53)] I0 I1 ∧ dkOk I1 ∧ ((dkN [(-1000000, -1000000), (0, 4)] r ∧ dkN [(0, 0)] (I1 346 3) ∧ True)))) args s 0 0 (dkA z)) (F0 m 85 ls []) := by
    intro n
    induction n with
    | zero => intro I H locs ls x85_1 x85_2 hn; exact absurd hn (Nat.not_lt_zero _)
    | succ n ih85 =>
      intro I85_ H locs ls x85_1 x85_2 hn85 hW hS hF_85 hO k85_0 k85_1 hl
      have hF := hF_85
      refine lv_iload_n hx hb dX6_rings_85 rfl (lv_at hl 2 rfl) ?_
      refine lv_aload_n hx hb dX6_rings_86 rfl (lv_at hl 0 rfl) ?_
      refine lv_iconst (v := 5) hx hb dX6_rings_87 (by decide) ?_
      refine dk_ild (k := 346) hx hb hK (dk_at346 hW) (dkN_in (n := 54) (dkN_lit (x := 5) (5) rfl) rfl) dX6_rings_88 ?_
      refine lv_topi (fun v1 ev1 => ?_)
      have ev1 : v1 = I85_ 346 5 := ev1
      have dv1 : dkN [(0, 6)] v1 := by rw [ev1]; exact (show dkN [(0, 6)] (I85_ 346 5) from (hO 346 5))
      refine lv_icmp_ge (tgt := 118) hx hb dX6_rings_89 (by decide) (fun c2 => ?_) (fun c2 => ?_)
      ·
        refine lv_aload_n hx hb dX6_rings_118 rfl (lv_at hl 0 rfl) ?_
        refine lv_iconst (v := 3) hx hb dX6_rings_119 (by decide) ?_
        refine lv_iconst (v := 0) hx hb dX6_rings_120 (by decide) ?_
        refine dk_ist (k := 346) hx hb hK hW (fun _ => rfl) (by decide) hS (dkN_in (n := 54) (dkN_lit (x := 3) (3) rfl) rfl) dX6_rings_121 (fun I3 H3 L3 eI3 hW hS => ?_)
        have eI3 : I3 = dkU I85_ 346 3 0 := eI3
        have hO := dkO_set hO eI3 (dkN_sub (dkN_lit (x := 0) (0) rfl) rfl)
        have hF := dkF_set hF eI3 rfl
        refine lv_aload_n hx hb dX6_rings_122 rfl (lv_at hl 0 rfl) ?_
        refine lv_iconst (v := 2) hx hb dX6_rings_123 (by decide) ?_
        refine lv_dup2_11 hx hb dX6_rings_124 rfl rfl ?_
        refine dk_ild (k := 346) hx hb hK (dk_at346 hW) (dkN_in (n := 54) (dkN_lit (x := 2) (2) rfl) rfl) dX6_rings_125 ?_
        refine lv_topi (fun v4 ev4 => ?_)
        have ev4 : v4 = I3 346 2 := ev4
        refine lv_iconst (v := 1) hx hb dX6_rings_126 (by decide) ?_
        refine lv_iadd hx hb dX6_rings_127 ?_
        refine lv_topi (fun v5 ev5 => ?_)
        refine dk_ist (k := 346) hx hb hK hW (fun _ => rfl) (by decide) hS (dkN_in (n := 54) (dkN_lit (x := 2) (2) rfl) rfl) dX6_rings_128 (fun I6 H6 L6 eI6 hW hS => ?_)
        have eI6 : I6 = dkU I3 346 2 v5 := eI6
        have hO := dkO_set hO eI6 (dkN_sub (dkN_top v5) rfl)
        have hF := dkF_set hF eI6 rfl
        refine lv_iload_n hx hb dX6_rings_129 rfl (lv_at hl 1 rfl) ?_
        exact W.iret (v := x85_1) hx hb hr (fun t ht hW9 => ⟨⟨x85_1, I6, rfl, ⟨hF, hO, ⟨dkN_sub k85_0 rfl, (show dkN [(0, 0)] (I6 346 3) from dkN_sub (by rw [eI6, dkU_sn (by decide)]; exact (by rw [eI3, dkU_ss]; exact (dkN_lit (x := 0) (0) rfl))) rfl), trivial⟩⟩, dkW_eq ht hW⟩, hS.F ht⟩) hS.2.2 dX6_rings_130
      ·
        have d7 : dkN [(1, 6)] v1 := dkN_le2 1 k85_1 dv1 (dkc_nle c2) rfl
        have f8 : dkN [(1, 6)] (I85_ 346 5) := by rw [← ev1]; exact d7
        have d9 : dkN [(0, 5)] x85_2 := dkN_le1 1 k85_1 dv1 (dkc_nle c2) rfl
        refine lv_aload_n hx hb dX6_rings_92 rfl (lv_at hl 0 rfl) ?_
        refine lv_bipush (v := 36) hx hb dX6_rings_93 (by decide) ?_
        refine lv_iconst (v := 3) hx hb dX6_rings_95 (by decide) ?_
        refine lv_iload_n hx hb dX6_rings_96 rfl (lv_at hl 2 rfl) ?_
        refine lv_imul hx hb dX6_rings_97 ?_
        refine lv_topi (fun v10 ev10 => ?_)
        have dv10 : dkN [(0, 0), (3, 3), (6, 6), (9, 9), (12, 12), (15, 15)] v10 := by rw [ev10]; exact dkN_mulPt 3 (dkN_lit (x := 3) (3) rfl) d9 rfl
        refine lv_iadd hx hb dX6_rings_98 ?_
        refine lv_topi (fun v11 ev11 => ?_)
        have dv11 : dkN [(36, 36), (39, 39), (42, 42), (45, 45), (48, 48), (51, 51)] v11 := by rw [ev11]; exact dkN_add (dkN_lit (x := 36) (36) rfl) dv10 rfl
        refine lv_iconst (v := 2) hx hb dX6_rings_99 (by decide) ?_
        refine lv_iadd hx hb dX6_rings_100 ?_
        refine lv_topi (fun v12 ev12 => ?_)
        have dv12 : dkN [(38, 38), (41, 41), (44, 44), (47, 47), (50, 50), (53, 53)] v12 := by rw [ev12]; exact dkN_add dv11 (dkN_lit (x := 2) (2) rfl) rfl
        refine lv_aload_n hx hb dX6_rings_101 rfl (lv_at hl 0 rfl) ?_
        refine lv_bipush (v := 36) hx hb dX6_rings_102 (by decide) ?_
        refine lv_iconst (v := 3) hx hb dX6_rings_104 (by decide) ?_
        refine lv_iload_n hx hb dX6_rings_105 rfl (lv_at hl 2 rfl) ?_
        refine lv_imul hx hb dX6_rings_106 ?_
        refine lv_topi (fun v13 ev13 => ?_)
        have dv13 : dkN [(0, 0), (3, 3), (6, 6), (9, 9), (12, 12), (15, 15)] v13 := by rw [ev13]; exact dkN_mulPt 3 (dkN_lit (x := 3) (3) rfl) d9 rfl
        refine lv_iadd hx hb dX6_rings_107 ?_
        refine lv_topi (fun v14 ev14 => ?_)
        have dv14 : dkN [(36, 36), (39, 39), (42, 42), (45, 45), (48, 48), (51, 51)] v14 := by rw [ev14]; exact dkN_add (dkN_lit (x := 36) (36) rfl) dv13 rfl
        refine lv_iconst (v := 1) hx hb dX6_rings_108 (by decide) ?_
        refine lv_iadd hx hb dX6_rings_109 ?_
        refine lv_topi (fun v15 ev15 => ?_)
        have dv15 : dkN [(37, 37), (40, 40), (43, 43), (46, 46), (49, 49), (52, 52)] v15 := by rw [ev15]; exact dkN_add dv14 (dkN_lit (x := 1) (1) rfl) rfl
        refine dk_ild (k := 346) hx hb hK (dk_at346 hW) (dkN_in (n := 54) dv15 rfl) dX6_rings_110 ?_
        refine lv_topi (fun v16 ev16 => ?_)
        refine dk_ist (k := 346) hx hb hK hW (fun _ => rfl) (by decide) hS (dkN_in (n := 54) dv12 rfl) dX6_rings_111 (fun I17 H17 L17 eI17 hW hS => ?_)
        have hO := dkO_set hO eI17 (by rw [dkB_w (k := 346) (B := [(-2147483648, 2147483647)]) (by decide) dv12 rfl]; exact dkN_top _)
        have hF := dkF_set hF eI17 (dkIn_v dv12 rfl)
        obtain ⟨v18, ev18⟩ : ∃ y : Int32, y = x85_2 + 1 := ⟨_, rfl⟩
        have dv18 : dkN [(1, 6)] v18 := by rw [ev18]; exact dkN_add d9 (dkN_lit (x := 1) (1) rfl) rfl
        refine lv_iinc (v := v18) (lv' := [(2, .int v18), (0, .ref (z + 346)), (1, .int x85_1)]) hx hb dX6_rings_112 hl (k := 2) rfl (by rw [ev18]; rfl) (by decide) rfl (fun ls hl => ?_)
        refine lv_goto (tgt := 85) hx hb dX6_rings_115 (by decide) ?_
        exact ih85 I17 _ _ ls x85_1 v18 (dk_near hn85 (by rw [ev18]; exact dk_inc d9 rfl) (dkN_lt d9 rfl)) hW hS hF hO (dkN_sub k85_0 rfl) (dkN_sub dv18 rfl) (lv_sub hl [1, 2, 0] rfl)
  have C50 : ∀ (n : Nat), ∀ (I : dkI) (H : Heap) (locs : List Loc) (ls : Array Slot) (x50_1 : Int32) (x50_2 : Int32), (5 - x50_2.toInt).toNat < n → dkW g z I H → va_S (dkA z) s.heap H locs → dkF [(346, 346, 2, 3), (346, 346, 10, 35), (346, 346, 38, 38), (346, 346, 41, 41), (346, 346, 44, 44), (346, 346, 47, 47), (346, 346, 50, 50), (346, 346, 53, 53)] I0 I → dkOk I → dkN [(-1000000, -1000000), (0, 4)] x50_1 → dkN [(0, 5)] x50_2 → lv_has ls 3 [(0, .ref (z + 346)), (1, .int x50_1), (2, .int x50_2)] → W p l e (headSpec wsX6_rings (dkR 3)).room s m args below meth c H locs 0 0 (MQ below (dkQi g z (fun r I1 => dkF [(346, 346, 2, 3), (346, 346, 10, 35), (346, 346, 38, 38), (346, 346, 41, 41), (346, 346, 44, 44), (346, 346, 47, 47), (346, 346, 50, 50), (346, 346, 53, 53)] I0 I1 ∧ dkOk I1 ∧ ((dkN [(-1000000, -1000000), (0, 4)] r ∧ dkN [(0, 0)] (I1 346 3) ∧ True)))) args s 0 0 (dkA z)) (F0 m 50 ls []) := by
    intro n
    induction n with
    | zero => intro I H locs ls x50_1 x50_2 hn; exact absurd hn (Nat.not_lt_zero _)
    | succ n ih50 =>
      intro I50_ H locs ls x50_1 x50_2 hn50 hW hS hF_50 hO k50_0 k50_1 hl
      have hF := hF_50
      refine lv_iload_n hx hb dX6_rings_50 rfl (lv_at hl 2 rfl) ?_
      refine lv_aload_n hx hb dX6_rings_51 rfl (lv_at hl 0 rfl) ?_
      refine lv_iconst (v := 4) hx hb dX6_rings_52 (by decide) ?_
      refine dk_ild (k := 346) hx hb hK (dk_at346 hW) (dkN_in (n := 54) (dkN_lit (x := 4) (4) rfl) rfl) dX6_rings_53 ?_
      refine lv_topi (fun v19 ev19 => ?_)
      have ev19 : v19 = I50_ 346 4 := ev19
      have dv19 : dkN [(0, 5)] v19 := by rw [ev19]; exact (show dkN [(0, 5)] (I50_ 346 4) from (hO 346 4))
      refine lv_icmp_ge (tgt := 83) hx hb dX6_rings_54 (by decide) (fun c20 => ?_) (fun c20 => ?_)
      ·
        refine lv_iconst (v := 0) hx hb dX6_rings_83 (by decide) ?_
        refine lv_istore_n (lv' := [(2, .int 0), (0, .ref (z + 346)), (1, .int x50_1)]) hx hb dX6_rings_84 rfl hl (by decide) rfl (fun ls hl => ?_)
        exact C85 _ I50_ _ _ ls x50_1 0 (Nat.lt_succ_self _) hW hS hF hO (dkN_sub k50_0 rfl) (dkN_sub (dkN_lit (x := 0) (0) rfl) rfl) (lv_sub hl [1, 2, 0] rfl)
      ·
        have d21 : dkN [(1, 5)] v19 := dkN_le2 1 k50_1 dv19 (dkc_nle c20) rfl
        have f22 : dkN [(1, 5)] (I50_ 346 4) := by rw [← ev19]; exact d21
        have d23 : dkN [(0, 4)] x50_2 := dkN_le1 1 k50_1 dv19 (dkc_nle c20) rfl
        refine lv_aload_n hx hb dX6_rings_57 rfl (lv_at hl 0 rfl) ?_
        refine lv_bipush (v := 6) hx hb dX6_rings_58 (by decide) ?_
        refine lv_bipush (v := 6) hx hb dX6_rings_60 (by decide) ?_
        refine lv_iload_n hx hb dX6_rings_62 rfl (lv_at hl 2 rfl) ?_
        refine lv_imul hx hb dX6_rings_63 ?_
        refine lv_topi (fun v24 ev24 => ?_)
        have dv24 : dkN [(0, 24)] v24 := by rw [ev24]; exact dkN_mulL 6 (by decide) (dkN_lit (x := 6) (6) rfl) d23 rfl
        refine lv_iadd hx hb dX6_rings_64 ?_
        refine lv_topi (fun v25 ev25 => ?_)
        have dv25 : dkN [(6, 30)] v25 := by rw [ev25]; exact dkN_add (dkN_lit (x := 6) (6) rfl) dv24 rfl
        refine lv_iconst (v := 4) hx hb dX6_rings_65 (by decide) ?_
        refine lv_iadd hx hb dX6_rings_66 ?_
        refine lv_topi (fun v26 ev26 => ?_)
        have dv26 : dkN [(10, 34)] v26 := by rw [ev26]; exact dkN_add dv25 (dkN_lit (x := 4) (4) rfl) rfl
        refine lv_aload_n hx hb dX6_rings_67 rfl (lv_at hl 0 rfl) ?_
        refine lv_bipush (v := 6) hx hb dX6_rings_68 (by decide) ?_
        refine lv_bipush (v := 6) hx hb dX6_rings_70 (by decide) ?_
        refine lv_iload_n hx hb dX6_rings_72 rfl (lv_at hl 2 rfl) ?_
        refine lv_imul hx hb dX6_rings_73 ?_
        refine lv_topi (fun v27 ev27 => ?_)
        have dv27 : dkN [(0, 24)] v27 := by rw [ev27]; exact dkN_mulL 6 (by decide) (dkN_lit (x := 6) (6) rfl) d23 rfl
        refine lv_iadd hx hb dX6_rings_74 ?_
        refine lv_topi (fun v28 ev28 => ?_)
        have dv28 : dkN [(6, 30)] v28 := by rw [ev28]; exact dkN_add (dkN_lit (x := 6) (6) rfl) dv27 rfl
        refine dk_ild (k := 346) hx hb hK (dk_at346 hW) (dkN_in (n := 54) dv28 rfl) dX6_rings_75 ?_
        refine lv_topi (fun v29 ev29 => ?_)
        refine dk_ist (k := 346) hx hb hK hW (fun _ => rfl) (by decide) hS (dkN_in (n := 54) dv26 rfl) dX6_rings_76 (fun I30 H30 L30 eI30 hW hS => ?_)
        have hO := dkO_set hO eI30 (by rw [dkB_w (k := 346) (B := [(-2147483648, 2147483647)]) (by decide) dv26 rfl]; exact dkN_top _)
        have hF := dkF_set hF eI30 (dkIn_v dv26 rfl)
        obtain ⟨v31, ev31⟩ : ∃ y : Int32, y = x50_2 + 1 := ⟨_, rfl⟩
        have dv31 : dkN [(1, 5)] v31 := by rw [ev31]; exact dkN_add d23 (dkN_lit (x := 1) (1) rfl) rfl
        refine lv_iinc (v := v31) (lv' := [(2, .int v31), (0, .ref (z + 346)), (1, .int x50_1)]) hx hb dX6_rings_77 hl (k := 2) rfl (by rw [ev31]; rfl) (by decide) rfl (fun ls hl => ?_)
        refine lv_goto (tgt := 50) hx hb dX6_rings_80 (by decide) ?_
        exact ih50 I30 _ _ ls x50_1 v31 (dk_near hn50 (by rw [ev31]; exact dk_inc d23 rfl) (dkN_lt d23 rfl)) hW hS hF hO (dkN_sub k50_0 rfl) (dkN_sub dv31 rfl) (lv_sub hl [1, 2, 0] rfl)
  have C48 : ∀ (I : dkI) (H : Heap) (locs : List Loc) (ls : Array Slot) (x48_1 : Int32), dkW g z I H → va_S (dkA z) s.heap H locs → dkF [(346, 346, 2, 3), (346, 346, 10, 35), (346, 346, 38, 38), (346, 346, 41, 41), (346, 346, 44, 44), (346, 346, 47, 47), (346, 346, 50, 50), (346, 346, 53, 53)] I0 I → dkOk I → dkN [(-1000000, -1000000), (0, 4)] x48_1 → lv_has ls 3 [(0, .ref (z + 346)), (1, .int x48_1)] → W p l e (headSpec wsX6_rings (dkR 3)).room s m args below meth c H locs 0 0 (MQ below (dkQi g z (fun r I1 => dkF [(346, 346, 2, 3), (346, 346, 10, 35), (346, 346, 38, 38), (346, 346, 41, 41), (346, 346, 44, 44), (346, 346, 47, 47), (346, 346, 50, 50), (346, 346, 53, 53)] I0 I1 ∧ dkOk I1 ∧ ((dkN [(-1000000, -1000000), (0, 4)] r ∧ dkN [(0, 0)] (I1 346 3) ∧ True)))) args s 0 0 (dkA z)) (F0 m 48 ls []) := by
    intro I48_ H locs ls x48_1 hW hS hF_48 hO k48_0 hl
    have hF := hF_48
    refine lv_iconst (v := 0) hx hb dX6_rings_48 (by decide) ?_
    refine lv_istore_n (lv' := [(2, .int 0), (0, .ref (z + 346)), (1, .int x48_1)]) hx hb dX6_rings_49 rfl hl (by decide) rfl (fun ls hl => ?_)
    exact C50 _ I48_ _ _ ls x48_1 0 (Nat.lt_succ_self _) hW hS hF hO (dkN_sub k48_0 rfl) (dkN_sub (dkN_lit (x := 0) (0) rfl) rfl) (lv_sub hl [1, 2, 0] rfl)
  have C46 : ∀ (I : dkI) (H : Heap) (locs : List Loc) (ls : Array Slot) (x46_1 : Int32) (x46_s0 : Int32) (x46_s1 : Int32) (x46_s2 : Int32), dkW g z I H → va_S (dkA z) s.heap H locs → dkF [(346, 346, 2, 3), (346, 346, 10, 35), (346, 346, 38, 38), (346, 346, 41, 41), (346, 346, 44, 44), (346, 346, 47, 47), (346, 346, 50, 50), (346, 346, 53, 53)] I0 I → dkOk I → dkN [(0, 4)] x46_1 → dkN [(0, 1)] x46_s0 → dkN [(11, 35)] x46_s2 → lv_has ls 3 [(0, .ref (z + 346)), (1, .int x46_1)] → W p l e (headSpec wsX6_rings (dkR 3)).room s m args below meth c H locs 0 0 (MQ below (dkQi g z (fun r I1 => dkF [(346, 346, 2, 3), (346, 346, 10, 35), (346, 346, 38, 38), (346, 346, 41, 41), (346, 346, 44, 44), (346, 346, 47, 47), (346, 346, 50, 50), (346, 346, 53, 53)] I0 I1 ∧ dkOk I1 ∧ ((dkN [(-1000000, -1000000), (0, 4)] r ∧ dkN [(0, 0)] (I1 346 3) ∧ True)))) args s 0 0 (dkA z)) (F0 m 46 ls [.int x46_s0, .int x46_s1, .int x46_s2, .ref (z + 346)]) := by
    intro I46_ H locs ls x46_1 x46_s0 x46_s1 x46_s2 hW hS hF_46 hO k46_0 k46_1 k46_3 hl
    have hF := hF_46
    refine lv_iadd hx hb dX6_rings_46 ?_
    refine lv_topi (fun v32 ev32 => ?_)
    refine dk_ist (k := 346) hx hb hK hW (fun _ => rfl) (by decide) hS (dkN_in (n := 54) k46_3 rfl) dX6_rings_47 (fun I33 H33 L33 eI33 hW hS => ?_)
    have hO := dkO_set hO eI33 (by rw [dkB_w (k := 346) (B := [(-2147483648, 2147483647)]) (by decide) k46_3 rfl]; exact dkN_top _)
    have hF := dkF_set hF eI33 (dkIn_v k46_3 rfl)
    exact C48 I33 _ _ ls x46_1 hW hS hF hO (dkN_sub k46_0 rfl) (lv_sub hl [0, 1] rfl)
  refine lv_aload_n hx hb dX6_rings_0 rfl (lv_at hl 0 rfl) ?_
  refine lv_iconst (v := 0) hx hb dX6_rings_1 (by decide) ?_
  refine dk_Si (As := [.ref (z + 346), .int 0]) (rest := []) ⟨hx, hb, hml, hown, hts⟩ (c_X6_kingOf_0 l g z I0 0 (dkN_lit (x := 0) (0) rfl) hO) (va_cwS 2 hts gX6_rings_X6_kingOf rfl rfl rfl (by decide +kernel) ⟨Nat.le_of_ble_eq_true rfl, Nat.le_of_ble_eq_true rfl⟩) hK hT hW hS rfl hl.1 rfl (Nat.le_of_ble_eq_true rfl) dX6_rings_2 ⟨Nat.zero_le _, Nat.zero_le _⟩ (fun v34 I34 H34 L34 hp34 hW hS => ?_)
  obtain ⟨hF34, hO, hc34⟩ := hp34
  have hF := dkF_call hF hF34 rfl
  obtain ⟨dv34, -⟩ := hc34
  refine lv_istore_n (lv' := [(1, .int v34), (0, .ref (z + 346))]) hx hb dX6_rings_5 rfl hl (by decide) rfl (fun ls hl => ?_)
  refine lv_iload_n hx hb dX6_rings_6 rfl (lv_at hl 0 rfl) ?_
  refine lv_ldc (v := (-1000000)) hx hb hown (hts (.constant RX6 50 (-1000000)) (List.mem_of_getElem? (i := 1) rfl)) dX6_rings_7 ?_
  refine lv_icmp_eq (tgt := 48) hx hb dX6_rings_9 (by decide) (fun c35 => ?_) (fun c35 => ?_)
  ·
    have d36 : dkN [(-1000000, -1000000)] v34 := dkN_eq1 dv34 (dkN_lit (x := (-1000000)) (-1000000) rfl) (congrArg Int32.toInt c35) rfl
    exact C48 I34 _ _ ls v34 hW hS hF hO (dkN_sub d36 rfl) (lv_sub hl [1, 0] rfl)
  ·
    have d37 : dkN [(0, 4)] v34 := dkN_ne1 (-1000000) dv34 (dkN_lit (x := (-1000000)) (-1000000) rfl) (dk_ne c35) rfl
    refine lv_aload_n hx hb dX6_rings_12 rfl (lv_at hl 1 rfl) ?_
    refine lv_bipush (v := 6) hx hb dX6_rings_13 (by decide) ?_
    refine lv_bipush (v := 6) hx hb dX6_rings_15 (by decide) ?_
    refine lv_iload_n hx hb dX6_rings_17 rfl (lv_at hl 0 rfl) ?_
    refine lv_imul hx hb dX6_rings_18 ?_
    refine lv_topi (fun v38 ev38 => ?_)
    have dv38 : dkN [(0, 24)] v38 := by rw [ev38]; exact dkN_mulL 6 (by decide) (dkN_lit (x := 6) (6) rfl) d37 rfl
    refine lv_iadd hx hb dX6_rings_19 ?_
    refine lv_topi (fun v39 ev39 => ?_)
    have dv39 : dkN [(6, 30)] v39 := by rw [ev39]; exact dkN_add (dkN_lit (x := 6) (6) rfl) dv38 rfl
    refine lv_iconst (v := 5) hx hb dX6_rings_20 (by decide) ?_
    refine lv_iadd hx hb dX6_rings_21 ?_
    refine lv_topi (fun v40 ev40 => ?_)
    have dv40 : dkN [(11, 35)] v40 := by rw [ev40]; exact dkN_add dv39 (dkN_lit (x := 5) (5) rfl) rfl
    refine lv_dup2_11 hx hb dX6_rings_22 rfl rfl ?_
    refine dk_ild (k := 346) hx hb hK (dk_at346 hW) (dkN_in (n := 54) dv40 rfl) dX6_rings_23 ?_
    refine lv_topi (fun v41 ev41 => ?_)
    refine lv_aload_n hx hb dX6_rings_24 rfl (lv_at hl 1 rfl) ?_
    refine lv_bipush (v := 6) hx hb dX6_rings_25 (by decide) ?_
    refine lv_bipush (v := 6) hx hb dX6_rings_27 (by decide) ?_
    refine lv_iload_n hx hb dX6_rings_29 rfl (lv_at hl 0 rfl) ?_
    refine lv_imul hx hb dX6_rings_30 ?_
    refine lv_topi (fun v42 ev42 => ?_)
    have dv42 : dkN [(0, 24)] v42 := by rw [ev42]; exact dkN_mulL 6 (by decide) (dkN_lit (x := 6) (6) rfl) d37 rfl
    refine lv_iadd hx hb dX6_rings_31 ?_
    refine lv_topi (fun v43 ev43 => ?_)
    have dv43 : dkN [(6, 30)] v43 := by rw [ev43]; exact dkN_add (dkN_lit (x := 6) (6) rfl) dv42 rfl
    refine lv_iconst (v := 5) hx hb dX6_rings_32 (by decide) ?_
    refine lv_iadd hx hb dX6_rings_33 ?_
    refine lv_topi (fun v44 ev44 => ?_)
    have dv44 : dkN [(11, 35)] v44 := by rw [ev44]; exact dkN_add dv43 (dkN_lit (x := 5) (5) rfl) rfl
    refine dk_ild (k := 346) hx hb hK (dk_at346 hW) (dkN_in (n := 54) dv44 rfl) dX6_rings_34 ?_
    refine lv_topi (fun v45 ev45 => ?_)
    refine lv_sipush (v := 999) hx hb dX6_rings_35 (by decide) ?_
    refine lv_icmp_ge (tgt := 45) hx hb dX6_rings_38 (by decide) (fun c46 => ?_) (fun c46 => ?_)
    ·
      have d47 : dkN [(999, 2147483647)] v45 := dkN_le2 0 (dkN_lit (x := 999) (999) rfl) (dkN_top v45) (dkc_le c46) rfl
      refine lv_iconst (v := 0) hx hb dX6_rings_45 (by decide) ?_
      exact C46 I34 _ _ ls v34 0 v41 v40 hW hS hF hO (dkN_sub d37 rfl) (dkN_sub (dkN_lit (x := 0) (0) rfl) rfl) (dkN_sub dv40 rfl) (lv_sub hl [1, 0] rfl)
    ·
      have d48 : dkN [(-2147483648, 998)] v45 := dkN_le1 1 (dkN_top v45) (dkN_lit (x := 999) (999) rfl) (dkc_nle c46) rfl
      refine lv_iconst (v := 1) hx hb dX6_rings_41 (by decide) ?_
      refine lv_goto (tgt := 46) hx hb dX6_rings_42 (by decide) ?_
      exact C46 I34 _ _ ls v34 1 v41 v40 hW hS hF hO (dkN_sub d37 rfl) (dkN_sub (dkN_lit (x := 1) (1) rfl) rfl) (dkN_sub dv40 rfl) (lv_sub hl [1, 0] rfl)
set_option maxHeartbeats 4000000 in
set_option maxRecDepth 100000 in
theorem c_X6_passes_0 (l : Launch) (g : dkG) (z : Nat) (I0 : dkI)  (hO : dkOk I0) : Met l yX6_passes wsX6_passes (dkR 5) (dkPc g z [.ref (z + 346)] I0) (dkQv g z (fun I1 => dkF [(346, 346, 2, 3), (346, 346, 8, 35), (346, 346, 38, 38), (346, 346, 41, 41), (346, 346, 44, 44), (346, 346, 47, 47), (346, 346, 50, 50), (346, 346, 53, 53)] I0 I1 ∧ dkOk I1 ∧ ((True)))) 0 0 (dkA z) := by
  refine Met.ofW (cc := cX6_passes) (maxL := 1) (ret := none) (by decide) rfl ?_
  intro p e s m args below meth c s₁ B hml hv
  obtain ⟨ha, hW, hK, hT⟩ := hv
  have hx := B.exec
  have hb := B.bytes
  have hr := B.returns
  have hts := atoms_spec (ws := wsX6_passes) B.pre
  have hown : s.vm.findClass RX6 = some m.cls := findClass_of_methodNamed B.named
  have hlocks := B.notSynchronized
  have hS : va_S (dkA z) s.heap s.heap [] := va_S.rf
  have hF : dkF [(346, 346, 2, 3), (346, 346, 8, 35), (346, 346, 38, 38), (346, 346, 41, 41), (346, 346, 44, 44), (346, 346, 47, 47), (346, 346, 50, 50), (346, 346, 53, 53)] I0 I0 := dkF_rf _ _
  have hl := lv_entry ([.ref (z + 346)]) (n := 1) (Nat.le_of_ble_eq_true rfl)
  have hgo : entryFrame m args 1 = entryFrame m ([.ref (z + 346)] : List Value).toArray 1 := by rw [ha]
  rw [hgo, lg_entry_eq]
  generalize (lg_sl ([.ref (z + 346)]) ++ List.replicate (1 - (lg_sl ([.ref (z + 346)])).length) Slot.unset).toArray = ls at hl ⊢
  have hl : lv_has ls 1 [(0, .ref (z + 346))] := hl
  refine lv_aload_n hx hb dX6_passes_0 rfl (lv_at hl 0 rfl) ?_
  refine lv_iconst (v := 0) hx hb dX6_passes_1 (by decide) ?_
  refine lv_iconst (v := 0) hx hb dX6_passes_2 (by decide) ?_
  refine lv_iconst (v := 0) hx hb dX6_passes_3 (by decide) ?_
  refine dk_Sv (As := [.ref (z + 346), .int 0, .int 0, .int 0]) (rest := []) ⟨hx, hb, hml, hown, hts⟩ (c_X6_steps_0 l g z I0 0 0 0 hO) (va_cwS 4 hts gX6_passes_X6_steps rfl rfl rfl (by decide +kernel) ⟨Nat.le_of_ble_eq_true rfl, Nat.le_of_ble_eq_true rfl⟩) hK hT hW hS rfl hl.1 rfl (Nat.le_of_ble_eq_true rfl) dX6_passes_4 ⟨Nat.zero_le _, Nat.zero_le _⟩ (fun I1 H1 L1 hp1 hW hS => ?_)
  obtain ⟨hF1, hO, hi1_0, hc1⟩ := hp1
  have hF := dkF_call hF hF1 rfl
  refine lv_aload_n hx hb dX6_passes_7 rfl (lv_at hl 0 rfl) ?_
  refine lv_iconst (v := 3) hx hb dX6_passes_8 (by decide) ?_
  refine dk_ild (k := 346) hx hb hK (dk_at346 hW) (dkN_in (n := 54) (dkN_lit (x := 3) (3) rfl) rfl) dX6_passes_9 ?_
  refine lv_topi (fun v2 ev2 => ?_)
  have ev2 : v2 = I1 346 3 := ev2
  refine lv_aload_n hx hb dX6_passes_10 rfl (lv_at hl 0 rfl) ?_
  refine lv_iconst (v := 1) hx hb dX6_passes_11 (by decide) ?_
  refine dk_ild (k := 346) hx hb hK (dk_at346 hW) (dkN_in (n := 54) (dkN_lit (x := 1) (1) rfl) rfl) dX6_passes_12 ?_
  refine lv_topi (fun v3 ev3 => ?_)
  have ev3 : v3 = I1 346 1 := ev3
  have dv3 : dkN [(0, 30)] v3 := by rw [ev3]; exact (show dkN [(0, 30)] (I1 346 1) from (hO 346 1))
  refine lv_icmp_ne (tgt := 21) hx hb dX6_passes_13 (by decide) (fun c4 => ?_) (fun c4 => ?_)
  ·
    exact W.vret hx hb hr (fun t ht hW9 => ⟨⟨I1, rfl, ⟨hF, hO, trivial⟩, dkW_eq ht hW⟩, hS.F ht⟩) hS.2.2 dX6_passes_21
  ·
    have d5 : dkN [(0, 30)] v2 := dkN_eq1 (dkN_top v2) dv3 (congrArg Int32.toInt c4) rfl
    have f6 : dkN [(0, 30)] (I1 346 3) := by rw [← ev2]; exact d5
    refine lv_aload_n hx hb dX6_passes_16 rfl (lv_at hl 0 rfl) ?_
    refine dk_Si (As := [.ref (z + 346)]) (rest := []) ⟨hx, hb, hml, hown, hts⟩ (c_X6_rings_0 l g z I1 hO) (va_cwS 1 hts gX6_passes_X6_rings rfl rfl rfl (by decide +kernel) ⟨Nat.le_of_ble_eq_true rfl, Nat.le_of_ble_eq_true rfl⟩) hK hT hW hS rfl hl.1 rfl (Nat.le_of_ble_eq_true rfl) dX6_passes_17 ⟨Nat.zero_le _, Nat.zero_le _⟩ (fun v7 I7 H7 L7 hp7 hW hS => ?_)
    obtain ⟨hF7, hO, hc7⟩ := hp7
    have hF := dkF_call hF hF7 rfl
    obtain ⟨dv7, f7_346_3, -⟩ := hc7
    refine lv_pop hx hb dX6_passes_20 rfl ?_
    exact W.vret hx hb hr (fun t ht hW9 => ⟨⟨I7, rfl, ⟨hF, hO, trivial⟩, dkW_eq ht hW⟩, hS.F ht⟩) hS.2.2 dX6_passes_21
set_option maxHeartbeats 4000000 in
set_option maxRecDepth 100000 in
theorem c_X6_minutes_0 (l : Launch) (g : dkG) (z : Nat) (I0 : dkI) (p0 : Int32)  (hO : dkOk I0) (hP : dkPP I0) : Met l yX6_minutes wsX6_minutes (dkR 6) (dkPc g z [.ref (z + 340), .int p0] I0) (dkQi g z (fun r I1 => dkF [(340, 340, 17, 17), (346, 346, 2, 3), (346, 346, 8, 35), (346, 346, 38, 38), (346, 346, 41, 41), (346, 346, 44, 44), (346, 346, 47, 47), (346, 346, 50, 50), (346, 346, 53, 53), (349, 349, 0, 1295)] I0 I1 ∧ dkOk I1 ∧ dkPP I1 ∧ ((True ∧ True)))) 0 0 (dkA z) := by
  refine Met.ofW (cc := cX6_minutes) (maxL := 3) (ret := (some .int)) (by decide) rfl ?_
  intro p e s m args below meth c s₁ B hml hv
  obtain ⟨ha, hW, hK, hT⟩ := hv
  have hx := B.exec
  have hb := B.bytes
  have hr := B.returns
  have hts := atoms_spec (ws := wsX6_minutes) B.pre
  have hown : s.vm.findClass RX6 = some m.cls := findClass_of_methodNamed B.named
  have hlocks := B.notSynchronized
  have hS : va_S (dkA z) s.heap s.heap [] := va_S.rf
  have hF : dkF [(340, 340, 17, 17), (346, 346, 2, 3), (346, 346, 8, 35), (346, 346, 38, 38), (346, 346, 41, 41), (346, 346, 44, 44), (346, 346, 47, 47), (346, 346, 50, 50), (346, 346, 53, 53), (349, 349, 0, 1295)] I0 I0 := dkF_rf _ _
  have hl := lv_entry ([.ref (z + 340), .int p0]) (n := 3) (Nat.le_of_ble_eq_true rfl)
  have hgo : entryFrame m args 3 = entryFrame m ([.ref (z + 340), .int p0] : List Value).toArray 3 := by rw [ha]
  rw [hgo, lg_entry_eq]
  generalize (lg_sl ([.ref (z + 340), .int p0]) ++ List.replicate (3 - (lg_sl ([.ref (z + 340), .int p0])).length) Slot.unset).toArray = ls at hl ⊢
  have hl : lv_has ls 3 [(0, .ref (z + 340)), (1, .int p0)] := hl
  have C40 : ∀ (n : Nat), ∀ (I : dkI) (H : Heap) (locs : List Loc) (ls : Array Slot) (x40_2 : Int32), (24 - x40_2.toInt).toNat < n → dkW g z I H → va_S (dkA z) s.heap H locs → dkF [(340, 340, 17, 17), (346, 346, 2, 3), (346, 346, 8, 35), (346, 346, 38, 38), (346, 346, 41, 41), (346, 346, 44, 44), (346, 346, 47, 47), (346, 346, 50, 50), (346, 346, 53, 53), (349, 349, 0, 1295)] I0 I → dkOk I → dkPP I → dkN [(0, 24)] x40_2 → dkN [(1, 24)] p0 → dkN [(1, 9)] (I 346 0) → lv_has ls 3 [(0, .ref (z + 340)), (1, .int p0), (2, .int x40_2)] → W p l e (headSpec wsX6_minutes (dkR 6)).room s m args below meth c H locs 0 0 (MQ below (dkQi g z (fun r I1 => dkF [(340, 340, 17, 17), (346, 346, 2, 3), (346, 346, 8, 35), (346, 346, 38, 38), (346, 346, 41, 41), (346, 346, 44, 44), (346, 346, 47, 47), (346, 346, 50, 50), (346, 346, 53, 53), (349, 349, 0, 1295)] I0 I1 ∧ dkOk I1 ∧ dkPP I1 ∧ ((True ∧ True)))) args s 0 0 (dkA z)) (F0 m 40 ls []) := by
    intro n
    induction n with
    | zero => intro I H locs ls x40_2 hn; exact absurd hn (Nat.not_lt_zero _)
    | succ n ih40 =>
      intro I40_ H locs ls x40_2 hn40 hW hS hF_40 hO hP k40_0 r40_0 f40_0 hl
      have hF := hF_40
      refine lv_iload_n hx hb dX6_minutes_40 rfl (lv_at hl 2 rfl) ?_
      refine lv_iload_n hx hb dX6_minutes_41 rfl (lv_at hl 1 rfl) ?_
      refine lv_icmp_ge (tgt := 62) hx hb dX6_minutes_42 (by decide) (fun c1 => ?_) (fun c1 => ?_)
      ·
        have d2 : dkN [(1, 24)] x40_2 := dkN_le2 0 r40_0 k40_0 (dkc_le c1) rfl
        refine lv_aload_n hx hb dX6_minutes_62 rfl (lv_at hl 0 rfl) ?_
        refine dk_get (k := 340) hx hb hts iX6_minutes_6 hown hK (dk_at340 hW) rfl 13 (by decide) (hts (.fieldLink RX6 25 "DogKingsModel" "now" "[I") (List.mem_of_getElem? (i := 3) rfl)) rfl dX6_minutes_63 ?_
        refine lv_iconst (v := 2) hx hb dX6_minutes_66 (by decide) ?_
        refine dk_ild (k := 346) hx hb hK (dk_at346 hW) (dkN_in (n := 54) (dkN_lit (x := 2) (2) rfl) rfl) dX6_minutes_67 ?_
        refine lv_topi (fun v3 ev3 => ?_)
        have ev3 : v3 = I40_ 346 2 := ev3
        exact W.iret (v := v3) hx hb hr (fun t ht hW9 => ⟨⟨v3, I40_, rfl, ⟨hF, hO, hP, ⟨trivial, trivial⟩⟩, dkW_eq ht hW⟩, hS.F ht⟩) hS.2.2 dX6_minutes_68
      ·
        have d4 : dkN [(0, 23)] x40_2 := dkN_le1 1 k40_0 r40_0 (dkc_nle c1) rfl
        refine lv_aload_n hx hb dX6_minutes_45 rfl (lv_at hl 0 rfl) ?_
        refine dk_Vv (As := []) (rest := []) ⟨hx, hb, hml, hown, hts⟩ (c_X6_notes l g z I40_ hO hP) (cwV 0 hts gX6_minutes_X6_notes rfl rfl rfl (by decide +kernel) ⟨Nat.le_of_ble_eq_true rfl, Nat.le_of_ble_eq_true rfl⟩) (dk_at340 hW) rfl hK hT hW hS rfl hl.1 rfl (Nat.le_of_ble_eq_true rfl) dX6_minutes_46 ⟨Nat.zero_le _, Nat.zero_le _⟩ (fun I5 H5 L5 hp5 hW hS => ?_)
        obtain ⟨hF5, hO, hP, hc5⟩ := hp5
        have hF := dkF_call hF hF5 rfl
        obtain ⟨f5_340_17, -⟩ := hc5
        refine lv_aload_n hx hb dX6_minutes_49 rfl (lv_at hl 0 rfl) ?_
        refine dk_get (k := 340) hx hb hts iX6_minutes_6 hown hK (dk_at340 hW) rfl 13 (by decide) (hts (.fieldLink RX6 25 "DogKingsModel" "now" "[I") (List.mem_of_getElem? (i := 3) rfl)) rfl dX6_minutes_50 ?_
        refine dk_Sv (As := [.ref (z + 346)]) (rest := []) ⟨hx, hb, hml, hown, hts⟩ (c_X6_passes_0 l g z I5 hO) (va_cwS 1 hts gX6_minutes_X6_passes rfl rfl rfl (by decide +kernel) ⟨Nat.le_of_ble_eq_true rfl, Nat.le_of_ble_eq_true rfl⟩) hK hT hW hS rfl hl.1 rfl (Nat.le_of_ble_eq_true rfl) dX6_minutes_53 ⟨Nat.zero_le _, Nat.zero_le _⟩ (fun I6 H6 L6 hp6 hW hS => ?_)
        obtain ⟨hF6, hO, hc6⟩ := hp6
        have hF := dkF_call hF hF6 rfl
        have hP := dkPP_F hP hF6 rfl
        obtain ⟨v7, ev7⟩ : ∃ y : Int32, y = x40_2 + 1 := ⟨_, rfl⟩
        have dv7 : dkN [(1, 24)] v7 := by rw [ev7]; exact dkN_add d4 (dkN_lit (x := 1) (1) rfl) rfl
        refine lv_iinc (v := v7) (lv' := [(2, .int v7), (0, .ref (z + 340)), (1, .int p0)]) hx hb dX6_minutes_56 hl (k := 2) rfl (by rw [ev7]; rfl) (by decide) rfl (fun ls hl => ?_)
        refine lv_goto (tgt := 40) hx hb dX6_minutes_59 (by decide) ?_
        exact ih40 I6 _ _ ls v7 (dk_near hn40 (by rw [ev7]; exact dk_inc d4 rfl) (dkN_lt d4 rfl)) hW hS hF hO hP (dkN_sub dv7 rfl) (dkN_sub r40_0 rfl) (show dkN [(1, 9)] (I6 346 0) from dkN_sub (by rw [hF6 346 0 rfl]; exact (by rw [hF5 346 0 rfl]; exact f40_0)) rfl) (lv_sub hl [1, 2, 0] rfl)
  refine lv_aload_n hx hb dX6_minutes_0 rfl (lv_at hl 0 rfl) ?_
  refine dk_Vi (As := []) (rest := []) ⟨hx, hb, hml, hown, hts⟩ (c_X6_isTown_0 l g z I0 hO) (cwV 0 hts gX6_minutes_X6_isTown rfl rfl rfl (by decide +kernel) ⟨Nat.le_of_ble_eq_true rfl, Nat.le_of_ble_eq_true rfl⟩) (dk_at340 hW) rfl hK hT hW hS rfl hl.1 rfl (Nat.le_of_ble_eq_true rfl) dX6_minutes_1 ⟨Nat.zero_le _, Nat.zero_le _⟩ (fun v8 I8 H8 L8 hp8 hW hS => ?_)
  obtain ⟨hF8, hO, hc8⟩ := hp8
  have hF := dkF_call hF hF8 rfl
  have hP := dkPP_F hP hF8 rfl
  rcases hc8 with ⟨dv8, f8_346_0, -⟩ | hc8
  ·
    refine lv_if_ne (tgt := 10) hx hb dX6_minutes_4 (by decide) (fun c9 => ?_) (fun c9 => ?_)
    ·
      exact (dkN_nil (show dkN [] v8 from dkN_ne1 (0) dv8 (dkN_lit (x := 0) (0) rfl) (dk_ne c9) rfl)).elim
    ·
      refine lv_ldc (v := (-1000002)) hx hb hown (hts (.constant RX6 185 (-1000002)) (List.mem_of_getElem? (i := 1) rfl)) dX6_minutes_7 ?_
      exact W.iret (v := (-1000002)) hx hb hr (fun t ht hW9 => ⟨⟨(-1000002), I8, rfl, ⟨hF, hO, hP, ⟨trivial, trivial⟩⟩, dkW_eq ht hW⟩, hS.F ht⟩) hS.2.2 dX6_minutes_9
  ·
    obtain ⟨dv8, f8_346_0, -⟩ := hc8
    refine lv_if_ne (tgt := 10) hx hb dX6_minutes_4 (by decide) (fun c10 => ?_) (fun c10 => ?_)
    ·
      refine lv_iload_n hx hb dX6_minutes_10 rfl (lv_at hl 1 rfl) ?_
      refine lv_iconst (v := 1) hx hb dX6_minutes_11 (by decide) ?_
      refine lv_bipush (v := 24) hx hb dX6_minutes_12 (by decide) ?_
      refine dk_Si (As := [.int p0, .int 1, .int 24]) (rest := []) ⟨hx, hb, hml, hown, hts⟩ (c_X6_in_11 l g z I8 p0 1 24 (dkN_lit (x := 1) (1) rfl) (dkN_lit (x := 24) (24) rfl) hO) (va_cwS 3 hts gX6_minutes_X6_in rfl rfl rfl (by decide +kernel) ⟨Nat.le_of_ble_eq_true rfl, Nat.le_of_ble_eq_true rfl⟩) hK hT hW hS rfl hl.1 rfl (Nat.le_of_ble_eq_true rfl) dX6_minutes_14 ⟨Nat.zero_le _, Nat.zero_le _⟩ (fun v11 I11 H11 L11 hp11 hW hS => ?_)
      obtain ⟨hF11, hO, hc11⟩ := hp11
      have hF := dkF_call hF hF11 rfl
      have hP := dkPP_F hP hF11 rfl
      rcases hc11 with ⟨dv11, a11_0, -⟩ | hc11
      ·
        have d12 : dkN [(-2147483648, 0), (25, 2147483647)] p0 := dkN_eq1 (dkN_top p0) a11_0 rfl rfl
        refine lv_if_ne (tgt := 23) hx hb dX6_minutes_17 (by decide) (fun c13 => ?_) (fun c13 => ?_)
        ·
          exact (dkN_nil (show dkN [] v11 from dkN_ne1 (0) dv11 (dkN_lit (x := 0) (0) rfl) (dk_ne c13) rfl)).elim
        ·
          refine lv_ldc (v := (-1000001)) hx hb hown (hts (.constant RX6 64 (-1000001)) (List.mem_of_getElem? (i := 2) rfl)) dX6_minutes_20 ?_
          exact W.iret (v := (-1000001)) hx hb hr (fun t ht hW9 => ⟨⟨(-1000001), I11, rfl, ⟨hF, hO, hP, ⟨trivial, trivial⟩⟩, dkW_eq ht hW⟩, hS.F ht⟩) hS.2.2 dX6_minutes_22
      ·
        obtain ⟨dv11, a11_0, -⟩ := hc11
        have d14 : dkN [(1, 24)] p0 := dkN_eq1 (dkN_top p0) a11_0 rfl rfl
        refine lv_if_ne (tgt := 23) hx hb dX6_minutes_17 (by decide) (fun c15 => ?_) (fun c15 => ?_)
        ·
          refine lv_aload_n hx hb dX6_minutes_23 rfl (lv_at hl 0 rfl) ?_
          refine dk_get (k := 340) hx hb hts iX6_minutes_6 hown hK (dk_at340 hW) rfl 13 (by decide) (hts (.fieldLink RX6 25 "DogKingsModel" "now" "[I") (List.mem_of_getElem? (i := 3) rfl)) rfl dX6_minutes_24 ?_
          refine lv_iconst (v := 2) hx hb dX6_minutes_27 (by decide) ?_
          refine dk_ild (k := 346) hx hb hK (dk_at346 hW) (dkN_in (n := 54) (dkN_lit (x := 2) (2) rfl) rfl) dX6_minutes_28 ?_
          refine lv_topi (fun v16 ev16 => ?_)
          have ev16 : v16 = I11 346 2 := ev16
          refine lv_sipush (v := 999) hx hb dX6_minutes_29 (by decide) ?_
          refine lv_icmp_lt (tgt := 38) hx hb dX6_minutes_32 (by decide) (fun c17 => ?_) (fun c17 => ?_)
          ·
            have d18 : dkN [(-2147483648, 998)] v16 := dkN_le1 1 (dkN_top v16) (dkN_lit (x := 999) (999) rfl) (dkc_lt c17) rfl
            have f19 : dkN [(-2147483648, 998)] (I11 346 2) := by rw [← ev16]; exact d18
            refine lv_iconst (v := 0) hx hb dX6_minutes_38 (by decide) ?_
            refine lv_istore_n (lv' := [(2, .int 0), (0, .ref (z + 340)), (1, .int p0)]) hx hb dX6_minutes_39 rfl hl (by decide) rfl (fun ls hl => ?_)
            exact C40 _ I11 _ _ ls 0 (Nat.lt_succ_self _) hW hS hF hO hP (dkN_sub (dkN_lit (x := 0) (0) rfl) rfl) (dkN_sub d14 rfl) (show dkN [(1, 9)] (I11 346 0) from dkN_sub (by rw [hF11 346 0 rfl]; exact f8_346_0) rfl) (lv_sub hl [1, 2, 0] rfl)
          ·
            have d20 : dkN [(999, 2147483647)] v16 := dkN_le2 0 (dkN_lit (x := 999) (999) rfl) (dkN_top v16) (dkc_nlt c17) rfl
            have f21 : dkN [(999, 2147483647)] (I11 346 2) := by rw [← ev16]; exact d20
            refine lv_ldc (v := (-1000003)) hx hb hown (hts (.constant RX6 85 (-1000003)) (List.mem_of_getElem? (i := 4) rfl)) dX6_minutes_35 ?_
            exact W.iret (v := (-1000003)) hx hb hr (fun t ht hW9 => ⟨⟨(-1000003), I11, rfl, ⟨hF, hO, hP, ⟨trivial, trivial⟩⟩, dkW_eq ht hW⟩, hS.F ht⟩) hS.2.2 dX6_minutes_37
        ·
          exact (dkN_nil (show dkN [] v11 from dkN_eq1 dv11 (dkN_lit (x := 0) (0) rfl) (congrArg Int32.toInt c15) rfl)).elim
    ·
      exact (dkN_nil (show dkN [] v8 from dkN_eq1 dv8 (dkN_lit (x := 0) (0) rfl) (congrArg Int32.toInt c10) rfl)).elim
set_option maxHeartbeats 4000000 in
set_option maxRecDepth 100000 in
theorem c_X5_isPerson_0 (l : Launch) (g : dkG) (z : Nat) (I0 : dkI) (p0 : Int32)  (hO : dkOk I0) : Met l yX5_isPerson wsX5_isPerson (dkR 0) (dkPc g z [.ref (z + 0), .int p0] I0) (dkQi g z (fun r I1 => dkF [] I0 I1 ∧ dkOk I1 ∧ ((dkN [(0, 0)] r ∧ True) ∨ (dkN [(1, 1)] r ∧ dkN [(0, 4)] p0 ∧ dkN [(1, 5)] (I1 25 4) ∧ True)))) 0 0 (dkA z) := by
  refine Met.ofW (cc := cX5_isPerson) (maxL := 2) (ret := (some .boolean)) (by decide) rfl ?_
  intro p e s m args below meth c s₁ B hml hv
  obtain ⟨ha, hW, hK, hT⟩ := hv
  have hx := B.exec
  have hb := B.bytes
  have hr := B.returns
  have hts := atoms_spec (ws := wsX5_isPerson) B.pre
  have hown : s.vm.findClass RX5 = some m.cls := findClass_of_methodNamed B.named
  have hlocks := B.notSynchronized
  have hS : va_S (dkA z) s.heap s.heap [] := va_S.rf
  have hF : dkF [] I0 I0 := dkF_rf _ _
  have hl := lv_entry ([.ref (z + 0), .int p0]) (n := 2) (Nat.le_of_ble_eq_true rfl)
  have hgo : entryFrame m args 2 = entryFrame m ([.ref (z + 0), .int p0] : List Value).toArray 2 := by rw [ha]
  rw [hgo, lg_entry_eq]
  generalize (lg_sl ([.ref (z + 0), .int p0]) ++ List.replicate (2 - (lg_sl ([.ref (z + 0), .int p0])).length) Slot.unset).toArray = ls at hl ⊢
  have hl : lv_has ls 2 [(0, .ref (z + 0)), (1, .int p0)] := hl
  refine lv_iload_n hx hb dX5_isPerson_0 rfl (lv_at hl 1 rfl) ?_
  refine lv_if_lt (tgt := 19) hx hb dX5_isPerson_1 (by decide) (fun c1 => ?_) (fun c1 => ?_)
  ·
    have d2 : dkN [(-2147483648, -1)] p0 := dkN_le1 1 (dkN_top p0) (dkN_lit (x := 0) (0) rfl) (dkc_lt c1) rfl
    refine lv_iconst (v := 0) hx hb dX5_isPerson_19 (by decide) ?_
    exact W.zret (v := 0) (ty := .boolean) hx hb hr rfl (fun t ht hW9 => ⟨⟨0, I0, rfl, ⟨hF, hO, Or.inl ⟨dkN_sub (dkN_lit (x := 0) (0) rfl) rfl, trivial⟩⟩, dkW_eq ht hW⟩, hS.F ht⟩) hS.2.2 dX5_isPerson_20
  ·
    have d3 : dkN [(0, 2147483647)] p0 := dkN_le2 0 (dkN_lit (x := 0) (0) rfl) (dkN_top p0) (dkc_nlt c1) rfl
    refine lv_iload_n hx hb dX5_isPerson_4 rfl (lv_at hl 1 rfl) ?_
    refine lv_aload_n hx hb dX5_isPerson_5 rfl (lv_at hl 0 rfl) ?_
    refine dk_get (k := 0) hx hb hts iX5_isPerson_5 hown hK (dk_at0 hW) rfl 5 (by decide) (hts (.fieldLink RX5 31 "DogKings" "now" "LDogKings$Town;") (List.mem_of_getElem? (i := 1) rfl)) rfl dX5_isPerson_6 ?_
    refine dk_get (k := 25) hx hb hts iX5_isPerson_4 hown hK (dk_at25 hW) rfl 4 (by decide) (hts (.fieldLink RX5 277 "DogKings$Town" "people" "I") (List.mem_of_getElem? (i := 2) rfl)) rfl dX5_isPerson_9 ?_
    refine lv_topi (fun v4 ev4 => ?_)
    have dv4 : dkN [(0, 5)] v4 := by rw [ev4]; exact (hO 25 4)
    refine lv_icmp_ge (tgt := 19) hx hb dX5_isPerson_12 (by decide) (fun c5 => ?_) (fun c5 => ?_)
    ·
      refine lv_iconst (v := 0) hx hb dX5_isPerson_19 (by decide) ?_
      exact W.zret (v := 0) (ty := .boolean) hx hb hr rfl (fun t ht hW9 => ⟨⟨0, I0, rfl, ⟨hF, hO, Or.inl ⟨dkN_sub (dkN_lit (x := 0) (0) rfl) rfl, trivial⟩⟩, dkW_eq ht hW⟩, hS.F ht⟩) hS.2.2 dX5_isPerson_20
    ·
      have d6 : dkN [(1, 5)] v4 := dkN_le2 1 d3 dv4 (dkc_nle c5) rfl
      have f7 : dkN [(1, 5)] (I0 25 4) := by rw [← ev4]; exact d6
      have d8 : dkN [(0, 4)] p0 := dkN_le1 1 d3 dv4 (dkc_nle c5) rfl
      refine lv_iconst (v := 1) hx hb dX5_isPerson_15 (by decide) ?_
      refine lv_goto (tgt := 20) hx hb dX5_isPerson_16 (by decide) ?_
      exact W.zret (v := 1) (ty := .boolean) hx hb hr rfl (fun t ht hW9 => ⟨⟨1, I0, rfl, ⟨hF, hO, Or.inr (⟨dkN_sub (dkN_lit (x := 1) (1) rfl) rfl, dkN_sub d8 rfl, (show dkN [(1, 5)] (I0 25 4) from dkN_sub f7 rfl), trivial⟩)⟩, dkW_eq ht hW⟩, hS.F ht⟩) hS.2.2 dX5_isPerson_20
set_option maxHeartbeats 4000000 in
set_option maxRecDepth 100000 in
theorem c_X5_isUpTo_3 (l : Launch) (g : dkG) (z : Nat) (I0 : dkI) (p0 : Int32) (p1 : Int32) (dp1 : dkN [(9, 9)] p1)  (hO : dkOk I0) : Met l yX5_isUpTo wsX5_isUpTo (dkR 0) (dkPc g z [.int p0, .int p1] I0) (dkQi g z (fun r I1 => dkF [] I0 I1 ∧ dkOk I1 ∧ ((dkN [(0, 0)] r ∧ dkN [(-2147483648, -1), (10, 2147483647)] p0 ∧ True) ∨ (dkN [(1, 1)] r ∧ dkN [(0, 9)] p0 ∧ True)))) 0 0 (dkA z) := by
  refine Met.ofW (cc := cX5_isUpTo) (maxL := 2) (ret := (some .boolean)) (by decide) rfl ?_
  intro p e s m args below meth c s₁ B hml hv
  obtain ⟨ha, hW, hK, hT⟩ := hv
  have hx := B.exec
  have hb := B.bytes
  have hr := B.returns
  have hts := atoms_spec (ws := wsX5_isUpTo) B.pre
  have hown : s.vm.findClass RX5 = some m.cls := findClass_of_methodNamed B.named
  have hlocks := B.notSynchronized
  have hS : va_S (dkA z) s.heap s.heap [] := va_S.rf
  have hF : dkF [] I0 I0 := dkF_rf _ _
  have hl := lv_entry ([.int p0, .int p1]) (n := 2) (Nat.le_of_ble_eq_true rfl)
  have hgo : entryFrame m args 2 = entryFrame m ([.int p0, .int p1] : List Value).toArray 2 := by rw [ha]
  rw [hgo, lg_entry_eq]
  generalize (lg_sl ([.int p0, .int p1]) ++ List.replicate (2 - (lg_sl ([.int p0, .int p1])).length) Slot.unset).toArray = ls at hl ⊢
  have hl : lv_has ls 2 [(0, .int p0), (1, .int p1)] := hl
  refine lv_iload_n hx hb dX5_isUpTo_0 rfl (lv_at hl 0 rfl) ?_
  refine lv_if_lt (tgt := 13) hx hb dX5_isUpTo_1 (by decide) (fun c1 => ?_) (fun c1 => ?_)
  ·
    have d2 : dkN [(-2147483648, -1)] p0 := dkN_le1 1 (dkN_top p0) (dkN_lit (x := 0) (0) rfl) (dkc_lt c1) rfl
    refine lv_iconst (v := 0) hx hb dX5_isUpTo_13 (by decide) ?_
    exact W.zret (v := 0) (ty := .boolean) hx hb hr rfl (fun t ht hW9 => ⟨⟨0, I0, rfl, ⟨hF, hO, Or.inl ⟨dkN_sub (dkN_lit (x := 0) (0) rfl) rfl, dkN_sub d2 rfl, trivial⟩⟩, dkW_eq ht hW⟩, hS.F ht⟩) hS.2.2 dX5_isUpTo_14
  ·
    have d3 : dkN [(0, 2147483647)] p0 := dkN_le2 0 (dkN_lit (x := 0) (0) rfl) (dkN_top p0) (dkc_nlt c1) rfl
    refine lv_iload_n hx hb dX5_isUpTo_4 rfl (lv_at hl 0 rfl) ?_
    refine lv_iload_n hx hb dX5_isUpTo_5 rfl (lv_at hl 1 rfl) ?_
    refine lv_icmp_gt (tgt := 13) hx hb dX5_isUpTo_6 (by decide) (fun c4 => ?_) (fun c4 => ?_)
    ·
      have d5 : dkN [(10, 2147483647)] p0 := dkN_le2 1 dp1 d3 (dkc_lt c4) rfl
      refine lv_iconst (v := 0) hx hb dX5_isUpTo_13 (by decide) ?_
      exact W.zret (v := 0) (ty := .boolean) hx hb hr rfl (fun t ht hW9 => ⟨⟨0, I0, rfl, ⟨hF, hO, Or.inl ⟨dkN_sub (dkN_lit (x := 0) (0) rfl) rfl, dkN_sub d5 rfl, trivial⟩⟩, dkW_eq ht hW⟩, hS.F ht⟩) hS.2.2 dX5_isUpTo_14
    ·
      have d6 : dkN [(0, 9)] p0 := dkN_le1 0 d3 dp1 (dkc_nlt c4) rfl
      refine lv_iconst (v := 1) hx hb dX5_isUpTo_9 (by decide) ?_
      refine lv_goto (tgt := 14) hx hb dX5_isUpTo_10 (by decide) ?_
      exact W.zret (v := 1) (ty := .boolean) hx hb hr rfl (fun t ht hW9 => ⟨⟨1, I0, rfl, ⟨hF, hO, Or.inr (⟨dkN_sub (dkN_lit (x := 1) (1) rfl) rfl, dkN_sub d6 rfl, trivial⟩)⟩, dkW_eq ht hW⟩, hS.F ht⟩) hS.2.2 dX5_isUpTo_14
set_option maxHeartbeats 4000000 in
set_option maxRecDepth 100000 in
theorem c_X5_bones_0 (l : Launch) (g : dkG) (z : Nat) (I0 : dkI) (p0 : Int32) (p1 : Int32)  (hO : dkOk I0) : Met l yX5_bones wsX5_bones (dkR 2) (dkPc g z [.ref (z + 0), .int p0, .int p1] I0) (dkQi g z (fun r I1 => dkF [(61, 324, 0, 2147483647), (29, 29, 0, 4), (59, 59, 1, 2)] I0 I1 ∧ dkOk I1 ∧ ((True ∧ True)))) 0 0 (dkA z) := by
  refine Met.ofW (cc := cX5_bones) (maxL := 4) (ret := (some .int)) (by decide) rfl ?_
  intro p e s m args below meth c s₁ B hml hv
  obtain ⟨ha, hW, hK, hT⟩ := hv
  have hx := B.exec
  have hb := B.bytes
  have hr := B.returns
  have hts := atoms_spec (ws := wsX5_bones) B.pre
  have hown : s.vm.findClass RX5 = some m.cls := findClass_of_methodNamed B.named
  have hlocks := B.notSynchronized
  have hS : va_S (dkA z) s.heap s.heap [] := va_S.rf
  have hF : dkF [(61, 324, 0, 2147483647), (29, 29, 0, 4), (59, 59, 1, 2)] I0 I0 := dkF_rf _ _
  have hl := lv_entry ([.ref (z + 0), .int p0, .int p1]) (n := 4) (Nat.le_of_ble_eq_true rfl)
  have hgo : entryFrame m args 4 = entryFrame m ([.ref (z + 0), .int p0, .int p1] : List Value).toArray 4 := by rw [ha]
  rw [hgo, lg_entry_eq]
  generalize (lg_sl ([.ref (z + 0), .int p0, .int p1]) ++ List.replicate (4 - (lg_sl ([.ref (z + 0), .int p0, .int p1])).length) Slot.unset).toArray = ls at hl ⊢
  have hl : lv_has ls 4 [(0, .ref (z + 0)), (1, .int p0), (2, .int p1)] := hl
  refine lv_aload_n hx hb dX5_bones_0 rfl (lv_at hl 0 rfl) ?_
  refine lv_iload_n hx hb dX5_bones_1 rfl (lv_at hl 1 rfl) ?_
  refine dk_Vi (As := [.int p0]) (rest := []) ⟨hx, hb, hml, hown, hts⟩ (c_X5_isPerson_0 l g z I0 p0 hO) (cwV 1 hts gX5_bones_X5_isPerson rfl rfl rfl (by decide +kernel) ⟨Nat.le_of_ble_eq_true rfl, Nat.le_of_ble_eq_true rfl⟩) (dk_at0 hW) rfl hK hT hW hS rfl hl.1 rfl (Nat.le_of_ble_eq_true rfl) dX5_bones_2 ⟨Nat.zero_le _, Nat.zero_le _⟩ (fun v1 I1 H1 L1 hp1 hW hS => ?_)
  obtain ⟨hF1, hO, hc1⟩ := hp1
  have hF := dkF_call hF hF1 rfl
  rcases hc1 with ⟨dv1, -⟩ | hc1
  ·
    refine lv_if_eq (tgt := 17) hx hb dX5_bones_5 (by decide) (fun c2 => ?_) (fun c2 => ?_)
    ·
      refine lv_ldc (v := (-1000001)) hx hb hown (hts (.constant RX5 70 (-1000001)) (List.mem_of_getElem? (i := 1) rfl)) dX5_bones_17 ?_
      exact W.iret (v := (-1000001)) hx hb hr (fun t ht hW9 => ⟨⟨(-1000001), I1, rfl, ⟨hF, hO, ⟨trivial, trivial⟩⟩, dkW_eq ht hW⟩, hS.F ht⟩) hS.2.2 dX5_bones_19
    ·
      exact (dkN_nil (show dkN [] v1 from dkN_ne1 (0) dv1 (dkN_lit (x := 0) (0) rfl) (dk_ne c2) rfl)).elim
  ·
    obtain ⟨dv1, a1_0, f1_25_4, -⟩ := hc1
    have d3 : dkN [(0, 4)] p0 := dkN_eq1 (dkN_top p0) a1_0 rfl rfl
    refine lv_if_eq (tgt := 17) hx hb dX5_bones_5 (by decide) (fun c4 => ?_) (fun c4 => ?_)
    ·
      exact (dkN_nil (show dkN [] v1 from dkN_eq1 dv1 (dkN_lit (x := 0) (0) rfl) (congrArg Int32.toInt c4) rfl)).elim
    ·
      refine lv_iload_n hx hb dX5_bones_8 rfl (lv_at hl 2 rfl) ?_
      refine lv_bipush (v := 9) hx hb dX5_bones_9 (by decide) ?_
      refine dk_Si (As := [.int p1, .int 9]) (rest := []) ⟨hx, hb, hml, hown, hts⟩ (c_X5_isUpTo_3 l g z I1 p1 9 (dkN_lit (x := 9) (9) rfl) hO) (va_cwS 2 hts gX5_bones_X5_isUpTo rfl rfl rfl (by decide +kernel) ⟨Nat.le_of_ble_eq_true rfl, Nat.le_of_ble_eq_true rfl⟩) hK hT hW hS rfl hl.1 rfl (Nat.le_of_ble_eq_true rfl) dX5_bones_11 ⟨Nat.zero_le _, Nat.zero_le _⟩ (fun v5 I5 H5 L5 hp5 hW hS => ?_)
      obtain ⟨hF5, hO, hc5⟩ := hp5
      have hF := dkF_call hF hF5 rfl
      rcases hc5 with ⟨dv5, a5_0, -⟩ | hc5
      ·
        have d6 : dkN [(-2147483648, -1), (10, 2147483647)] p1 := dkN_eq1 (dkN_top p1) a5_0 rfl rfl
        refine lv_if_ne (tgt := 20) hx hb dX5_bones_14 (by decide) (fun c7 => ?_) (fun c7 => ?_)
        ·
          exact (dkN_nil (show dkN [] v5 from dkN_ne1 (0) dv5 (dkN_lit (x := 0) (0) rfl) (dk_ne c7) rfl)).elim
        ·
          refine lv_ldc (v := (-1000001)) hx hb hown (hts (.constant RX5 70 (-1000001)) (List.mem_of_getElem? (i := 1) rfl)) dX5_bones_17 ?_
          exact W.iret (v := (-1000001)) hx hb hr (fun t ht hW9 => ⟨⟨(-1000001), I5, rfl, ⟨hF, hO, ⟨trivial, trivial⟩⟩, dkW_eq ht hW⟩, hS.F ht⟩) hS.2.2 dX5_bones_19
      ·
        obtain ⟨dv5, a5_0, -⟩ := hc5
        have d8 : dkN [(0, 9)] p1 := dkN_eq1 (dkN_top p1) a5_0 rfl rfl
        refine lv_if_ne (tgt := 20) hx hb dX5_bones_14 (by decide) (fun c9 => ?_) (fun c9 => ?_)
        ·
          refine lv_aload_n hx hb dX5_bones_20 rfl (lv_at hl 0 rfl) ?_
          refine dk_get (k := 0) hx hb hts iX5_bones_5 hown hK (dk_at0 hW) rfl 5 (by decide) (hts (.fieldLink RX5 31 "DogKings" "now" "LDogKings$Town;") (List.mem_of_getElem? (i := 2) rfl)) rfl dX5_bones_21 ?_
          refine dk_get (k := 25) hx hb hts iX5_bones_4 hown hK (dk_at25 hW) rfl 8 (by decide) (hts (.fieldLink RX5 143 "DogKings$Town" "bones" "[I") (List.mem_of_getElem? (i := 3) rfl)) rfl dX5_bones_24 ?_
          refine lv_iload_n hx hb dX5_bones_27 rfl (lv_at hl 1 rfl) ?_
          refine dk_ild (k := 29) hx hb hK (dk_at29 hW) (dkN_in (n := 5) d3 rfl) dX5_bones_28 ?_
          refine lv_topi (fun v10 ev10 => ?_)
          refine lv_istore_n (lv' := [(3, .int v10), (0, .ref (z + 0)), (1, .int p0), (2, .int p1)]) hx hb dX5_bones_29 rfl hl (by decide) rfl (fun ls hl => ?_)
          refine lv_iload_n hx hb dX5_bones_30 rfl (lv_at hl 3 rfl) ?_
          refine lv_iload_n hx hb dX5_bones_31 rfl (lv_at hl 0 rfl) ?_
          refine lv_icmp_eq (tgt := 56) hx hb dX5_bones_32 (by decide) (fun c11 => ?_) (fun c11 => ?_)
          ·
            have d12 : dkN [(0, 9)] v10 := dkN_eq1 (dkN_top v10) d8 (congrArg Int32.toInt c11).symm rfl
            refine lv_iload_n hx hb dX5_bones_56 rfl (lv_at hl 0 rfl) ?_
            exact W.iret (v := v10) hx hb hr (fun t ht hW9 => ⟨⟨v10, I5, rfl, ⟨hF, hO, ⟨trivial, trivial⟩⟩, dkW_eq ht hW⟩, hS.F ht⟩) hS.2.2 dX5_bones_57
          ·
            refine lv_aload_n hx hb dX5_bones_35 rfl (lv_at hl 1 rfl) ?_
            refine dk_get (k := 0) hx hb hts iX5_bones_5 hown hK (dk_at0 hW) rfl 7 (by decide) (hts (.fieldLink RX5 42 "DogKings" "acts" "LDogKings$Acts;") (List.mem_of_getElem? (i := 4) rfl)) rfl dX5_bones_36 ?_
            refine lv_aload_n hx hb dX5_bones_39 rfl (lv_at hl 1 rfl) ?_
            refine dk_get (k := 0) hx hb hts iX5_bones_5 hown hK (dk_at0 hW) rfl 5 (by decide) (hts (.fieldLink RX5 31 "DogKings" "now" "LDogKings$Town;") (List.mem_of_getElem? (i := 2) rfl)) rfl dX5_bones_40 ?_
            refine dk_Vv (As := [.ref (z + 25)]) (rest := []) ⟨hx, hb, hml, hown, hts⟩ (c_X0_keep_0 l g z I5 (25) (by unfold dkT; omega) hO) (cwV 1 hts gX5_bones_X0_keep rfl rfl rfl (by decide +kernel) ⟨Nat.le_of_ble_eq_true rfl, Nat.le_of_ble_eq_true rfl⟩) (dk_at59 hW) rfl hK hT hW hS rfl hl.1 rfl (Nat.le_of_ble_eq_true rfl) dX5_bones_43 ⟨Nat.zero_le _, Nat.zero_le _⟩ (fun I13 H13 L13 hp13 hW hS => ?_)
            obtain ⟨hF13, hO, hc13⟩ := hp13
            have hF := dkF_call hF hF13 rfl
            obtain ⟨f13_59_2, -⟩ := hc13
            refine lv_aload_n hx hb dX5_bones_46 rfl (lv_at hl 1 rfl) ?_
            refine dk_get (k := 0) hx hb hts iX5_bones_5 hown hK (dk_at0 hW) rfl 5 (by decide) (hts (.fieldLink RX5 31 "DogKings" "now" "LDogKings$Town;") (List.mem_of_getElem? (i := 2) rfl)) rfl dX5_bones_47 ?_
            refine dk_get (k := 25) hx hb hts iX5_bones_4 hown hK (dk_at25 hW) rfl 8 (by decide) (hts (.fieldLink RX5 143 "DogKings$Town" "bones" "[I") (List.mem_of_getElem? (i := 3) rfl)) rfl dX5_bones_50 ?_
            refine lv_iload_n hx hb dX5_bones_53 rfl (lv_at hl 2 rfl) ?_
            refine lv_iload_n hx hb dX5_bones_54 rfl (lv_at hl 3 rfl) ?_
            refine dk_ist (k := 29) hx hb hK hW (fun _ => rfl) (by decide) hS (dkN_in (n := 5) d3 rfl) dX5_bones_55 (fun I14 H14 L14 eI14 hW hS => ?_)
            have hO := dkO_set hO eI14 (dkN_sub d8 rfl)
            have hF := dkF_set hF eI14 (dkIn_v d3 rfl)
            refine lv_iload_n hx hb dX5_bones_56 rfl (lv_at hl 0 rfl) ?_
            exact W.iret (v := v10) hx hb hr (fun t ht hW9 => ⟨⟨v10, I14, rfl, ⟨hF, hO, ⟨trivial, trivial⟩⟩, dkW_eq ht hW⟩, hS.F ht⟩) hS.2.2 dX5_bones_57
        ·
          exact (dkN_nil (show dkN [] v5 from dkN_eq1 dv5 (dkN_lit (x := 0) (0) rfl) (congrArg Int32.toInt c9) rfl)).elim
set_option maxHeartbeats 4000000 in
set_option maxRecDepth 100000 in
theorem c_X6_in_12 (l : Launch) (g : dkG) (z : Nat) (I0 : dkI) (p0 : Int32) (p1 : Int32) (p2 : Int32) (dp1 : dkN [(0, 0)] p1) (dp2 : dkN [(-1, 4)] p2)  (hO : dkOk I0) : Met l yX6_in wsX6_in (dkR 0) (dkPc g z [.int p0, .int p1, .int p2] I0) (dkQi g z (fun r I1 => dkF [] I0 I1 ∧ dkOk I1 ∧ ((dkN [(0, 0)] r ∧ True) ∨ (dkN [(1, 1)] r ∧ dkN [(0, 4)] p0 ∧ dkN [(0, 4)] p2 ∧ True)))) 0 0 (dkA z) := by
  refine Met.ofW (cc := cX6_in) (maxL := 3) (ret := (some .boolean)) (by decide) rfl ?_
  intro p e s m args below meth c s₁ B hml hv
  obtain ⟨ha, hW, hK, hT⟩ := hv
  have hx := B.exec
  have hb := B.bytes
  have hr := B.returns
  have hts := atoms_spec (ws := wsX6_in) B.pre
  have hown : s.vm.findClass RX6 = some m.cls := findClass_of_methodNamed B.named
  have hlocks := B.notSynchronized
  have hS : va_S (dkA z) s.heap s.heap [] := va_S.rf
  have hF : dkF [] I0 I0 := dkF_rf _ _
  have hl := lv_entry ([.int p0, .int p1, .int p2]) (n := 3) (Nat.le_of_ble_eq_true rfl)
  have hgo : entryFrame m args 3 = entryFrame m ([.int p0, .int p1, .int p2] : List Value).toArray 3 := by rw [ha]
  rw [hgo, lg_entry_eq]
  generalize (lg_sl ([.int p0, .int p1, .int p2]) ++ List.replicate (3 - (lg_sl ([.int p0, .int p1, .int p2])).length) Slot.unset).toArray = ls at hl ⊢
  have hl : lv_has ls 3 [(0, .int p0), (1, .int p1), (2, .int p2)] := hl
  refine lv_iload_n hx hb dX6_in_0 rfl (lv_at hl 0 rfl) ?_
  refine lv_iload_n hx hb dX6_in_1 rfl (lv_at hl 1 rfl) ?_
  refine lv_icmp_lt (tgt := 14) hx hb dX6_in_2 (by decide) (fun c1 => ?_) (fun c1 => ?_)
  ·
    have d2 : dkN [(-2147483648, -1)] p0 := dkN_le1 1 (dkN_top p0) dp1 (dkc_lt c1) rfl
    refine lv_iconst (v := 0) hx hb dX6_in_14 (by decide) ?_
    exact W.zret (v := 0) (ty := .boolean) hx hb hr rfl (fun t ht hW9 => ⟨⟨0, I0, rfl, ⟨hF, hO, Or.inl ⟨dkN_sub (dkN_lit (x := 0) (0) rfl) rfl, trivial⟩⟩, dkW_eq ht hW⟩, hS.F ht⟩) hS.2.2 dX6_in_15
  ·
    have d3 : dkN [(0, 2147483647)] p0 := dkN_le2 0 dp1 (dkN_top p0) (dkc_nlt c1) rfl
    refine lv_iload_n hx hb dX6_in_5 rfl (lv_at hl 0 rfl) ?_
    refine lv_iload_n hx hb dX6_in_6 rfl (lv_at hl 2 rfl) ?_
    refine lv_icmp_gt (tgt := 14) hx hb dX6_in_7 (by decide) (fun c4 => ?_) (fun c4 => ?_)
    ·
      refine lv_iconst (v := 0) hx hb dX6_in_14 (by decide) ?_
      exact W.zret (v := 0) (ty := .boolean) hx hb hr rfl (fun t ht hW9 => ⟨⟨0, I0, rfl, ⟨hF, hO, Or.inl ⟨dkN_sub (dkN_lit (x := 0) (0) rfl) rfl, trivial⟩⟩, dkW_eq ht hW⟩, hS.F ht⟩) hS.2.2 dX6_in_15
    ·
      have d5 : dkN [(0, 4)] p2 := dkN_le2 0 d3 dp2 (dkc_nlt c4) rfl
      have d6 : dkN [(0, 4)] p0 := dkN_le1 0 d3 dp2 (dkc_nlt c4) rfl
      refine lv_iconst (v := 1) hx hb dX6_in_10 (by decide) ?_
      refine lv_goto (tgt := 15) hx hb dX6_in_11 (by decide) ?_
      exact W.zret (v := 1) (ty := .boolean) hx hb hr rfl (fun t ht hW9 => ⟨⟨1, I0, rfl, ⟨hF, hO, Or.inr (⟨dkN_sub (dkN_lit (x := 1) (1) rfl) rfl, dkN_sub d6 rfl, dkN_sub d5 rfl, trivial⟩)⟩, dkW_eq ht hW⟩, hS.F ht⟩) hS.2.2 dX6_in_15
set_option maxHeartbeats 4000000 in
set_option maxRecDepth 100000 in
theorem c_X6_isPerson_0 (l : Launch) (g : dkG) (z : Nat) (I0 : dkI) (p0 : Int32)  (hO : dkOk I0) : Met l yX6_isPerson wsX6_isPerson (dkR 1) (dkPc g z [.ref (z + 340), .int p0] I0) (dkQi g z (fun r I1 => dkF [] I0 I1 ∧ dkOk I1 ∧ ((dkN [(0, 0)] r ∧ True) ∨ (dkN [(1, 1)] r ∧ dkN [(0, 4)] p0 ∧ True)))) 0 0 (dkA z) := by
  refine Met.ofW (cc := cX6_isPerson) (maxL := 2) (ret := (some .boolean)) (by decide) rfl ?_
  intro p e s m args below meth c s₁ B hml hv
  obtain ⟨ha, hW, hK, hT⟩ := hv
  have hx := B.exec
  have hb := B.bytes
  have hr := B.returns
  have hts := atoms_spec (ws := wsX6_isPerson) B.pre
  have hown : s.vm.findClass RX6 = some m.cls := findClass_of_methodNamed B.named
  have hlocks := B.notSynchronized
  have hS : va_S (dkA z) s.heap s.heap [] := va_S.rf
  have hF : dkF [] I0 I0 := dkF_rf _ _
  have hl := lv_entry ([.ref (z + 340), .int p0]) (n := 2) (Nat.le_of_ble_eq_true rfl)
  have hgo : entryFrame m args 2 = entryFrame m ([.ref (z + 340), .int p0] : List Value).toArray 2 := by rw [ha]
  rw [hgo, lg_entry_eq]
  generalize (lg_sl ([.ref (z + 340), .int p0]) ++ List.replicate (2 - (lg_sl ([.ref (z + 340), .int p0])).length) Slot.unset).toArray = ls at hl ⊢
  have hl : lv_has ls 2 [(0, .ref (z + 340)), (1, .int p0)] := hl
  refine lv_iload_n hx hb dX6_isPerson_0 rfl (lv_at hl 1 rfl) ?_
  refine lv_iconst (v := 0) hx hb dX6_isPerson_1 (by decide) ?_
  refine lv_aload_n hx hb dX6_isPerson_2 rfl (lv_at hl 0 rfl) ?_
  refine dk_get (k := 340) hx hb hts iX6_isPerson_6 hown hK (dk_at340 hW) rfl 13 (by decide) (hts (.fieldLink RX6 25 "DogKingsModel" "now" "[I") (List.mem_of_getElem? (i := 1) rfl)) rfl dX6_isPerson_3 ?_
  refine lv_iconst (v := 4) hx hb dX6_isPerson_6 (by decide) ?_
  refine dk_ild (k := 346) hx hb hK (dk_at346 hW) (dkN_in (n := 54) (dkN_lit (x := 4) (4) rfl) rfl) dX6_isPerson_7 ?_
  refine lv_topi (fun v1 ev1 => ?_)
  have ev1 : v1 = I0 346 4 := ev1
  have dv1 : dkN [(0, 5)] v1 := by rw [ev1]; exact (show dkN [(0, 5)] (I0 346 4) from (hO 346 4))
  refine lv_iconst (v := 1) hx hb dX6_isPerson_8 (by decide) ?_
  refine lv_isub hx hb dX6_isPerson_9 ?_
  refine lv_topi (fun v2 ev2 => ?_)
  have dv2 : dkN [(-1, 4)] v2 := by rw [ev2]; exact dkN_subt dv1 (dkN_lit (x := 1) (1) rfl) rfl
  refine dk_Si (As := [.int p0, .int 0, .int v2]) (rest := []) ⟨hx, hb, hml, hown, hts⟩ (c_X6_in_12 l g z I0 p0 0 v2 (dkN_lit (x := 0) (0) rfl) dv2 hO) (va_cwS 3 hts gX6_isPerson_X6_in rfl rfl rfl (by decide +kernel) ⟨Nat.le_of_ble_eq_true rfl, Nat.le_of_ble_eq_true rfl⟩) hK hT hW hS rfl hl.1 rfl (Nat.le_of_ble_eq_true rfl) dX6_isPerson_10 ⟨Nat.zero_le _, Nat.zero_le _⟩ (fun v3 I3 H3 L3 hp3 hW hS => ?_)
  obtain ⟨hF3, hO, hc3⟩ := hp3
  have hF := dkF_call hF hF3 rfl
  rcases hc3 with ⟨dv3, -⟩ | hc3
  ·
    exact W.zret (v := v3) (ty := .boolean) hx hb hr (dkN_zr dv3 rfl) (fun t ht hW9 => ⟨⟨v3, I3, rfl, ⟨hF, hO, Or.inl ⟨dkN_sub dv3 rfl, trivial⟩⟩, dkW_eq ht hW⟩, hS.F ht⟩) hS.2.2 dX6_isPerson_13
  ·
    obtain ⟨dv3, a3_0, a3_2, -⟩ := hc3
    have d4 : dkN [(0, 4)] p0 := dkN_eq1 (dkN_top p0) a3_0 rfl rfl
    have d5 : dkN [(0, 4)] v2 := dkN_eq1 dv2 a3_2 rfl rfl
    exact W.zret (v := v3) (ty := .boolean) hx hb hr (dkN_zr dv3 rfl) (fun t ht hW9 => ⟨⟨v3, I3, rfl, ⟨hF, hO, Or.inr (⟨dkN_sub dv3 rfl, dkN_sub d4 rfl, trivial⟩)⟩, dkW_eq ht hW⟩, hS.F ht⟩) hS.2.2 dX6_isPerson_13
set_option maxHeartbeats 4000000 in
set_option maxRecDepth 100000 in
theorem c_X6_bones_0 (l : Launch) (g : dkG) (z : Nat) (I0 : dkI) (p0 : Int32) (p1 : Int32)  (hO : dkOk I0) (hP : dkPP I0) : Met l yX6_bones wsX6_bones (dkR 2) (dkPc g z [.ref (z + 340), .int p0, .int p1] I0) (dkQi g z (fun r I1 => dkF [(340, 340, 17, 17), (346, 346, 9, 33), (349, 349, 0, 1295)] I0 I1 ∧ dkOk I1 ∧ dkPP I1 ∧ ((True ∧ True)))) 0 0 (dkA z) := by
  refine Met.ofW (cc := cX6_bones) (maxL := 4) (ret := (some .int)) (by decide) rfl ?_
  intro p e s m args below meth c s₁ B hml hv
  obtain ⟨ha, hW, hK, hT⟩ := hv
  have hx := B.exec
  have hb := B.bytes
  have hr := B.returns
  have hts := atoms_spec (ws := wsX6_bones) B.pre
  have hown : s.vm.findClass RX6 = some m.cls := findClass_of_methodNamed B.named
  have hlocks := B.notSynchronized
  have hS : va_S (dkA z) s.heap s.heap [] := va_S.rf
  have hF : dkF [(340, 340, 17, 17), (346, 346, 9, 33), (349, 349, 0, 1295)] I0 I0 := dkF_rf _ _
  have hl := lv_entry ([.ref (z + 340), .int p0, .int p1]) (n := 4) (Nat.le_of_ble_eq_true rfl)
  have hgo : entryFrame m args 4 = entryFrame m ([.ref (z + 340), .int p0, .int p1] : List Value).toArray 4 := by rw [ha]
  rw [hgo, lg_entry_eq]
  generalize (lg_sl ([.ref (z + 340), .int p0, .int p1]) ++ List.replicate (4 - (lg_sl ([.ref (z + 340), .int p0, .int p1])).length) Slot.unset).toArray = ls at hl ⊢
  have hl : lv_has ls 4 [(0, .ref (z + 340)), (1, .int p0), (2, .int p1)] := hl
  refine lv_aload_n hx hb dX6_bones_0 rfl (lv_at hl 0 rfl) ?_
  refine lv_iload_n hx hb dX6_bones_1 rfl (lv_at hl 1 rfl) ?_
  refine dk_Vi (As := [.int p0]) (rest := []) ⟨hx, hb, hml, hown, hts⟩ (c_X6_isPerson_0 l g z I0 p0 hO) (cwV 1 hts gX6_bones_X6_isPerson rfl rfl rfl (by decide +kernel) ⟨Nat.le_of_ble_eq_true rfl, Nat.le_of_ble_eq_true rfl⟩) (dk_at340 hW) rfl hK hT hW hS rfl hl.1 rfl (Nat.le_of_ble_eq_true rfl) dX6_bones_2 ⟨Nat.zero_le _, Nat.zero_le _⟩ (fun v1 I1 H1 L1 hp1 hW hS => ?_)
  obtain ⟨hF1, hO, hc1⟩ := hp1
  have hF := dkF_call hF hF1 rfl
  have hP := dkPP_F hP hF1 rfl
  rcases hc1 with ⟨dv1, -⟩ | hc1
  ·
    refine lv_if_eq (tgt := 18) hx hb dX6_bones_5 (by decide) (fun c2 => ?_) (fun c2 => ?_)
    ·
      refine lv_ldc (v := (-1000001)) hx hb hown (hts (.constant RX6 64 (-1000001)) (List.mem_of_getElem? (i := 1) rfl)) dX6_bones_18 ?_
      exact W.iret (v := (-1000001)) hx hb hr (fun t ht hW9 => ⟨⟨(-1000001), I1, rfl, ⟨hF, hO, hP, ⟨trivial, trivial⟩⟩, dkW_eq ht hW⟩, hS.F ht⟩) hS.2.2 dX6_bones_20
    ·
      exact (dkN_nil (show dkN [] v1 from dkN_ne1 (0) dv1 (dkN_lit (x := 0) (0) rfl) (dk_ne c2) rfl)).elim
  ·
    obtain ⟨dv1, a1_0, -⟩ := hc1
    have d3 : dkN [(0, 4)] p0 := dkN_eq1 (dkN_top p0) a1_0 rfl rfl
    refine lv_if_eq (tgt := 18) hx hb dX6_bones_5 (by decide) (fun c4 => ?_) (fun c4 => ?_)
    ·
      exact (dkN_nil (show dkN [] v1 from dkN_eq1 dv1 (dkN_lit (x := 0) (0) rfl) (congrArg Int32.toInt c4) rfl)).elim
    ·
      refine lv_iload_n hx hb dX6_bones_8 rfl (lv_at hl 2 rfl) ?_
      refine lv_iconst (v := 0) hx hb dX6_bones_9 (by decide) ?_
      refine lv_bipush (v := 9) hx hb dX6_bones_10 (by decide) ?_
      refine dk_Si (As := [.int p1, .int 0, .int 9]) (rest := []) ⟨hx, hb, hml, hown, hts⟩ (c_X6_in_10 l g z I1 p1 0 9 (dkN_lit (x := 0) (0) rfl) (dkN_lit (x := 9) (9) rfl) hO) (va_cwS 3 hts gX6_bones_X6_in rfl rfl rfl (by decide +kernel) ⟨Nat.le_of_ble_eq_true rfl, Nat.le_of_ble_eq_true rfl⟩) hK hT hW hS rfl hl.1 rfl (Nat.le_of_ble_eq_true rfl) dX6_bones_12 ⟨Nat.zero_le _, Nat.zero_le _⟩ (fun v5 I5 H5 L5 hp5 hW hS => ?_)
      obtain ⟨hF5, hO, hc5⟩ := hp5
      have hF := dkF_call hF hF5 rfl
      have hP := dkPP_F hP hF5 rfl
      rcases hc5 with ⟨dv5, a5_0, -⟩ | hc5
      ·
        have d6 : dkN [(-2147483648, -1), (10, 2147483647)] p1 := dkN_eq1 (dkN_top p1) a5_0 rfl rfl
        refine lv_if_ne (tgt := 21) hx hb dX6_bones_15 (by decide) (fun c7 => ?_) (fun c7 => ?_)
        ·
          exact (dkN_nil (show dkN [] v5 from dkN_ne1 (0) dv5 (dkN_lit (x := 0) (0) rfl) (dk_ne c7) rfl)).elim
        ·
          refine lv_ldc (v := (-1000001)) hx hb hown (hts (.constant RX6 64 (-1000001)) (List.mem_of_getElem? (i := 1) rfl)) dX6_bones_18 ?_
          exact W.iret (v := (-1000001)) hx hb hr (fun t ht hW9 => ⟨⟨(-1000001), I5, rfl, ⟨hF, hO, hP, ⟨trivial, trivial⟩⟩, dkW_eq ht hW⟩, hS.F ht⟩) hS.2.2 dX6_bones_20
      ·
        obtain ⟨dv5, a5_0, -⟩ := hc5
        have d8 : dkN [(0, 9)] p1 := dkN_eq1 (dkN_top p1) a5_0 rfl rfl
        refine lv_if_ne (tgt := 21) hx hb dX6_bones_15 (by decide) (fun c9 => ?_) (fun c9 => ?_)
        ·
          refine lv_aload_n hx hb dX6_bones_21 rfl (lv_at hl 0 rfl) ?_
          refine dk_Vv (As := []) (rest := []) ⟨hx, hb, hml, hown, hts⟩ (c_X6_notes l g z I5 hO hP) (cwV 0 hts gX6_bones_X6_notes rfl rfl rfl (by decide +kernel) ⟨Nat.le_of_ble_eq_true rfl, Nat.le_of_ble_eq_true rfl⟩) (dk_at340 hW) rfl hK hT hW hS rfl hl.1 rfl (Nat.le_of_ble_eq_true rfl) dX6_bones_22 ⟨Nat.zero_le _, Nat.zero_le _⟩ (fun I10 H10 L10 hp10 hW hS => ?_)
          obtain ⟨hF10, hO, hP, hc10⟩ := hp10
          have hF := dkF_call hF hF10 rfl
          obtain ⟨f10_340_17, -⟩ := hc10
          refine lv_aload_n hx hb dX6_bones_25 rfl (lv_at hl 0 rfl) ?_
          refine dk_get (k := 340) hx hb hts iX6_bones_6 hown hK (dk_at340 hW) rfl 13 (by decide) (hts (.fieldLink RX6 25 "DogKingsModel" "now" "[I") (List.mem_of_getElem? (i := 2) rfl)) rfl dX6_bones_26 ?_
          refine lv_bipush (v := 6) hx hb dX6_bones_29 (by decide) ?_
          refine lv_bipush (v := 6) hx hb dX6_bones_31 (by decide) ?_
          refine lv_iload_n hx hb dX6_bones_33 rfl (lv_at hl 1 rfl) ?_
          refine lv_imul hx hb dX6_bones_34 ?_
          refine lv_topi (fun v11 ev11 => ?_)
          have dv11 : dkN [(0, 24)] v11 := by rw [ev11]; exact dkN_mulL 6 (by decide) (dkN_lit (x := 6) (6) rfl) d3 rfl
          refine lv_iadd hx hb dX6_bones_35 ?_
          refine lv_topi (fun v12 ev12 => ?_)
          have dv12 : dkN [(6, 30)] v12 := by rw [ev12]; exact dkN_add (dkN_lit (x := 6) (6) rfl) dv11 rfl
          refine lv_iconst (v := 3) hx hb dX6_bones_36 (by decide) ?_
          refine lv_iadd hx hb dX6_bones_37 ?_
          refine lv_topi (fun v13 ev13 => ?_)
          have dv13 : dkN [(9, 33)] v13 := by rw [ev13]; exact dkN_add dv12 (dkN_lit (x := 3) (3) rfl) rfl
          refine dk_ild (k := 346) hx hb hK (dk_at346 hW) (dkN_in (n := 54) dv13 rfl) dX6_bones_38 ?_
          refine lv_topi (fun v14 ev14 => ?_)
          refine lv_istore_n (lv' := [(3, .int v14), (0, .ref (z + 340)), (1, .int p0), (2, .int p1)]) hx hb dX6_bones_39 rfl hl (by decide) rfl (fun ls hl => ?_)
          refine lv_aload_n hx hb dX6_bones_40 rfl (lv_at hl 1 rfl) ?_
          refine dk_get (k := 340) hx hb hts iX6_bones_6 hown hK (dk_at340 hW) rfl 13 (by decide) (hts (.fieldLink RX6 25 "DogKingsModel" "now" "[I") (List.mem_of_getElem? (i := 2) rfl)) rfl dX6_bones_41 ?_
          refine lv_bipush (v := 6) hx hb dX6_bones_44 (by decide) ?_
          refine lv_bipush (v := 6) hx hb dX6_bones_46 (by decide) ?_
          refine lv_iload_n hx hb dX6_bones_48 rfl (lv_at hl 2 rfl) ?_
          refine lv_imul hx hb dX6_bones_49 ?_
          refine lv_topi (fun v15 ev15 => ?_)
          have dv15 : dkN [(0, 24)] v15 := by rw [ev15]; exact dkN_mulL 6 (by decide) (dkN_lit (x := 6) (6) rfl) d3 rfl
          refine lv_iadd hx hb dX6_bones_50 ?_
          refine lv_topi (fun v16 ev16 => ?_)
          have dv16 : dkN [(6, 30)] v16 := by rw [ev16]; exact dkN_add (dkN_lit (x := 6) (6) rfl) dv15 rfl
          refine lv_iconst (v := 3) hx hb dX6_bones_51 (by decide) ?_
          refine lv_iadd hx hb dX6_bones_52 ?_
          refine lv_topi (fun v17 ev17 => ?_)
          have dv17 : dkN [(9, 33)] v17 := by rw [ev17]; exact dkN_add dv16 (dkN_lit (x := 3) (3) rfl) rfl
          refine lv_iload_n hx hb dX6_bones_53 rfl (lv_at hl 3 rfl) ?_
          refine dk_ist (k := 346) hx hb hK hW (fun _ => rfl) (by decide) hS (dkN_in (n := 54) dv17 rfl) dX6_bones_54 (fun I18 H18 L18 eI18 hW hS => ?_)
          have hO := dkO_set hO eI18 (by rw [dkB_w (k := 346) (B := [(-2147483648, 2147483647)]) (by decide) dv17 rfl]; exact dkN_top _)
          have hF := dkF_set hF eI18 (dkIn_v dv17 rfl)
          have hP := dkPP_set hP eI18 (dkPPb_v dv17 rfl)
          refine lv_iload_n hx hb dX6_bones_55 rfl (lv_at hl 0 rfl) ?_
          exact W.iret (v := v14) hx hb hr (fun t ht hW9 => ⟨⟨v14, I18, rfl, ⟨hF, hO, hP, ⟨trivial, trivial⟩⟩, dkW_eq ht hW⟩, hS.F ht⟩) hS.2.2 dX6_bones_56
        ·
          exact (dkN_nil (show dkN [] v5 from dkN_eq1 dv5 (dkN_lit (x := 0) (0) rfl) (congrArg Int32.toInt c9) rfl)).elim
set_option maxHeartbeats 4000000 in
set_option maxRecDepth 100000 in
theorem c_X5_walk_0 (l : Launch) (g : dkG) (z : Nat) (I0 : dkI) (p0 : Int32) (p1 : Int32)  (hO : dkOk I0) : Met l yX5_walk wsX5_walk (dkR 2) (dkPc g z [.ref (z + 0), .int p0, .int p1] I0) (dkQi g z (fun r I1 => dkF [(61, 324, 0, 2147483647), (30, 30, 0, 4), (59, 59, 1, 2)] I0 I1 ∧ dkOk I1 ∧ ((True ∧ True)))) 0 0 (dkA z) := by
  refine Met.ofW (cc := cX5_walk) (maxL := 4) (ret := (some .int)) (by decide) rfl ?_
  intro p e s m args below meth c s₁ B hml hv
  obtain ⟨ha, hW, hK, hT⟩ := hv
  have hx := B.exec
  have hb := B.bytes
  have hr := B.returns
  have hts := atoms_spec (ws := wsX5_walk) B.pre
  have hown : s.vm.findClass RX5 = some m.cls := findClass_of_methodNamed B.named
  have hlocks := B.notSynchronized
  have hS : va_S (dkA z) s.heap s.heap [] := va_S.rf
  have hF : dkF [(61, 324, 0, 2147483647), (30, 30, 0, 4), (59, 59, 1, 2)] I0 I0 := dkF_rf _ _
  have hl := lv_entry ([.ref (z + 0), .int p0, .int p1]) (n := 4) (Nat.le_of_ble_eq_true rfl)
  have hgo : entryFrame m args 4 = entryFrame m ([.ref (z + 0), .int p0, .int p1] : List Value).toArray 4 := by rw [ha]
  rw [hgo, lg_entry_eq]
  generalize (lg_sl ([.ref (z + 0), .int p0, .int p1]) ++ List.replicate (4 - (lg_sl ([.ref (z + 0), .int p0, .int p1])).length) Slot.unset).toArray = ls at hl ⊢
  have hl : lv_has ls 4 [(0, .ref (z + 0)), (1, .int p0), (2, .int p1)] := hl
  refine lv_aload_n hx hb dX5_walk_0 rfl (lv_at hl 0 rfl) ?_
  refine lv_iload_n hx hb dX5_walk_1 rfl (lv_at hl 1 rfl) ?_
  refine dk_Vi (As := [.int p0]) (rest := []) ⟨hx, hb, hml, hown, hts⟩ (c_X5_isPerson_0 l g z I0 p0 hO) (cwV 1 hts gX5_walk_X5_isPerson rfl rfl rfl (by decide +kernel) ⟨Nat.le_of_ble_eq_true rfl, Nat.le_of_ble_eq_true rfl⟩) (dk_at0 hW) rfl hK hT hW hS rfl hl.1 rfl (Nat.le_of_ble_eq_true rfl) dX5_walk_2 ⟨Nat.zero_le _, Nat.zero_le _⟩ (fun v1 I1 H1 L1 hp1 hW hS => ?_)
  obtain ⟨hF1, hO, hc1⟩ := hp1
  have hF := dkF_call hF hF1 rfl
  rcases hc1 with ⟨dv1, -⟩ | hc1
  ·
    refine lv_if_eq (tgt := 16) hx hb dX5_walk_5 (by decide) (fun c2 => ?_) (fun c2 => ?_)
    ·
      refine lv_ldc (v := (-1000001)) hx hb hown (hts (.constant RX5 70 (-1000001)) (List.mem_of_getElem? (i := 1) rfl)) dX5_walk_16 ?_
      exact W.iret (v := (-1000001)) hx hb hr (fun t ht hW9 => ⟨⟨(-1000001), I1, rfl, ⟨hF, hO, ⟨trivial, trivial⟩⟩, dkW_eq ht hW⟩, hS.F ht⟩) hS.2.2 dX5_walk_18
    ·
      exact (dkN_nil (show dkN [] v1 from dkN_ne1 (0) dv1 (dkN_lit (x := 0) (0) rfl) (dk_ne c2) rfl)).elim
  ·
    obtain ⟨dv1, a1_0, f1_25_4, -⟩ := hc1
    have d3 : dkN [(0, 4)] p0 := dkN_eq1 (dkN_top p0) a1_0 rfl rfl
    refine lv_if_eq (tgt := 16) hx hb dX5_walk_5 (by decide) (fun c4 => ?_) (fun c4 => ?_)
    ·
      exact (dkN_nil (show dkN [] v1 from dkN_eq1 dv1 (dkN_lit (x := 0) (0) rfl) (congrArg Int32.toInt c4) rfl)).elim
    ·
      refine lv_iload_n hx hb dX5_walk_8 rfl (lv_at hl 2 rfl) ?_
      refine lv_iconst (v := 2) hx hb dX5_walk_9 (by decide) ?_
      refine dk_Si (As := [.int p1, .int 2]) (rest := []) ⟨hx, hb, hml, hown, hts⟩ (c_X5_isUpTo_1 l g z I1 p1 2 (dkN_lit (x := 2) (2) rfl) hO) (va_cwS 2 hts gX5_walk_X5_isUpTo rfl rfl rfl (by decide +kernel) ⟨Nat.le_of_ble_eq_true rfl, Nat.le_of_ble_eq_true rfl⟩) hK hT hW hS rfl hl.1 rfl (Nat.le_of_ble_eq_true rfl) dX5_walk_10 ⟨Nat.zero_le _, Nat.zero_le _⟩ (fun v5 I5 H5 L5 hp5 hW hS => ?_)
      obtain ⟨hF5, hO, hc5⟩ := hp5
      have hF := dkF_call hF hF5 rfl
      rcases hc5 with ⟨dv5, a5_0, -⟩ | hc5
      ·
        have d6 : dkN [(-2147483648, -1), (3, 2147483647)] p1 := dkN_eq1 (dkN_top p1) a5_0 rfl rfl
        refine lv_if_ne (tgt := 19) hx hb dX5_walk_13 (by decide) (fun c7 => ?_) (fun c7 => ?_)
        ·
          exact (dkN_nil (show dkN [] v5 from dkN_ne1 (0) dv5 (dkN_lit (x := 0) (0) rfl) (dk_ne c7) rfl)).elim
        ·
          refine lv_ldc (v := (-1000001)) hx hb hown (hts (.constant RX5 70 (-1000001)) (List.mem_of_getElem? (i := 1) rfl)) dX5_walk_16 ?_
          exact W.iret (v := (-1000001)) hx hb hr (fun t ht hW9 => ⟨⟨(-1000001), I5, rfl, ⟨hF, hO, ⟨trivial, trivial⟩⟩, dkW_eq ht hW⟩, hS.F ht⟩) hS.2.2 dX5_walk_18
      ·
        obtain ⟨dv5, a5_0, -⟩ := hc5
        have d8 : dkN [(0, 2)] p1 := dkN_eq1 (dkN_top p1) a5_0 rfl rfl
        refine lv_if_ne (tgt := 19) hx hb dX5_walk_13 (by decide) (fun c9 => ?_) (fun c9 => ?_)
        ·
          refine lv_aload_n hx hb dX5_walk_19 rfl (lv_at hl 0 rfl) ?_
          refine dk_get (k := 0) hx hb hts iX5_walk_5 hown hK (dk_at0 hW) rfl 5 (by decide) (hts (.fieldLink RX5 31 "DogKings" "now" "LDogKings$Town;") (List.mem_of_getElem? (i := 2) rfl)) rfl dX5_walk_20 ?_
          refine dk_get (k := 25) hx hb hts iX5_walk_4 hown hK (dk_at25 hW) rfl 9 (by decide) (hts (.fieldLink RX5 146 "DogKings$Town" "gait" "[I") (List.mem_of_getElem? (i := 3) rfl)) rfl dX5_walk_23 ?_
          refine lv_iload_n hx hb dX5_walk_26 rfl (lv_at hl 1 rfl) ?_
          refine dk_ild (k := 30) hx hb hK (dk_at30 hW) (dkN_in (n := 5) d3 rfl) dX5_walk_27 ?_
          refine lv_topi (fun v10 ev10 => ?_)
          refine lv_istore_n (lv' := [(3, .int v10), (0, .ref (z + 0)), (1, .int p0), (2, .int p1)]) hx hb dX5_walk_28 rfl hl (by decide) rfl (fun ls hl => ?_)
          refine lv_iload_n hx hb dX5_walk_29 rfl (lv_at hl 3 rfl) ?_
          refine lv_iload_n hx hb dX5_walk_30 rfl (lv_at hl 0 rfl) ?_
          refine lv_icmp_eq (tgt := 55) hx hb dX5_walk_31 (by decide) (fun c11 => ?_) (fun c11 => ?_)
          ·
            have d12 : dkN [(0, 2)] v10 := dkN_eq1 (dkN_top v10) d8 (congrArg Int32.toInt c11).symm rfl
            refine lv_iload_n hx hb dX5_walk_55 rfl (lv_at hl 0 rfl) ?_
            exact W.iret (v := v10) hx hb hr (fun t ht hW9 => ⟨⟨v10, I5, rfl, ⟨hF, hO, ⟨trivial, trivial⟩⟩, dkW_eq ht hW⟩, hS.F ht⟩) hS.2.2 dX5_walk_56
          ·
            refine lv_aload_n hx hb dX5_walk_34 rfl (lv_at hl 1 rfl) ?_
            refine dk_get (k := 0) hx hb hts iX5_walk_5 hown hK (dk_at0 hW) rfl 7 (by decide) (hts (.fieldLink RX5 42 "DogKings" "acts" "LDogKings$Acts;") (List.mem_of_getElem? (i := 4) rfl)) rfl dX5_walk_35 ?_
            refine lv_aload_n hx hb dX5_walk_38 rfl (lv_at hl 1 rfl) ?_
            refine dk_get (k := 0) hx hb hts iX5_walk_5 hown hK (dk_at0 hW) rfl 5 (by decide) (hts (.fieldLink RX5 31 "DogKings" "now" "LDogKings$Town;") (List.mem_of_getElem? (i := 2) rfl)) rfl dX5_walk_39 ?_
            refine dk_Vv (As := [.ref (z + 25)]) (rest := []) ⟨hx, hb, hml, hown, hts⟩ (c_X0_keep_0 l g z I5 (25) (by unfold dkT; omega) hO) (cwV 1 hts gX5_walk_X0_keep rfl rfl rfl (by decide +kernel) ⟨Nat.le_of_ble_eq_true rfl, Nat.le_of_ble_eq_true rfl⟩) (dk_at59 hW) rfl hK hT hW hS rfl hl.1 rfl (Nat.le_of_ble_eq_true rfl) dX5_walk_42 ⟨Nat.zero_le _, Nat.zero_le _⟩ (fun I13 H13 L13 hp13 hW hS => ?_)
            obtain ⟨hF13, hO, hc13⟩ := hp13
            have hF := dkF_call hF hF13 rfl
            obtain ⟨f13_59_2, -⟩ := hc13
            refine lv_aload_n hx hb dX5_walk_45 rfl (lv_at hl 1 rfl) ?_
            refine dk_get (k := 0) hx hb hts iX5_walk_5 hown hK (dk_at0 hW) rfl 5 (by decide) (hts (.fieldLink RX5 31 "DogKings" "now" "LDogKings$Town;") (List.mem_of_getElem? (i := 2) rfl)) rfl dX5_walk_46 ?_
            refine dk_get (k := 25) hx hb hts iX5_walk_4 hown hK (dk_at25 hW) rfl 9 (by decide) (hts (.fieldLink RX5 146 "DogKings$Town" "gait" "[I") (List.mem_of_getElem? (i := 3) rfl)) rfl dX5_walk_49 ?_
            refine lv_iload_n hx hb dX5_walk_52 rfl (lv_at hl 2 rfl) ?_
            refine lv_iload_n hx hb dX5_walk_53 rfl (lv_at hl 3 rfl) ?_
            refine dk_ist (k := 30) hx hb hK hW (fun _ => rfl) (by decide) hS (dkN_in (n := 5) d3 rfl) dX5_walk_54 (fun I14 H14 L14 eI14 hW hS => ?_)
            have hO := dkO_set hO eI14 (dkN_sub d8 rfl)
            have hF := dkF_set hF eI14 (dkIn_v d3 rfl)
            refine lv_iload_n hx hb dX5_walk_55 rfl (lv_at hl 0 rfl) ?_
            exact W.iret (v := v10) hx hb hr (fun t ht hW9 => ⟨⟨v10, I14, rfl, ⟨hF, hO, ⟨trivial, trivial⟩⟩, dkW_eq ht hW⟩, hS.F ht⟩) hS.2.2 dX5_walk_56
        ·
          exact (dkN_nil (show dkN [] v5 from dkN_eq1 dv5 (dkN_lit (x := 0) (0) rfl) (congrArg Int32.toInt c9) rfl)).elim
set_option maxHeartbeats 4000000 in
set_option maxRecDepth 100000 in
theorem c_X6_walk_0 (l : Launch) (g : dkG) (z : Nat) (I0 : dkI) (p0 : Int32) (p1 : Int32)  (hO : dkOk I0) (hP : dkPP I0) : Met l yX6_walk wsX6_walk (dkR 2) (dkPc g z [.ref (z + 340), .int p0, .int p1] I0) (dkQi g z (fun r I1 => dkF [(340, 340, 17, 17), (346, 346, 8, 32), (349, 349, 0, 1295)] I0 I1 ∧ dkOk I1 ∧ dkPP I1 ∧ ((True ∧ True)))) 0 0 (dkA z) := by
  refine Met.ofW (cc := cX6_walk) (maxL := 4) (ret := (some .int)) (by decide) rfl ?_
  intro p e s m args below meth c s₁ B hml hv
  obtain ⟨ha, hW, hK, hT⟩ := hv
  have hx := B.exec
  have hb := B.bytes
  have hr := B.returns
  have hts := atoms_spec (ws := wsX6_walk) B.pre
  have hown : s.vm.findClass RX6 = some m.cls := findClass_of_methodNamed B.named
  have hlocks := B.notSynchronized
  have hS : va_S (dkA z) s.heap s.heap [] := va_S.rf
  have hF : dkF [(340, 340, 17, 17), (346, 346, 8, 32), (349, 349, 0, 1295)] I0 I0 := dkF_rf _ _
  have hl := lv_entry ([.ref (z + 340), .int p0, .int p1]) (n := 4) (Nat.le_of_ble_eq_true rfl)
  have hgo : entryFrame m args 4 = entryFrame m ([.ref (z + 340), .int p0, .int p1] : List Value).toArray 4 := by rw [ha]
  rw [hgo, lg_entry_eq]
  generalize (lg_sl ([.ref (z + 340), .int p0, .int p1]) ++ List.replicate (4 - (lg_sl ([.ref (z + 340), .int p0, .int p1])).length) Slot.unset).toArray = ls at hl ⊢
  have hl : lv_has ls 4 [(0, .ref (z + 340)), (1, .int p0), (2, .int p1)] := hl
  refine lv_aload_n hx hb dX6_walk_0 rfl (lv_at hl 0 rfl) ?_
  refine lv_iload_n hx hb dX6_walk_1 rfl (lv_at hl 1 rfl) ?_
  refine dk_Vi (As := [.int p0]) (rest := []) ⟨hx, hb, hml, hown, hts⟩ (c_X6_isPerson_0 l g z I0 p0 hO) (cwV 1 hts gX6_walk_X6_isPerson rfl rfl rfl (by decide +kernel) ⟨Nat.le_of_ble_eq_true rfl, Nat.le_of_ble_eq_true rfl⟩) (dk_at340 hW) rfl hK hT hW hS rfl hl.1 rfl (Nat.le_of_ble_eq_true rfl) dX6_walk_2 ⟨Nat.zero_le _, Nat.zero_le _⟩ (fun v1 I1 H1 L1 hp1 hW hS => ?_)
  obtain ⟨hF1, hO, hc1⟩ := hp1
  have hF := dkF_call hF hF1 rfl
  have hP := dkPP_F hP hF1 rfl
  rcases hc1 with ⟨dv1, -⟩ | hc1
  ·
    refine lv_if_eq (tgt := 17) hx hb dX6_walk_5 (by decide) (fun c2 => ?_) (fun c2 => ?_)
    ·
      refine lv_ldc (v := (-1000001)) hx hb hown (hts (.constant RX6 64 (-1000001)) (List.mem_of_getElem? (i := 1) rfl)) dX6_walk_17 ?_
      exact W.iret (v := (-1000001)) hx hb hr (fun t ht hW9 => ⟨⟨(-1000001), I1, rfl, ⟨hF, hO, hP, ⟨trivial, trivial⟩⟩, dkW_eq ht hW⟩, hS.F ht⟩) hS.2.2 dX6_walk_19
    ·
      exact (dkN_nil (show dkN [] v1 from dkN_ne1 (0) dv1 (dkN_lit (x := 0) (0) rfl) (dk_ne c2) rfl)).elim
  ·
    obtain ⟨dv1, a1_0, -⟩ := hc1
    have d3 : dkN [(0, 4)] p0 := dkN_eq1 (dkN_top p0) a1_0 rfl rfl
    refine lv_if_eq (tgt := 17) hx hb dX6_walk_5 (by decide) (fun c4 => ?_) (fun c4 => ?_)
    ·
      exact (dkN_nil (show dkN [] v1 from dkN_eq1 dv1 (dkN_lit (x := 0) (0) rfl) (congrArg Int32.toInt c4) rfl)).elim
    ·
      refine lv_iload_n hx hb dX6_walk_8 rfl (lv_at hl 2 rfl) ?_
      refine lv_iconst (v := 0) hx hb dX6_walk_9 (by decide) ?_
      refine lv_iconst (v := 2) hx hb dX6_walk_10 (by decide) ?_
      refine dk_Si (As := [.int p1, .int 0, .int 2]) (rest := []) ⟨hx, hb, hml, hown, hts⟩ (c_X6_in_1 l g z I1 p1 0 2 (dkN_lit (x := 0) (0) rfl) (dkN_lit (x := 2) (2) rfl) hO) (va_cwS 3 hts gX6_walk_X6_in rfl rfl rfl (by decide +kernel) ⟨Nat.le_of_ble_eq_true rfl, Nat.le_of_ble_eq_true rfl⟩) hK hT hW hS rfl hl.1 rfl (Nat.le_of_ble_eq_true rfl) dX6_walk_11 ⟨Nat.zero_le _, Nat.zero_le _⟩ (fun v5 I5 H5 L5 hp5 hW hS => ?_)
      obtain ⟨hF5, hO, hc5⟩ := hp5
      have hF := dkF_call hF hF5 rfl
      have hP := dkPP_F hP hF5 rfl
      rcases hc5 with ⟨dv5, a5_0, -⟩ | hc5
      ·
        have d6 : dkN [(-2147483648, -1), (3, 2147483647)] p1 := dkN_eq1 (dkN_top p1) a5_0 rfl rfl
        refine lv_if_ne (tgt := 20) hx hb dX6_walk_14 (by decide) (fun c7 => ?_) (fun c7 => ?_)
        ·
          exact (dkN_nil (show dkN [] v5 from dkN_ne1 (0) dv5 (dkN_lit (x := 0) (0) rfl) (dk_ne c7) rfl)).elim
        ·
          refine lv_ldc (v := (-1000001)) hx hb hown (hts (.constant RX6 64 (-1000001)) (List.mem_of_getElem? (i := 1) rfl)) dX6_walk_17 ?_
          exact W.iret (v := (-1000001)) hx hb hr (fun t ht hW9 => ⟨⟨(-1000001), I5, rfl, ⟨hF, hO, hP, ⟨trivial, trivial⟩⟩, dkW_eq ht hW⟩, hS.F ht⟩) hS.2.2 dX6_walk_19
      ·
        obtain ⟨dv5, a5_0, -⟩ := hc5
        have d8 : dkN [(0, 2)] p1 := dkN_eq1 (dkN_top p1) a5_0 rfl rfl
        refine lv_if_ne (tgt := 20) hx hb dX6_walk_14 (by decide) (fun c9 => ?_) (fun c9 => ?_)
        ·
          refine lv_aload_n hx hb dX6_walk_20 rfl (lv_at hl 0 rfl) ?_
          refine dk_Vv (As := []) (rest := []) ⟨hx, hb, hml, hown, hts⟩ (c_X6_notes l g z I5 hO hP) (cwV 0 hts gX6_walk_X6_notes rfl rfl rfl (by decide +kernel) ⟨Nat.le_of_ble_eq_true rfl, Nat.le_of_ble_eq_true rfl⟩) (dk_at340 hW) rfl hK hT hW hS rfl hl.1 rfl (Nat.le_of_ble_eq_true rfl) dX6_walk_21 ⟨Nat.zero_le _, Nat.zero_le _⟩ (fun I10 H10 L10 hp10 hW hS => ?_)
          obtain ⟨hF10, hO, hP, hc10⟩ := hp10
          have hF := dkF_call hF hF10 rfl
          obtain ⟨f10_340_17, -⟩ := hc10
          refine lv_aload_n hx hb dX6_walk_24 rfl (lv_at hl 0 rfl) ?_
          refine dk_get (k := 340) hx hb hts iX6_walk_6 hown hK (dk_at340 hW) rfl 13 (by decide) (hts (.fieldLink RX6 25 "DogKingsModel" "now" "[I") (List.mem_of_getElem? (i := 2) rfl)) rfl dX6_walk_25 ?_
          refine lv_bipush (v := 6) hx hb dX6_walk_28 (by decide) ?_
          refine lv_bipush (v := 6) hx hb dX6_walk_30 (by decide) ?_
          refine lv_iload_n hx hb dX6_walk_32 rfl (lv_at hl 1 rfl) ?_
          refine lv_imul hx hb dX6_walk_33 ?_
          refine lv_topi (fun v11 ev11 => ?_)
          have dv11 : dkN [(0, 24)] v11 := by rw [ev11]; exact dkN_mulL 6 (by decide) (dkN_lit (x := 6) (6) rfl) d3 rfl
          refine lv_iadd hx hb dX6_walk_34 ?_
          refine lv_topi (fun v12 ev12 => ?_)
          have dv12 : dkN [(6, 30)] v12 := by rw [ev12]; exact dkN_add (dkN_lit (x := 6) (6) rfl) dv11 rfl
          refine lv_iconst (v := 2) hx hb dX6_walk_35 (by decide) ?_
          refine lv_iadd hx hb dX6_walk_36 ?_
          refine lv_topi (fun v13 ev13 => ?_)
          have dv13 : dkN [(8, 32)] v13 := by rw [ev13]; exact dkN_add dv12 (dkN_lit (x := 2) (2) rfl) rfl
          refine dk_ild (k := 346) hx hb hK (dk_at346 hW) (dkN_in (n := 54) dv13 rfl) dX6_walk_37 ?_
          refine lv_topi (fun v14 ev14 => ?_)
          refine lv_istore_n (lv' := [(3, .int v14), (0, .ref (z + 340)), (1, .int p0), (2, .int p1)]) hx hb dX6_walk_38 rfl hl (by decide) rfl (fun ls hl => ?_)
          refine lv_aload_n hx hb dX6_walk_39 rfl (lv_at hl 1 rfl) ?_
          refine dk_get (k := 340) hx hb hts iX6_walk_6 hown hK (dk_at340 hW) rfl 13 (by decide) (hts (.fieldLink RX6 25 "DogKingsModel" "now" "[I") (List.mem_of_getElem? (i := 2) rfl)) rfl dX6_walk_40 ?_
          refine lv_bipush (v := 6) hx hb dX6_walk_43 (by decide) ?_
          refine lv_bipush (v := 6) hx hb dX6_walk_45 (by decide) ?_
          refine lv_iload_n hx hb dX6_walk_47 rfl (lv_at hl 2 rfl) ?_
          refine lv_imul hx hb dX6_walk_48 ?_
          refine lv_topi (fun v15 ev15 => ?_)
          have dv15 : dkN [(0, 24)] v15 := by rw [ev15]; exact dkN_mulL 6 (by decide) (dkN_lit (x := 6) (6) rfl) d3 rfl
          refine lv_iadd hx hb dX6_walk_49 ?_
          refine lv_topi (fun v16 ev16 => ?_)
          have dv16 : dkN [(6, 30)] v16 := by rw [ev16]; exact dkN_add (dkN_lit (x := 6) (6) rfl) dv15 rfl
          refine lv_iconst (v := 2) hx hb dX6_walk_50 (by decide) ?_
          refine lv_iadd hx hb dX6_walk_51 ?_
          refine lv_topi (fun v17 ev17 => ?_)
          have dv17 : dkN [(8, 32)] v17 := by rw [ev17]; exact dkN_add dv16 (dkN_lit (x := 2) (2) rfl) rfl
          refine lv_iload_n hx hb dX6_walk_52 rfl (lv_at hl 3 rfl) ?_
          refine dk_ist (k := 346) hx hb hK hW (fun _ => rfl) (by decide) hS (dkN_in (n := 54) dv17 rfl) dX6_walk_53 (fun I18 H18 L18 eI18 hW hS => ?_)
          have hO := dkO_set hO eI18 (by rw [dkB_w (k := 346) (B := [(-2147483648, 2147483647)]) (by decide) dv17 rfl]; exact dkN_top _)
          have hF := dkF_set hF eI18 (dkIn_v dv17 rfl)
          have hP := dkPP_set hP eI18 (dkPPb_v dv17 rfl)
          refine lv_iload_n hx hb dX6_walk_54 rfl (lv_at hl 0 rfl) ?_
          exact W.iret (v := v14) hx hb hr (fun t ht hW9 => ⟨⟨v14, I18, rfl, ⟨hF, hO, hP, ⟨trivial, trivial⟩⟩, dkW_eq ht hW⟩, hS.F ht⟩) hS.2.2 dX6_walk_55
        ·
          exact (dkN_nil (show dkN [] v5 from dkN_eq1 dv5 (dkN_lit (x := 0) (0) rfl) (congrArg Int32.toInt c9) rfl)).elim
set_option maxHeartbeats 4000000 in
set_option maxRecDepth 100000 in
theorem c_X5_isDog_0 (l : Launch) (g : dkG) (z : Nat) (I0 : dkI) (p0 : Int32)  (hO : dkOk I0) : Met l yX5_isDog wsX5_isDog (dkR 0) (dkPc g z [.ref (z + 0), .int p0] I0) (dkQi g z (fun r I1 => dkF [] I0 I1 ∧ dkOk I1 ∧ ((dkN [(0, 0)] r ∧ True) ∨ (dkN [(1, 1)] r ∧ dkN [(0, 5)] p0 ∧ dkN [(1, 6)] (I1 25 11) ∧ True)))) 0 0 (dkA z) := by
  refine Met.ofW (cc := cX5_isDog) (maxL := 2) (ret := (some .boolean)) (by decide) rfl ?_
  intro p e s m args below meth c s₁ B hml hv
  obtain ⟨ha, hW, hK, hT⟩ := hv
  have hx := B.exec
  have hb := B.bytes
  have hr := B.returns
  have hts := atoms_spec (ws := wsX5_isDog) B.pre
  have hown : s.vm.findClass RX5 = some m.cls := findClass_of_methodNamed B.named
  have hlocks := B.notSynchronized
  have hS : va_S (dkA z) s.heap s.heap [] := va_S.rf
  have hF : dkF [] I0 I0 := dkF_rf _ _
  have hl := lv_entry ([.ref (z + 0), .int p0]) (n := 2) (Nat.le_of_ble_eq_true rfl)
  have hgo : entryFrame m args 2 = entryFrame m ([.ref (z + 0), .int p0] : List Value).toArray 2 := by rw [ha]
  rw [hgo, lg_entry_eq]
  generalize (lg_sl ([.ref (z + 0), .int p0]) ++ List.replicate (2 - (lg_sl ([.ref (z + 0), .int p0])).length) Slot.unset).toArray = ls at hl ⊢
  have hl : lv_has ls 2 [(0, .ref (z + 0)), (1, .int p0)] := hl
  refine lv_iload_n hx hb dX5_isDog_0 rfl (lv_at hl 1 rfl) ?_
  refine lv_if_lt (tgt := 19) hx hb dX5_isDog_1 (by decide) (fun c1 => ?_) (fun c1 => ?_)
  ·
    have d2 : dkN [(-2147483648, -1)] p0 := dkN_le1 1 (dkN_top p0) (dkN_lit (x := 0) (0) rfl) (dkc_lt c1) rfl
    refine lv_iconst (v := 0) hx hb dX5_isDog_19 (by decide) ?_
    exact W.zret (v := 0) (ty := .boolean) hx hb hr rfl (fun t ht hW9 => ⟨⟨0, I0, rfl, ⟨hF, hO, Or.inl ⟨dkN_sub (dkN_lit (x := 0) (0) rfl) rfl, trivial⟩⟩, dkW_eq ht hW⟩, hS.F ht⟩) hS.2.2 dX5_isDog_20
  ·
    have d3 : dkN [(0, 2147483647)] p0 := dkN_le2 0 (dkN_lit (x := 0) (0) rfl) (dkN_top p0) (dkc_nlt c1) rfl
    refine lv_iload_n hx hb dX5_isDog_4 rfl (lv_at hl 1 rfl) ?_
    refine lv_aload_n hx hb dX5_isDog_5 rfl (lv_at hl 0 rfl) ?_
    refine dk_get (k := 0) hx hb hts iX5_isDog_5 hown hK (dk_at0 hW) rfl 5 (by decide) (hts (.fieldLink RX5 31 "DogKings" "now" "LDogKings$Town;") (List.mem_of_getElem? (i := 1) rfl)) rfl dX5_isDog_6 ?_
    refine dk_get (k := 25) hx hb hts iX5_isDog_4 hown hK (dk_at25 hW) rfl 11 (by decide) (hts (.fieldLink RX5 120 "DogKings$Town" "dogs" "I") (List.mem_of_getElem? (i := 2) rfl)) rfl dX5_isDog_9 ?_
    refine lv_topi (fun v4 ev4 => ?_)
    have dv4 : dkN [(0, 6)] v4 := by rw [ev4]; exact (hO 25 11)
    refine lv_icmp_ge (tgt := 19) hx hb dX5_isDog_12 (by decide) (fun c5 => ?_) (fun c5 => ?_)
    ·
      refine lv_iconst (v := 0) hx hb dX5_isDog_19 (by decide) ?_
      exact W.zret (v := 0) (ty := .boolean) hx hb hr rfl (fun t ht hW9 => ⟨⟨0, I0, rfl, ⟨hF, hO, Or.inl ⟨dkN_sub (dkN_lit (x := 0) (0) rfl) rfl, trivial⟩⟩, dkW_eq ht hW⟩, hS.F ht⟩) hS.2.2 dX5_isDog_20
    ·
      have d6 : dkN [(1, 6)] v4 := dkN_le2 1 d3 dv4 (dkc_nle c5) rfl
      have f7 : dkN [(1, 6)] (I0 25 11) := by rw [← ev4]; exact d6
      have d8 : dkN [(0, 5)] p0 := dkN_le1 1 d3 dv4 (dkc_nle c5) rfl
      refine lv_iconst (v := 1) hx hb dX5_isDog_15 (by decide) ?_
      refine lv_goto (tgt := 20) hx hb dX5_isDog_16 (by decide) ?_
      exact W.zret (v := 1) (ty := .boolean) hx hb hr rfl (fun t ht hW9 => ⟨⟨1, I0, rfl, ⟨hF, hO, Or.inr (⟨dkN_sub (dkN_lit (x := 1) (1) rfl) rfl, dkN_sub d8 rfl, (show dkN [(1, 6)] (I0 25 11) from dkN_sub f7 rfl), trivial⟩)⟩, dkW_eq ht hW⟩, hS.F ht⟩) hS.2.2 dX5_isDog_20
set_option maxHeartbeats 4000000 in
set_option maxRecDepth 100000 in
theorem c_X5_isPlace_0 (l : Launch) (g : dkG) (z : Nat) (I0 : dkI) (p0 : Int32)  (hO : dkOk I0) : Met l yX5_isPlace wsX5_isPlace (dkR 0) (dkPc g z [.ref (z + 0), .int p0] I0) (dkQi g z (fun r I1 => dkF [] I0 I1 ∧ dkOk I1 ∧ ((dkN [(0, 0)] r ∧ True) ∨ (dkN [(1, 1)] r ∧ dkN [(0, 8)] p0 ∧ dkN [(1, 9)] (I1 25 0) ∧ True)))) 0 0 (dkA z) := by
  refine Met.ofW (cc := cX5_isPlace) (maxL := 2) (ret := (some .boolean)) (by decide) rfl ?_
  intro p e s m args below meth c s₁ B hml hv
  obtain ⟨ha, hW, hK, hT⟩ := hv
  have hx := B.exec
  have hb := B.bytes
  have hr := B.returns
  have hts := atoms_spec (ws := wsX5_isPlace) B.pre
  have hown : s.vm.findClass RX5 = some m.cls := findClass_of_methodNamed B.named
  have hlocks := B.notSynchronized
  have hS : va_S (dkA z) s.heap s.heap [] := va_S.rf
  have hF : dkF [] I0 I0 := dkF_rf _ _
  have hl := lv_entry ([.ref (z + 0), .int p0]) (n := 2) (Nat.le_of_ble_eq_true rfl)
  have hgo : entryFrame m args 2 = entryFrame m ([.ref (z + 0), .int p0] : List Value).toArray 2 := by rw [ha]
  rw [hgo, lg_entry_eq]
  generalize (lg_sl ([.ref (z + 0), .int p0]) ++ List.replicate (2 - (lg_sl ([.ref (z + 0), .int p0])).length) Slot.unset).toArray = ls at hl ⊢
  have hl : lv_has ls 2 [(0, .ref (z + 0)), (1, .int p0)] := hl
  refine lv_iload_n hx hb dX5_isPlace_0 rfl (lv_at hl 1 rfl) ?_
  refine lv_if_lt (tgt := 19) hx hb dX5_isPlace_1 (by decide) (fun c1 => ?_) (fun c1 => ?_)
  ·
    have d2 : dkN [(-2147483648, -1)] p0 := dkN_le1 1 (dkN_top p0) (dkN_lit (x := 0) (0) rfl) (dkc_lt c1) rfl
    refine lv_iconst (v := 0) hx hb dX5_isPlace_19 (by decide) ?_
    exact W.zret (v := 0) (ty := .boolean) hx hb hr rfl (fun t ht hW9 => ⟨⟨0, I0, rfl, ⟨hF, hO, Or.inl ⟨dkN_sub (dkN_lit (x := 0) (0) rfl) rfl, trivial⟩⟩, dkW_eq ht hW⟩, hS.F ht⟩) hS.2.2 dX5_isPlace_20
  ·
    have d3 : dkN [(0, 2147483647)] p0 := dkN_le2 0 (dkN_lit (x := 0) (0) rfl) (dkN_top p0) (dkc_nlt c1) rfl
    refine lv_iload_n hx hb dX5_isPlace_4 rfl (lv_at hl 1 rfl) ?_
    refine lv_aload_n hx hb dX5_isPlace_5 rfl (lv_at hl 0 rfl) ?_
    refine dk_get (k := 0) hx hb hts iX5_isPlace_5 hown hK (dk_at0 hW) rfl 5 (by decide) (hts (.fieldLink RX5 31 "DogKings" "now" "LDogKings$Town;") (List.mem_of_getElem? (i := 1) rfl)) rfl dX5_isPlace_6 ?_
    refine dk_get (k := 25) hx hb hts iX5_isPlace_4 hown hK (dk_at25 hW) rfl 0 (by decide) (hts (.fieldLink RX5 274 "DogKings$Town" "places" "I") (List.mem_of_getElem? (i := 2) rfl)) rfl dX5_isPlace_9 ?_
    refine lv_topi (fun v4 ev4 => ?_)
    have dv4 : dkN [(0, 9)] v4 := by rw [ev4]; exact (hO 25 0)
    refine lv_icmp_ge (tgt := 19) hx hb dX5_isPlace_12 (by decide) (fun c5 => ?_) (fun c5 => ?_)
    ·
      refine lv_iconst (v := 0) hx hb dX5_isPlace_19 (by decide) ?_
      exact W.zret (v := 0) (ty := .boolean) hx hb hr rfl (fun t ht hW9 => ⟨⟨0, I0, rfl, ⟨hF, hO, Or.inl ⟨dkN_sub (dkN_lit (x := 0) (0) rfl) rfl, trivial⟩⟩, dkW_eq ht hW⟩, hS.F ht⟩) hS.2.2 dX5_isPlace_20
    ·
      have d6 : dkN [(1, 9)] v4 := dkN_le2 1 d3 dv4 (dkc_nle c5) rfl
      have f7 : dkN [(1, 9)] (I0 25 0) := by rw [← ev4]; exact d6
      have d8 : dkN [(0, 8)] p0 := dkN_le1 1 d3 dv4 (dkc_nle c5) rfl
      refine lv_iconst (v := 1) hx hb dX5_isPlace_15 (by decide) ?_
      refine lv_goto (tgt := 20) hx hb dX5_isPlace_16 (by decide) ?_
      exact W.zret (v := 1) (ty := .boolean) hx hb hr rfl (fun t ht hW9 => ⟨⟨1, I0, rfl, ⟨hF, hO, Or.inr (⟨dkN_sub (dkN_lit (x := 1) (1) rfl) rfl, dkN_sub d8 rfl, (show dkN [(1, 9)] (I0 25 0) from dkN_sub f7 rfl), trivial⟩)⟩, dkW_eq ht hW⟩, hS.F ht⟩) hS.2.2 dX5_isPlace_20
set_option maxHeartbeats 4000000 in
set_option maxRecDepth 100000 in
theorem c_X5_put_0 (l : Launch) (g : dkG) (z : Nat) (I0 : dkI) (p0 : Int32) (p1 : Int32)  (hO : dkOk I0) : Met l yX5_put wsX5_put (dkR 2) (dkPc g z [.ref (z + 0), .int p0, .int p1] I0) (dkQi g z (fun r I1 => dkF [(61, 324, 0, 2147483647), (34, 34, 0, 5), (59, 59, 1, 2)] I0 I1 ∧ dkOk I1 ∧ ((True ∧ True)))) 0 0 (dkA z) := by
  refine Met.ofW (cc := cX5_put) (maxL := 4) (ret := (some .int)) (by decide) rfl ?_
  intro p e s m args below meth c s₁ B hml hv
  obtain ⟨ha, hW, hK, hT⟩ := hv
  have hx := B.exec
  have hb := B.bytes
  have hr := B.returns
  have hts := atoms_spec (ws := wsX5_put) B.pre
  have hown : s.vm.findClass RX5 = some m.cls := findClass_of_methodNamed B.named
  have hlocks := B.notSynchronized
  have hS : va_S (dkA z) s.heap s.heap [] := va_S.rf
  have hF : dkF [(61, 324, 0, 2147483647), (34, 34, 0, 5), (59, 59, 1, 2)] I0 I0 := dkF_rf _ _
  have hl := lv_entry ([.ref (z + 0), .int p0, .int p1]) (n := 4) (Nat.le_of_ble_eq_true rfl)
  have hgo : entryFrame m args 4 = entryFrame m ([.ref (z + 0), .int p0, .int p1] : List Value).toArray 4 := by rw [ha]
  rw [hgo, lg_entry_eq]
  generalize (lg_sl ([.ref (z + 0), .int p0, .int p1]) ++ List.replicate (4 - (lg_sl ([.ref (z + 0), .int p0, .int p1])).length) Slot.unset).toArray = ls at hl ⊢
  have hl : lv_has ls 4 [(0, .ref (z + 0)), (1, .int p0), (2, .int p1)] := hl
  refine lv_aload_n hx hb dX5_put_0 rfl (lv_at hl 0 rfl) ?_
  refine lv_iload_n hx hb dX5_put_1 rfl (lv_at hl 1 rfl) ?_
  refine dk_Vi (As := [.int p0]) (rest := []) ⟨hx, hb, hml, hown, hts⟩ (c_X5_isDog_0 l g z I0 p0 hO) (cwV 1 hts gX5_put_X5_isDog rfl rfl rfl (by decide +kernel) ⟨Nat.le_of_ble_eq_true rfl, Nat.le_of_ble_eq_true rfl⟩) (dk_at0 hW) rfl hK hT hW hS rfl hl.1 rfl (Nat.le_of_ble_eq_true rfl) dX5_put_2 ⟨Nat.zero_le _, Nat.zero_le _⟩ (fun v1 I1 H1 L1 hp1 hW hS => ?_)
  obtain ⟨hF1, hO, hc1⟩ := hp1
  have hF := dkF_call hF hF1 rfl
  rcases hc1 with ⟨dv1, -⟩ | hc1
  ·
    refine lv_if_eq (tgt := 16) hx hb dX5_put_5 (by decide) (fun c2 => ?_) (fun c2 => ?_)
    ·
      refine lv_ldc (v := (-1000001)) hx hb hown (hts (.constant RX5 70 (-1000001)) (List.mem_of_getElem? (i := 1) rfl)) dX5_put_16 ?_
      exact W.iret (v := (-1000001)) hx hb hr (fun t ht hW9 => ⟨⟨(-1000001), I1, rfl, ⟨hF, hO, ⟨trivial, trivial⟩⟩, dkW_eq ht hW⟩, hS.F ht⟩) hS.2.2 dX5_put_18
    ·
      exact (dkN_nil (show dkN [] v1 from dkN_ne1 (0) dv1 (dkN_lit (x := 0) (0) rfl) (dk_ne c2) rfl)).elim
  ·
    obtain ⟨dv1, a1_0, f1_25_11, -⟩ := hc1
    have d3 : dkN [(0, 5)] p0 := dkN_eq1 (dkN_top p0) a1_0 rfl rfl
    refine lv_if_eq (tgt := 16) hx hb dX5_put_5 (by decide) (fun c4 => ?_) (fun c4 => ?_)
    ·
      exact (dkN_nil (show dkN [] v1 from dkN_eq1 dv1 (dkN_lit (x := 0) (0) rfl) (congrArg Int32.toInt c4) rfl)).elim
    ·
      refine lv_aload_n hx hb dX5_put_8 rfl (lv_at hl 0 rfl) ?_
      refine lv_iload_n hx hb dX5_put_9 rfl (lv_at hl 2 rfl) ?_
      refine dk_Vi (As := [.int p1]) (rest := []) ⟨hx, hb, hml, hown, hts⟩ (c_X5_isPlace_0 l g z I1 p1 hO) (cwV 1 hts gX5_put_X5_isPlace rfl rfl rfl (by decide +kernel) ⟨Nat.le_of_ble_eq_true rfl, Nat.le_of_ble_eq_true rfl⟩) (dk_at0 hW) rfl hK hT hW hS rfl hl.1 rfl (Nat.le_of_ble_eq_true rfl) dX5_put_10 ⟨Nat.zero_le _, Nat.zero_le _⟩ (fun v5 I5 H5 L5 hp5 hW hS => ?_)
      obtain ⟨hF5, hO, hc5⟩ := hp5
      have hF := dkF_call hF hF5 rfl
      rcases hc5 with ⟨dv5, -⟩ | hc5
      ·
        refine lv_if_ne (tgt := 19) hx hb dX5_put_13 (by decide) (fun c6 => ?_) (fun c6 => ?_)
        ·
          exact (dkN_nil (show dkN [] v5 from dkN_ne1 (0) dv5 (dkN_lit (x := 0) (0) rfl) (dk_ne c6) rfl)).elim
        ·
          refine lv_ldc (v := (-1000001)) hx hb hown (hts (.constant RX5 70 (-1000001)) (List.mem_of_getElem? (i := 1) rfl)) dX5_put_16 ?_
          exact W.iret (v := (-1000001)) hx hb hr (fun t ht hW9 => ⟨⟨(-1000001), I5, rfl, ⟨hF, hO, ⟨trivial, trivial⟩⟩, dkW_eq ht hW⟩, hS.F ht⟩) hS.2.2 dX5_put_18
      ·
        obtain ⟨dv5, a5_0, f5_25_0, -⟩ := hc5
        have d7 : dkN [(0, 8)] p1 := dkN_eq1 (dkN_top p1) a5_0 rfl rfl
        refine lv_if_ne (tgt := 19) hx hb dX5_put_13 (by decide) (fun c8 => ?_) (fun c8 => ?_)
        ·
          refine lv_aload_n hx hb dX5_put_19 rfl (lv_at hl 0 rfl) ?_
          refine dk_get (k := 0) hx hb hts iX5_put_5 hown hK (dk_at0 hW) rfl 5 (by decide) (hts (.fieldLink RX5 31 "DogKings" "now" "LDogKings$Town;") (List.mem_of_getElem? (i := 2) rfl)) rfl dX5_put_20 ?_
          refine dk_get (k := 25) hx hb hts iX5_put_4 hown hK (dk_at25 hW) rfl 14 (by decide) (hts (.fieldLink RX5 155 "DogKings$Town" "dogAt" "[I") (List.mem_of_getElem? (i := 3) rfl)) rfl dX5_put_23 ?_
          refine lv_iload_n hx hb dX5_put_26 rfl (lv_at hl 1 rfl) ?_
          refine dk_ild (k := 34) hx hb hK (dk_at34 hW) (dkN_in (n := 6) d3 rfl) dX5_put_27 ?_
          refine lv_topi (fun v9 ev9 => ?_)
          refine lv_istore_n (lv' := [(3, .int v9), (0, .ref (z + 0)), (1, .int p0), (2, .int p1)]) hx hb dX5_put_28 rfl hl (by decide) rfl (fun ls hl => ?_)
          refine lv_iload_n hx hb dX5_put_29 rfl (lv_at hl 3 rfl) ?_
          refine lv_iload_n hx hb dX5_put_30 rfl (lv_at hl 0 rfl) ?_
          refine lv_icmp_ne (tgt := 37) hx hb dX5_put_31 (by decide) (fun c10 => ?_) (fun c10 => ?_)
          ·
            refine lv_aload_n hx hb dX5_put_37 rfl (lv_at hl 1 rfl) ?_
            refine dk_get (k := 0) hx hb hts iX5_put_5 hown hK (dk_at0 hW) rfl 7 (by decide) (hts (.fieldLink RX5 42 "DogKings" "acts" "LDogKings$Acts;") (List.mem_of_getElem? (i := 5) rfl)) rfl dX5_put_38 ?_
            refine lv_aload_n hx hb dX5_put_41 rfl (lv_at hl 1 rfl) ?_
            refine dk_get (k := 0) hx hb hts iX5_put_5 hown hK (dk_at0 hW) rfl 5 (by decide) (hts (.fieldLink RX5 31 "DogKings" "now" "LDogKings$Town;") (List.mem_of_getElem? (i := 2) rfl)) rfl dX5_put_42 ?_
            refine dk_Vv (As := [.ref (z + 25)]) (rest := []) ⟨hx, hb, hml, hown, hts⟩ (c_X0_keep_0 l g z I5 (25) (by unfold dkT; omega) hO) (cwV 1 hts gX5_put_X0_keep rfl rfl rfl (by decide +kernel) ⟨Nat.le_of_ble_eq_true rfl, Nat.le_of_ble_eq_true rfl⟩) (dk_at59 hW) rfl hK hT hW hS rfl hl.1 rfl (Nat.le_of_ble_eq_true rfl) dX5_put_45 ⟨Nat.zero_le _, Nat.zero_le _⟩ (fun I11 H11 L11 hp11 hW hS => ?_)
            obtain ⟨hF11, hO, hc11⟩ := hp11
            have hF := dkF_call hF hF11 rfl
            obtain ⟨f11_59_2, -⟩ := hc11
            refine lv_aload_n hx hb dX5_put_48 rfl (lv_at hl 1 rfl) ?_
            refine dk_get (k := 0) hx hb hts iX5_put_5 hown hK (dk_at0 hW) rfl 5 (by decide) (hts (.fieldLink RX5 31 "DogKings" "now" "LDogKings$Town;") (List.mem_of_getElem? (i := 2) rfl)) rfl dX5_put_49 ?_
            refine dk_get (k := 25) hx hb hts iX5_put_4 hown hK (dk_at25 hW) rfl 14 (by decide) (hts (.fieldLink RX5 155 "DogKings$Town" "dogAt" "[I") (List.mem_of_getElem? (i := 3) rfl)) rfl dX5_put_52 ?_
            refine lv_iload_n hx hb dX5_put_55 rfl (lv_at hl 2 rfl) ?_
            refine lv_iload_n hx hb dX5_put_56 rfl (lv_at hl 3 rfl) ?_
            refine dk_ist (k := 34) hx hb hK hW (fun _ => rfl) (by decide) hS (dkN_in (n := 6) d3 rfl) dX5_put_57 (fun I12 H12 L12 eI12 hW hS => ?_)
            have hO := dkO_set hO eI12 (dkN_sub d7 rfl)
            have hF := dkF_set hF eI12 (dkIn_v d3 rfl)
            refine lv_iload_n hx hb dX5_put_58 rfl (lv_at hl 0 rfl) ?_
            exact W.iret (v := v9) hx hb hr (fun t ht hW9 => ⟨⟨v9, I12, rfl, ⟨hF, hO, ⟨trivial, trivial⟩⟩, dkW_eq ht hW⟩, hS.F ht⟩) hS.2.2 dX5_put_59
          ·
            have d13 : dkN [(0, 8)] v9 := dkN_eq1 (dkN_top v9) d7 (congrArg Int32.toInt c10).symm rfl
            refine lv_ldc (v := (-1000002)) hx hb hown (hts (.constant RX5 129 (-1000002)) (List.mem_of_getElem? (i := 4) rfl)) dX5_put_34 ?_
            exact W.iret (v := (-1000002)) hx hb hr (fun t ht hW9 => ⟨⟨(-1000002), I5, rfl, ⟨hF, hO, ⟨trivial, trivial⟩⟩, dkW_eq ht hW⟩, hS.F ht⟩) hS.2.2 dX5_put_36
        ·
          exact (dkN_nil (show dkN [] v5 from dkN_eq1 dv5 (dkN_lit (x := 0) (0) rfl) (congrArg Int32.toInt c8) rfl)).elim
set_option maxHeartbeats 4000000 in
set_option maxRecDepth 100000 in
theorem c_X6_in_13 (l : Launch) (g : dkG) (z : Nat) (I0 : dkI) (p0 : Int32) (p1 : Int32) (p2 : Int32) (dp1 : dkN [(0, 0)] p1) (dp2 : dkN [(-1, 5)] p2)  (hO : dkOk I0) : Met l yX6_in wsX6_in (dkR 0) (dkPc g z [.int p0, .int p1, .int p2] I0) (dkQi g z (fun r I1 => dkF [] I0 I1 ∧ dkOk I1 ∧ ((dkN [(0, 0)] r ∧ True) ∨ (dkN [(1, 1)] r ∧ dkN [(0, 5)] p0 ∧ dkN [(0, 5)] p2 ∧ True)))) 0 0 (dkA z) := by
  refine Met.ofW (cc := cX6_in) (maxL := 3) (ret := (some .boolean)) (by decide) rfl ?_
  intro p e s m args below meth c s₁ B hml hv
  obtain ⟨ha, hW, hK, hT⟩ := hv
  have hx := B.exec
  have hb := B.bytes
  have hr := B.returns
  have hts := atoms_spec (ws := wsX6_in) B.pre
  have hown : s.vm.findClass RX6 = some m.cls := findClass_of_methodNamed B.named
  have hlocks := B.notSynchronized
  have hS : va_S (dkA z) s.heap s.heap [] := va_S.rf
  have hF : dkF [] I0 I0 := dkF_rf _ _
  have hl := lv_entry ([.int p0, .int p1, .int p2]) (n := 3) (Nat.le_of_ble_eq_true rfl)
  have hgo : entryFrame m args 3 = entryFrame m ([.int p0, .int p1, .int p2] : List Value).toArray 3 := by rw [ha]
  rw [hgo, lg_entry_eq]
  generalize (lg_sl ([.int p0, .int p1, .int p2]) ++ List.replicate (3 - (lg_sl ([.int p0, .int p1, .int p2])).length) Slot.unset).toArray = ls at hl ⊢
  have hl : lv_has ls 3 [(0, .int p0), (1, .int p1), (2, .int p2)] := hl
  refine lv_iload_n hx hb dX6_in_0 rfl (lv_at hl 0 rfl) ?_
  refine lv_iload_n hx hb dX6_in_1 rfl (lv_at hl 1 rfl) ?_
  refine lv_icmp_lt (tgt := 14) hx hb dX6_in_2 (by decide) (fun c1 => ?_) (fun c1 => ?_)
  ·
    have d2 : dkN [(-2147483648, -1)] p0 := dkN_le1 1 (dkN_top p0) dp1 (dkc_lt c1) rfl
    refine lv_iconst (v := 0) hx hb dX6_in_14 (by decide) ?_
    exact W.zret (v := 0) (ty := .boolean) hx hb hr rfl (fun t ht hW9 => ⟨⟨0, I0, rfl, ⟨hF, hO, Or.inl ⟨dkN_sub (dkN_lit (x := 0) (0) rfl) rfl, trivial⟩⟩, dkW_eq ht hW⟩, hS.F ht⟩) hS.2.2 dX6_in_15
  ·
    have d3 : dkN [(0, 2147483647)] p0 := dkN_le2 0 dp1 (dkN_top p0) (dkc_nlt c1) rfl
    refine lv_iload_n hx hb dX6_in_5 rfl (lv_at hl 0 rfl) ?_
    refine lv_iload_n hx hb dX6_in_6 rfl (lv_at hl 2 rfl) ?_
    refine lv_icmp_gt (tgt := 14) hx hb dX6_in_7 (by decide) (fun c4 => ?_) (fun c4 => ?_)
    ·
      refine lv_iconst (v := 0) hx hb dX6_in_14 (by decide) ?_
      exact W.zret (v := 0) (ty := .boolean) hx hb hr rfl (fun t ht hW9 => ⟨⟨0, I0, rfl, ⟨hF, hO, Or.inl ⟨dkN_sub (dkN_lit (x := 0) (0) rfl) rfl, trivial⟩⟩, dkW_eq ht hW⟩, hS.F ht⟩) hS.2.2 dX6_in_15
    ·
      have d5 : dkN [(0, 5)] p2 := dkN_le2 0 d3 dp2 (dkc_nlt c4) rfl
      have d6 : dkN [(0, 5)] p0 := dkN_le1 0 d3 dp2 (dkc_nlt c4) rfl
      refine lv_iconst (v := 1) hx hb dX6_in_10 (by decide) ?_
      refine lv_goto (tgt := 15) hx hb dX6_in_11 (by decide) ?_
      exact W.zret (v := 1) (ty := .boolean) hx hb hr rfl (fun t ht hW9 => ⟨⟨1, I0, rfl, ⟨hF, hO, Or.inr (⟨dkN_sub (dkN_lit (x := 1) (1) rfl) rfl, dkN_sub d6 rfl, dkN_sub d5 rfl, trivial⟩)⟩, dkW_eq ht hW⟩, hS.F ht⟩) hS.2.2 dX6_in_15
set_option maxHeartbeats 4000000 in
set_option maxRecDepth 100000 in
theorem c_X6_isDog_0 (l : Launch) (g : dkG) (z : Nat) (I0 : dkI) (p0 : Int32)  (hO : dkOk I0) : Met l yX6_isDog wsX6_isDog (dkR 1) (dkPc g z [.ref (z + 340), .int p0] I0) (dkQi g z (fun r I1 => dkF [] I0 I1 ∧ dkOk I1 ∧ ((dkN [(0, 0)] r ∧ True) ∨ (dkN [(1, 1)] r ∧ dkN [(0, 5)] p0 ∧ True)))) 0 0 (dkA z) := by
  refine Met.ofW (cc := cX6_isDog) (maxL := 2) (ret := (some .boolean)) (by decide) rfl ?_
  intro p e s m args below meth c s₁ B hml hv
  obtain ⟨ha, hW, hK, hT⟩ := hv
  have hx := B.exec
  have hb := B.bytes
  have hr := B.returns
  have hts := atoms_spec (ws := wsX6_isDog) B.pre
  have hown : s.vm.findClass RX6 = some m.cls := findClass_of_methodNamed B.named
  have hlocks := B.notSynchronized
  have hS : va_S (dkA z) s.heap s.heap [] := va_S.rf
  have hF : dkF [] I0 I0 := dkF_rf _ _
  have hl := lv_entry ([.ref (z + 340), .int p0]) (n := 2) (Nat.le_of_ble_eq_true rfl)
  have hgo : entryFrame m args 2 = entryFrame m ([.ref (z + 340), .int p0] : List Value).toArray 2 := by rw [ha]
  rw [hgo, lg_entry_eq]
  generalize (lg_sl ([.ref (z + 340), .int p0]) ++ List.replicate (2 - (lg_sl ([.ref (z + 340), .int p0])).length) Slot.unset).toArray = ls at hl ⊢
  have hl : lv_has ls 2 [(0, .ref (z + 340)), (1, .int p0)] := hl
  refine lv_iload_n hx hb dX6_isDog_0 rfl (lv_at hl 1 rfl) ?_
  refine lv_iconst (v := 0) hx hb dX6_isDog_1 (by decide) ?_
  refine lv_aload_n hx hb dX6_isDog_2 rfl (lv_at hl 0 rfl) ?_
  refine dk_get (k := 340) hx hb hts iX6_isDog_6 hown hK (dk_at340 hW) rfl 13 (by decide) (hts (.fieldLink RX6 25 "DogKingsModel" "now" "[I") (List.mem_of_getElem? (i := 1) rfl)) rfl dX6_isDog_3 ?_
  refine lv_iconst (v := 5) hx hb dX6_isDog_6 (by decide) ?_
  refine dk_ild (k := 346) hx hb hK (dk_at346 hW) (dkN_in (n := 54) (dkN_lit (x := 5) (5) rfl) rfl) dX6_isDog_7 ?_
  refine lv_topi (fun v1 ev1 => ?_)
  have ev1 : v1 = I0 346 5 := ev1
  have dv1 : dkN [(0, 6)] v1 := by rw [ev1]; exact (show dkN [(0, 6)] (I0 346 5) from (hO 346 5))
  refine lv_iconst (v := 1) hx hb dX6_isDog_8 (by decide) ?_
  refine lv_isub hx hb dX6_isDog_9 ?_
  refine lv_topi (fun v2 ev2 => ?_)
  have dv2 : dkN [(-1, 5)] v2 := by rw [ev2]; exact dkN_subt dv1 (dkN_lit (x := 1) (1) rfl) rfl
  refine dk_Si (As := [.int p0, .int 0, .int v2]) (rest := []) ⟨hx, hb, hml, hown, hts⟩ (c_X6_in_13 l g z I0 p0 0 v2 (dkN_lit (x := 0) (0) rfl) dv2 hO) (va_cwS 3 hts gX6_isDog_X6_in rfl rfl rfl (by decide +kernel) ⟨Nat.le_of_ble_eq_true rfl, Nat.le_of_ble_eq_true rfl⟩) hK hT hW hS rfl hl.1 rfl (Nat.le_of_ble_eq_true rfl) dX6_isDog_10 ⟨Nat.zero_le _, Nat.zero_le _⟩ (fun v3 I3 H3 L3 hp3 hW hS => ?_)
  obtain ⟨hF3, hO, hc3⟩ := hp3
  have hF := dkF_call hF hF3 rfl
  rcases hc3 with ⟨dv3, -⟩ | hc3
  ·
    exact W.zret (v := v3) (ty := .boolean) hx hb hr (dkN_zr dv3 rfl) (fun t ht hW9 => ⟨⟨v3, I3, rfl, ⟨hF, hO, Or.inl ⟨dkN_sub dv3 rfl, trivial⟩⟩, dkW_eq ht hW⟩, hS.F ht⟩) hS.2.2 dX6_isDog_13
  ·
    obtain ⟨dv3, a3_0, a3_2, -⟩ := hc3
    have d4 : dkN [(0, 5)] p0 := dkN_eq1 (dkN_top p0) a3_0 rfl rfl
    have d5 : dkN [(0, 5)] v2 := dkN_eq1 dv2 a3_2 rfl rfl
    exact W.zret (v := v3) (ty := .boolean) hx hb hr (dkN_zr dv3 rfl) (fun t ht hW9 => ⟨⟨v3, I3, rfl, ⟨hF, hO, Or.inr (⟨dkN_sub dv3 rfl, dkN_sub d4 rfl, trivial⟩)⟩, dkW_eq ht hW⟩, hS.F ht⟩) hS.2.2 dX6_isDog_13
set_option maxHeartbeats 4000000 in
set_option maxRecDepth 100000 in
theorem c_X6_isStreet_0 (l : Launch) (g : dkG) (z : Nat) (I0 : dkI) (p0 : Int32)  (hO : dkOk I0) : Met l yX6_isStreet wsX6_isStreet (dkR 1) (dkPc g z [.ref (z + 340), .int p0] I0) (dkQi g z (fun r I1 => dkF [] I0 I1 ∧ dkOk I1 ∧ ((dkN [(0, 0)] r ∧ True) ∨ (dkN [(1, 1)] r ∧ dkN [(0, 8)] p0 ∧ True)))) 0 0 (dkA z) := by
  refine Met.ofW (cc := cX6_isStreet) (maxL := 2) (ret := (some .boolean)) (by decide) rfl ?_
  intro p e s m args below meth c s₁ B hml hv
  obtain ⟨ha, hW, hK, hT⟩ := hv
  have hx := B.exec
  have hb := B.bytes
  have hr := B.returns
  have hts := atoms_spec (ws := wsX6_isStreet) B.pre
  have hown : s.vm.findClass RX6 = some m.cls := findClass_of_methodNamed B.named
  have hlocks := B.notSynchronized
  have hS : va_S (dkA z) s.heap s.heap [] := va_S.rf
  have hF : dkF [] I0 I0 := dkF_rf _ _
  have hl := lv_entry ([.ref (z + 340), .int p0]) (n := 2) (Nat.le_of_ble_eq_true rfl)
  have hgo : entryFrame m args 2 = entryFrame m ([.ref (z + 340), .int p0] : List Value).toArray 2 := by rw [ha]
  rw [hgo, lg_entry_eq]
  generalize (lg_sl ([.ref (z + 340), .int p0]) ++ List.replicate (2 - (lg_sl ([.ref (z + 340), .int p0])).length) Slot.unset).toArray = ls at hl ⊢
  have hl : lv_has ls 2 [(0, .ref (z + 340)), (1, .int p0)] := hl
  refine lv_iload_n hx hb dX6_isStreet_0 rfl (lv_at hl 1 rfl) ?_
  refine lv_iconst (v := 0) hx hb dX6_isStreet_1 (by decide) ?_
  refine lv_aload_n hx hb dX6_isStreet_2 rfl (lv_at hl 0 rfl) ?_
  refine dk_get (k := 340) hx hb hts iX6_isStreet_6 hown hK (dk_at340 hW) rfl 13 (by decide) (hts (.fieldLink RX6 25 "DogKingsModel" "now" "[I") (List.mem_of_getElem? (i := 1) rfl)) rfl dX6_isStreet_3 ?_
  refine lv_iconst (v := 0) hx hb dX6_isStreet_6 (by decide) ?_
  refine dk_ild (k := 346) hx hb hK (dk_at346 hW) (dkN_in (n := 54) (dkN_lit (x := 0) (0) rfl) rfl) dX6_isStreet_7 ?_
  refine lv_topi (fun v1 ev1 => ?_)
  have ev1 : v1 = I0 346 0 := ev1
  have dv1 : dkN [(0, 9)] v1 := by rw [ev1]; exact (show dkN [(0, 9)] (I0 346 0) from (hO 346 0))
  refine lv_iconst (v := 1) hx hb dX6_isStreet_8 (by decide) ?_
  refine lv_isub hx hb dX6_isStreet_9 ?_
  refine lv_topi (fun v2 ev2 => ?_)
  have dv2 : dkN [(-1, 8)] v2 := by rw [ev2]; exact dkN_subt dv1 (dkN_lit (x := 1) (1) rfl) rfl
  refine dk_Si (As := [.int p0, .int 0, .int v2]) (rest := []) ⟨hx, hb, hml, hown, hts⟩ (c_X6_in_9 l g z I0 p0 0 v2 (dkN_lit (x := 0) (0) rfl) dv2 hO) (va_cwS 3 hts gX6_isStreet_X6_in rfl rfl rfl (by decide +kernel) ⟨Nat.le_of_ble_eq_true rfl, Nat.le_of_ble_eq_true rfl⟩) hK hT hW hS rfl hl.1 rfl (Nat.le_of_ble_eq_true rfl) dX6_isStreet_10 ⟨Nat.zero_le _, Nat.zero_le _⟩ (fun v3 I3 H3 L3 hp3 hW hS => ?_)
  obtain ⟨hF3, hO, hc3⟩ := hp3
  have hF := dkF_call hF hF3 rfl
  rcases hc3 with ⟨dv3, -⟩ | hc3
  ·
    exact W.zret (v := v3) (ty := .boolean) hx hb hr (dkN_zr dv3 rfl) (fun t ht hW9 => ⟨⟨v3, I3, rfl, ⟨hF, hO, Or.inl ⟨dkN_sub dv3 rfl, trivial⟩⟩, dkW_eq ht hW⟩, hS.F ht⟩) hS.2.2 dX6_isStreet_13
  ·
    obtain ⟨dv3, a3_0, a3_2, -⟩ := hc3
    have d4 : dkN [(0, 8)] p0 := dkN_eq1 (dkN_top p0) a3_0 rfl rfl
    have d5 : dkN [(0, 8)] v2 := dkN_eq1 dv2 a3_2 rfl rfl
    exact W.zret (v := v3) (ty := .boolean) hx hb hr (dkN_zr dv3 rfl) (fun t ht hW9 => ⟨⟨v3, I3, rfl, ⟨hF, hO, Or.inr (⟨dkN_sub dv3 rfl, dkN_sub d4 rfl, trivial⟩)⟩, dkW_eq ht hW⟩, hS.F ht⟩) hS.2.2 dX6_isStreet_13
set_option maxHeartbeats 4000000 in
set_option maxRecDepth 100000 in
theorem c_X6_put_0 (l : Launch) (g : dkG) (z : Nat) (I0 : dkI) (p0 : Int32) (p1 : Int32)  (hO : dkOk I0) (hP : dkPP I0) : Met l yX6_put wsX6_put (dkR 2) (dkPc g z [.ref (z + 340), .int p0, .int p1] I0) (dkQi g z (fun r I1 => dkF [(340, 340, 17, 17), (346, 346, 38, 38), (346, 346, 41, 41), (346, 346, 44, 44), (346, 346, 47, 47), (346, 346, 50, 50), (346, 346, 53, 53), (349, 349, 0, 1295)] I0 I1 ∧ dkOk I1 ∧ dkPP I1 ∧ ((True ∧ True)))) 0 0 (dkA z) := by
  refine Met.ofW (cc := cX6_put) (maxL := 4) (ret := (some .int)) (by decide) rfl ?_
  intro p e s m args below meth c s₁ B hml hv
  obtain ⟨ha, hW, hK, hT⟩ := hv
  have hx := B.exec
  have hb := B.bytes
  have hr := B.returns
  have hts := atoms_spec (ws := wsX6_put) B.pre
  have hown : s.vm.findClass RX6 = some m.cls := findClass_of_methodNamed B.named
  have hlocks := B.notSynchronized
  have hS : va_S (dkA z) s.heap s.heap [] := va_S.rf
  have hF : dkF [(340, 340, 17, 17), (346, 346, 38, 38), (346, 346, 41, 41), (346, 346, 44, 44), (346, 346, 47, 47), (346, 346, 50, 50), (346, 346, 53, 53), (349, 349, 0, 1295)] I0 I0 := dkF_rf _ _
  have hl := lv_entry ([.ref (z + 340), .int p0, .int p1]) (n := 4) (Nat.le_of_ble_eq_true rfl)
  have hgo : entryFrame m args 4 = entryFrame m ([.ref (z + 340), .int p0, .int p1] : List Value).toArray 4 := by rw [ha]
  rw [hgo, lg_entry_eq]
  generalize (lg_sl ([.ref (z + 340), .int p0, .int p1]) ++ List.replicate (4 - (lg_sl ([.ref (z + 340), .int p0, .int p1])).length) Slot.unset).toArray = ls at hl ⊢
  have hl : lv_has ls 4 [(0, .ref (z + 340)), (1, .int p0), (2, .int p1)] := hl
  refine lv_aload_n hx hb dX6_put_0 rfl (lv_at hl 0 rfl) ?_
  refine lv_iload_n hx hb dX6_put_1 rfl (lv_at hl 1 rfl) ?_
  refine dk_Vi (As := [.int p0]) (rest := []) ⟨hx, hb, hml, hown, hts⟩ (c_X6_isDog_0 l g z I0 p0 hO) (cwV 1 hts gX6_put_X6_isDog rfl rfl rfl (by decide +kernel) ⟨Nat.le_of_ble_eq_true rfl, Nat.le_of_ble_eq_true rfl⟩) (dk_at340 hW) rfl hK hT hW hS rfl hl.1 rfl (Nat.le_of_ble_eq_true rfl) dX6_put_2 ⟨Nat.zero_le _, Nat.zero_le _⟩ (fun v1 I1 H1 L1 hp1 hW hS => ?_)
  obtain ⟨hF1, hO, hc1⟩ := hp1
  have hF := dkF_call hF hF1 rfl
  have hP := dkPP_F hP hF1 rfl
  rcases hc1 with ⟨dv1, -⟩ | hc1
  ·
    refine lv_if_eq (tgt := 16) hx hb dX6_put_5 (by decide) (fun c2 => ?_) (fun c2 => ?_)
    ·
      refine lv_ldc (v := (-1000001)) hx hb hown (hts (.constant RX6 64 (-1000001)) (List.mem_of_getElem? (i := 1) rfl)) dX6_put_16 ?_
      exact W.iret (v := (-1000001)) hx hb hr (fun t ht hW9 => ⟨⟨(-1000001), I1, rfl, ⟨hF, hO, hP, ⟨trivial, trivial⟩⟩, dkW_eq ht hW⟩, hS.F ht⟩) hS.2.2 dX6_put_18
    ·
      exact (dkN_nil (show dkN [] v1 from dkN_ne1 (0) dv1 (dkN_lit (x := 0) (0) rfl) (dk_ne c2) rfl)).elim
  ·
    obtain ⟨dv1, a1_0, -⟩ := hc1
    have d3 : dkN [(0, 5)] p0 := dkN_eq1 (dkN_top p0) a1_0 rfl rfl
    refine lv_if_eq (tgt := 16) hx hb dX6_put_5 (by decide) (fun c4 => ?_) (fun c4 => ?_)
    ·
      exact (dkN_nil (show dkN [] v1 from dkN_eq1 dv1 (dkN_lit (x := 0) (0) rfl) (congrArg Int32.toInt c4) rfl)).elim
    ·
      refine lv_aload_n hx hb dX6_put_8 rfl (lv_at hl 0 rfl) ?_
      refine lv_iload_n hx hb dX6_put_9 rfl (lv_at hl 2 rfl) ?_
      refine dk_Vi (As := [.int p1]) (rest := []) ⟨hx, hb, hml, hown, hts⟩ (c_X6_isStreet_0 l g z I1 p1 hO) (cwV 1 hts gX6_put_X6_isStreet rfl rfl rfl (by decide +kernel) ⟨Nat.le_of_ble_eq_true rfl, Nat.le_of_ble_eq_true rfl⟩) (dk_at340 hW) rfl hK hT hW hS rfl hl.1 rfl (Nat.le_of_ble_eq_true rfl) dX6_put_10 ⟨Nat.zero_le _, Nat.zero_le _⟩ (fun v5 I5 H5 L5 hp5 hW hS => ?_)
      obtain ⟨hF5, hO, hc5⟩ := hp5
      have hF := dkF_call hF hF5 rfl
      have hP := dkPP_F hP hF5 rfl
      rcases hc5 with ⟨dv5, -⟩ | hc5
      ·
        refine lv_if_ne (tgt := 19) hx hb dX6_put_13 (by decide) (fun c6 => ?_) (fun c6 => ?_)
        ·
          exact (dkN_nil (show dkN [] v5 from dkN_ne1 (0) dv5 (dkN_lit (x := 0) (0) rfl) (dk_ne c6) rfl)).elim
        ·
          refine lv_ldc (v := (-1000001)) hx hb hown (hts (.constant RX6 64 (-1000001)) (List.mem_of_getElem? (i := 1) rfl)) dX6_put_16 ?_
          exact W.iret (v := (-1000001)) hx hb hr (fun t ht hW9 => ⟨⟨(-1000001), I5, rfl, ⟨hF, hO, hP, ⟨trivial, trivial⟩⟩, dkW_eq ht hW⟩, hS.F ht⟩) hS.2.2 dX6_put_18
      ·
        obtain ⟨dv5, a5_0, -⟩ := hc5
        have d7 : dkN [(0, 8)] p1 := dkN_eq1 (dkN_top p1) a5_0 rfl rfl
        refine lv_if_ne (tgt := 19) hx hb dX6_put_13 (by decide) (fun c8 => ?_) (fun c8 => ?_)
        ·
          refine lv_aload_n hx hb dX6_put_19 rfl (lv_at hl 0 rfl) ?_
          refine dk_get (k := 340) hx hb hts iX6_put_6 hown hK (dk_at340 hW) rfl 13 (by decide) (hts (.fieldLink RX6 25 "DogKingsModel" "now" "[I") (List.mem_of_getElem? (i := 2) rfl)) rfl dX6_put_20 ?_
          refine lv_bipush (v := 36) hx hb dX6_put_23 (by decide) ?_
          refine lv_iconst (v := 3) hx hb dX6_put_25 (by decide) ?_
          refine lv_iload_n hx hb dX6_put_26 rfl (lv_at hl 1 rfl) ?_
          refine lv_imul hx hb dX6_put_27 ?_
          refine lv_topi (fun v9 ev9 => ?_)
          have dv9 : dkN [(0, 0), (3, 3), (6, 6), (9, 9), (12, 12), (15, 15)] v9 := by rw [ev9]; exact dkN_mulPt 3 (dkN_lit (x := 3) (3) rfl) d3 rfl
          refine lv_iadd hx hb dX6_put_28 ?_
          refine lv_topi (fun v10 ev10 => ?_)
          have dv10 : dkN [(36, 36), (39, 39), (42, 42), (45, 45), (48, 48), (51, 51)] v10 := by rw [ev10]; exact dkN_add (dkN_lit (x := 36) (36) rfl) dv9 rfl
          refine lv_iconst (v := 2) hx hb dX6_put_29 (by decide) ?_
          refine lv_iadd hx hb dX6_put_30 ?_
          refine lv_topi (fun v11 ev11 => ?_)
          have dv11 : dkN [(38, 38), (41, 41), (44, 44), (47, 47), (50, 50), (53, 53)] v11 := by rw [ev11]; exact dkN_add dv10 (dkN_lit (x := 2) (2) rfl) rfl
          refine dk_ild (k := 346) hx hb hK (dk_at346 hW) (dkN_in (n := 54) dv11 rfl) dX6_put_31 ?_
          refine lv_topi (fun v12 ev12 => ?_)
          refine lv_istore_n (lv' := [(3, .int v12), (0, .ref (z + 340)), (1, .int p0), (2, .int p1)]) hx hb dX6_put_32 rfl hl (by decide) rfl (fun ls hl => ?_)
          refine lv_iload_n hx hb dX6_put_33 rfl (lv_at hl 0 rfl) ?_
          refine lv_iload_n hx hb dX6_put_34 rfl (lv_at hl 3 rfl) ?_
          refine lv_icmp_ne (tgt := 41) hx hb dX6_put_35 (by decide) (fun c13 => ?_) (fun c13 => ?_)
          ·
            refine lv_aload_n hx hb dX6_put_41 rfl (lv_at hl 1 rfl) ?_
            refine dk_Vv (As := []) (rest := []) ⟨hx, hb, hml, hown, hts⟩ (c_X6_notes l g z I5 hO hP) (cwV 0 hts gX6_put_X6_notes rfl rfl rfl (by decide +kernel) ⟨Nat.le_of_ble_eq_true rfl, Nat.le_of_ble_eq_true rfl⟩) (dk_at340 hW) rfl hK hT hW hS rfl hl.1 rfl (Nat.le_of_ble_eq_true rfl) dX6_put_42 ⟨Nat.zero_le _, Nat.zero_le _⟩ (fun I14 H14 L14 hp14 hW hS => ?_)
            obtain ⟨hF14, hO, hP, hc14⟩ := hp14
            have hF := dkF_call hF hF14 rfl
            obtain ⟨f14_340_17, -⟩ := hc14
            refine lv_aload_n hx hb dX6_put_45 rfl (lv_at hl 1 rfl) ?_
            refine dk_get (k := 340) hx hb hts iX6_put_6 hown hK (dk_at340 hW) rfl 13 (by decide) (hts (.fieldLink RX6 25 "DogKingsModel" "now" "[I") (List.mem_of_getElem? (i := 2) rfl)) rfl dX6_put_46 ?_
            refine lv_bipush (v := 36) hx hb dX6_put_49 (by decide) ?_
            refine lv_iconst (v := 3) hx hb dX6_put_51 (by decide) ?_
            refine lv_iload_n hx hb dX6_put_52 rfl (lv_at hl 2 rfl) ?_
            refine lv_imul hx hb dX6_put_53 ?_
            refine lv_topi (fun v15 ev15 => ?_)
            have dv15 : dkN [(0, 0), (3, 3), (6, 6), (9, 9), (12, 12), (15, 15)] v15 := by rw [ev15]; exact dkN_mulPt 3 (dkN_lit (x := 3) (3) rfl) d3 rfl
            refine lv_iadd hx hb dX6_put_54 ?_
            refine lv_topi (fun v16 ev16 => ?_)
            have dv16 : dkN [(36, 36), (39, 39), (42, 42), (45, 45), (48, 48), (51, 51)] v16 := by rw [ev16]; exact dkN_add (dkN_lit (x := 36) (36) rfl) dv15 rfl
            refine lv_iconst (v := 2) hx hb dX6_put_55 (by decide) ?_
            refine lv_iadd hx hb dX6_put_56 ?_
            refine lv_topi (fun v17 ev17 => ?_)
            have dv17 : dkN [(38, 38), (41, 41), (44, 44), (47, 47), (50, 50), (53, 53)] v17 := by rw [ev17]; exact dkN_add dv16 (dkN_lit (x := 2) (2) rfl) rfl
            refine lv_iload_n hx hb dX6_put_57 rfl (lv_at hl 3 rfl) ?_
            refine dk_ist (k := 346) hx hb hK hW (fun _ => rfl) (by decide) hS (dkN_in (n := 54) dv17 rfl) dX6_put_58 (fun I18 H18 L18 eI18 hW hS => ?_)
            have hO := dkO_set hO eI18 (by rw [dkB_w (k := 346) (B := [(-2147483648, 2147483647)]) (by decide) dv17 rfl]; exact dkN_top _)
            have hF := dkF_set hF eI18 (dkIn_v dv17 rfl)
            have hP := dkPP_set hP eI18 (dkPPb_v dv17 rfl)
            refine lv_iload_n hx hb dX6_put_59 rfl (lv_at hl 0 rfl) ?_
            exact W.iret (v := v12) hx hb hr (fun t ht hW9 => ⟨⟨v12, I18, rfl, ⟨hF, hO, hP, ⟨trivial, trivial⟩⟩, dkW_eq ht hW⟩, hS.F ht⟩) hS.2.2 dX6_put_60
          ·
            have d19 : dkN [(0, 8)] v12 := dkN_eq1 (dkN_top v12) d7 (congrArg Int32.toInt c13) rfl
            refine lv_ldc (v := (-1000002)) hx hb hown (hts (.constant RX6 185 (-1000002)) (List.mem_of_getElem? (i := 3) rfl)) dX6_put_38 ?_
            exact W.iret (v := (-1000002)) hx hb hr (fun t ht hW9 => ⟨⟨(-1000002), I5, rfl, ⟨hF, hO, hP, ⟨trivial, trivial⟩⟩, dkW_eq ht hW⟩, hS.F ht⟩) hS.2.2 dX6_put_40
        ·
          exact (dkN_nil (show dkN [] v5 from dkN_eq1 dv5 (dkN_lit (x := 0) (0) rfl) (congrArg Int32.toInt c8) rfl)).elim
set_option maxHeartbeats 4000000 in
set_option maxRecDepth 100000 in
theorem c_X0_takeBack_0 (l : Launch) (g : dkG) (z : Nat) (I0 : dkI) (t0 : Nat) (ht0 : dkT t0)  (hO : dkOk I0) : Met l yX0_takeBack wsX0_takeBack (dkR 1) (dkPc g z [.ref (z + 59), .ref (z + t0)] I0) (dkQi g z (fun r I1 => dkF [(t0, t0, 0, 4), (t0, t0, 11, 11), (t0, t0, 15, 17), (t0 + 1, t0 + 1, 0, 4), (t0 + 2, t0 + 2, 0, 4), (t0 + 3, t0 + 3, 0, 4), (t0 + 4, t0 + 4, 0, 4), (t0 + 5, t0 + 5, 0, 4), (t0 + 6, t0 + 6, 0, 4), (t0 + 7, t0 + 7, 0, 5), (t0 + 8, t0 + 8, 0, 5), (t0 + 9, t0 + 9, 0, 5), (59, 59, 1, 2)] I0 I1 ∧ dkOk I1 ∧ ((dkN [(0, 23)] r ∧ dkN [(0, 23)] (I1 59 2) ∧ True)))) 0 0 (dkA z) := by
  refine Met.ofW (cc := cX0_takeBack) (maxL := 2) (ret := (some .int)) (by decide) rfl ?_
  intro p e s m args below meth c s₁ B hml hv
  obtain ⟨ha, hW, hK, hT⟩ := hv
  have hx := B.exec
  have hb := B.bytes
  have hr := B.returns
  have hts := atoms_spec (ws := wsX0_takeBack) B.pre
  have hown : s.vm.findClass RX0 = some m.cls := findClass_of_methodNamed B.named
  have hlocks := B.notSynchronized
  have hS : va_S (dkA z) s.heap s.heap [] := va_S.rf
  have hF : dkF [(t0, t0, 0, 4), (t0, t0, 11, 11), (t0, t0, 15, 17), (t0 + 1, t0 + 1, 0, 4), (t0 + 2, t0 + 2, 0, 4), (t0 + 3, t0 + 3, 0, 4), (t0 + 4, t0 + 4, 0, 4), (t0 + 5, t0 + 5, 0, 4), (t0 + 6, t0 + 6, 0, 4), (t0 + 7, t0 + 7, 0, 5), (t0 + 8, t0 + 8, 0, 5), (t0 + 9, t0 + 9, 0, 5), (59, 59, 1, 2)] I0 I0 := dkF_rf _ _
  have hl := lv_entry ([.ref (z + 59), .ref (z + t0)]) (n := 2) (Nat.le_of_ble_eq_true rfl)
  have hgo : entryFrame m args 2 = entryFrame m ([.ref (z + 59), .ref (z + t0)] : List Value).toArray 2 := by rw [ha]
  rw [hgo, lg_entry_eq]
  generalize (lg_sl ([.ref (z + 59), .ref (z + t0)]) ++ List.replicate (2 - (lg_sl ([.ref (z + 59), .ref (z + t0)])).length) Slot.unset).toArray = ls at hl ⊢
  have hl : lv_has ls 2 [(0, .ref (z + 59)), (1, .ref (z + t0))] := hl
  refine lv_aload_n hx hb dX0_takeBack_0 rfl (lv_at hl 0 rfl) ?_
  refine dk_get (k := 59) hx hb hts iX0_takeBack_0 hown hK (dk_at59 hW) rfl 2 (by decide) (hts (.fieldLink RX0 24 "DogKings$Acts" "kept" "I") (List.mem_of_getElem? (i := 1) rfl)) rfl dX0_takeBack_1 ?_
  refine lv_topi (fun v1 ev1 => ?_)
  have dv1 : dkN [(0, 24)] v1 := by rw [ev1]; exact (hO 59 2)
  refine lv_if_le (tgt := 46) hx hb dX0_takeBack_4 (by decide) (fun c2 => ?_) (fun c2 => ?_)
  ·
    have d3 : dkN [(0, 0)] v1 := dkN_le1 0 dv1 (dkN_lit (x := 0) (0) rfl) (dkc_le c2) rfl
    have f4 : dkN [(0, 0)] (I0 59 2) := by rw [← ev1]; exact d3
    refine lv_aload_n hx hb dX0_takeBack_46 rfl (lv_at hl 0 rfl) ?_
    refine dk_get (k := 59) hx hb hts iX0_takeBack_0 hown hK (dk_at59 hW) rfl 2 (by decide) (hts (.fieldLink RX0 24 "DogKings$Acts" "kept" "I") (List.mem_of_getElem? (i := 1) rfl)) rfl dX0_takeBack_47 ?_
    refine lv_topi (fun v5 ev5 => ?_)
    have dv5 : dkN [(0, 0)] v5 := by rw [ev5]; exact f4
    exact W.iret (v := v5) hx hb hr (fun t ht hW9 => ⟨⟨v5, I0, rfl, ⟨hF, hO, ⟨dkN_sub dv5 rfl, (show dkN [(0, 23)] (I0 59 2) from dkN_sub f4 rfl), trivial⟩⟩, dkW_eq ht hW⟩, hS.F ht⟩) hS.2.2 dX0_takeBack_50
  ·
    have d6 : dkN [(1, 24)] v1 := dkN_le2 1 (dkN_lit (x := 0) (0) rfl) dv1 (dkc_nle c2) rfl
    have f7 : dkN [(1, 24)] (I0 59 2) := by rw [← ev1]; exact d6
    refine lv_aload_n hx hb dX0_takeBack_7 rfl (lv_at hl 0 rfl) ?_
    refine lv_aload_n hx hb dX0_takeBack_8 rfl (lv_at hl 0 rfl) ?_
    refine dk_get (k := 59) hx hb hts iX0_takeBack_0 hown hK (dk_at59 hW) rfl 1 (by decide) (hts (.fieldLink RX0 16 "DogKings$Acts" "next" "I") (List.mem_of_getElem? (i := 2) rfl)) rfl dX0_takeBack_9 ?_
    refine lv_topi (fun v8 ev8 => ?_)
    have dv8 : dkN [(0, 23)] v8 := by rw [ev8]; exact (hO 59 1)
    refine lv_bipush (v := 24) hx hb dX0_takeBack_12 (by decide) ?_
    refine lv_iadd hx hb dX0_takeBack_14 ?_
    refine lv_topi (fun v9 ev9 => ?_)
    have dv9 : dkN [(24, 47)] v9 := by rw [ev9]; exact dkN_add dv8 (dkN_lit (x := 24) (24) rfl) rfl
    refine lv_iconst (v := 1) hx hb dX0_takeBack_15 (by decide) ?_
    refine lv_isub hx hb dX0_takeBack_16 ?_
    refine lv_topi (fun v10 ev10 => ?_)
    have dv10 : dkN [(23, 46)] v10 := by rw [ev10]; exact dkN_subt dv9 (dkN_lit (x := 1) (1) rfl) rfl
    refine lv_bipush (v := 24) hx hb dX0_takeBack_17 (by decide) ?_
    refine lv_irem hx hb dX0_takeBack_19 (dkN_ne0 (dkN_lit (x := 24) (24) rfl) rfl) ?_
    refine lv_topi (fun v11 ev11 => ?_)
    have dv11 : dkN [(0, 23)] v11 := by rw [ev11]; exact dkN_rem 24 (by decide) dv10 (dkN_lit (x := 24) (24) rfl) rfl
    refine dk_put (k := 59) hx hb hts iX0_takeBack_0 tyX0 tyX0_ok nmX0 hown hK hW (dk_at59 hW) hS rfl 1 (by decide) (hts (.fieldLink RX0 16 "DogKings$Acts" "next" "I") (List.mem_of_getElem? (i := 2) rfl)) rfl rfl (Nat.le_of_ble_eq_true rfl) rfl dX0_takeBack_20 (fun I12 H12 L12 eI12 hW hS => ?_)
    have eI12 : I12 = dkU I0 59 1 v11 := eI12
    have hO := dkO_set hO eI12 (dkN_sub dv11 rfl)
    have hF := dkF_set hF eI12 (dkIn_at (i := 12) rfl (by decide) (by decide) (by decide) (by decide))
    refine lv_aload_n hx hb dX0_takeBack_23 rfl (lv_at hl 0 rfl) ?_
    refine lv_dup hx hb dX0_takeBack_24 rfl ?_
    refine dk_get (k := 59) hx hb hts iX0_takeBack_0 hown hK (dk_at59 hW) rfl 2 (by decide) (hts (.fieldLink RX0 24 "DogKings$Acts" "kept" "I") (List.mem_of_getElem? (i := 1) rfl)) rfl dX0_takeBack_25 ?_
    refine lv_topi (fun v13 ev13 => ?_)
    have dv13 : dkN [(1, 24)] v13 := by rw [ev13]; exact (by rw [eI12, dkU_sn (by decide)]; exact f7)
    refine lv_iconst (v := 1) hx hb dX0_takeBack_28 (by decide) ?_
    refine lv_isub hx hb dX0_takeBack_29 ?_
    refine lv_topi (fun v14 ev14 => ?_)
    have dv14 : dkN [(0, 23)] v14 := by rw [ev14]; exact dkN_subt dv13 (dkN_lit (x := 1) (1) rfl) rfl
    refine dk_put (k := 59) hx hb hts iX0_takeBack_0 tyX0 tyX0_ok nmX0 hown hK hW (dk_at59 hW) hS rfl 2 (by decide) (hts (.fieldLink RX0 24 "DogKings$Acts" "kept" "I") (List.mem_of_getElem? (i := 1) rfl)) rfl rfl (Nat.le_of_ble_eq_true rfl) rfl dX0_takeBack_30 (fun I15 H15 L15 eI15 hW hS => ?_)
    have eI15 : I15 = dkU I12 59 2 v14 := eI15
    have hO := dkO_set hO eI15 (dkN_sub dv14 rfl)
    have hF := dkF_set hF eI15 (dkIn_at (i := 12) rfl (by decide) (by decide) (by decide) (by decide))
    refine lv_aload_n hx hb dX0_takeBack_33 rfl (lv_at hl 1 rfl) ?_
    refine lv_aload_n hx hb dX0_takeBack_34 rfl (lv_at hl 0 rfl) ?_
    refine dk_get (k := 59) hx hb hts iX0_takeBack_0 hown hK (dk_at59 hW) rfl 0 (by decide) (hts (.fieldLink RX0 11 "DogKings$Acts" "before" "[LDogKings$Town;") (List.mem_of_getElem? (i := 3) rfl)) rfl dX0_takeBack_35 ?_
    refine lv_aload_n hx hb dX0_takeBack_38 rfl (lv_at hl 0 rfl) ?_
    refine dk_get (k := 59) hx hb hts iX0_takeBack_0 hown hK (dk_at59 hW) rfl 1 (by decide) (hts (.fieldLink RX0 16 "DogKings$Acts" "next" "I") (List.mem_of_getElem? (i := 2) rfl)) rfl dX0_takeBack_39 ?_
    refine lv_topi (fun v16 ev16 => ?_)
    have dv16 : dkN [(0, 23)] v16 := by rw [ev16]; exact (hO 59 1)
    obtain ⟨tf17, htf17, etf17, hlotf17, hhitf17⟩ := dk_townAt60 (z := z) (dkN_in (n := 24) dv16 rfl)
    refine dk_tld (r := z + tf17) hx hb hK (dk_at60 hW) (dkN_in (n := 24) dv16 rfl) etf17 dX0_takeBack_42 ?_
    refine dk_Vv (As := [.ref (z + tf17)]) (rest := []) ⟨hx, hb, hml, hown, hts⟩ (c_X4_become_0 l g z I15 t0 ht0 tf17 htf17 hO) (cwV 1 hts gX0_takeBack_X4_become rfl rfl rfl (by decide +kernel) ⟨Nat.le_of_ble_eq_true rfl, Nat.le_of_ble_eq_true rfl⟩) (dk_aT0 ht0 hW) rfl hK hT hW hS rfl hl.1 rfl (Nat.le_of_ble_eq_true rfl) dX0_takeBack_43 ⟨Nat.zero_le _, Nat.zero_le _⟩ (fun I18 H18 L18 hp18 hW hS => ?_)
    obtain ⟨hF18, hO, hc18⟩ := hp18
    have hF := dkF_callP hF hF18 (dkSub_cons (i := 0) rfl (Nat.le_refl _) (Nat.le_refl _) (by decide) (by decide) (dkSub_cons (i := 1) rfl (Nat.le_refl _) (Nat.le_refl _) (by decide) (by decide) (dkSub_cons (i := 2) rfl (Nat.le_refl _) (Nat.le_refl _) (by decide) (by decide) (dkSub_cons (i := 3) rfl (Nat.le_refl _) (Nat.le_refl _) (by decide) (by decide) (dkSub_cons (i := 4) rfl (Nat.le_refl _) (Nat.le_refl _) (by decide) (by decide) (dkSub_cons (i := 5) rfl (Nat.le_refl _) (Nat.le_refl _) (by decide) (by decide) (dkSub_cons (i := 6) rfl (Nat.le_refl _) (Nat.le_refl _) (by decide) (by decide) (dkSub_cons (i := 7) rfl (Nat.le_refl _) (Nat.le_refl _) (by decide) (by decide) (dkSub_cons (i := 8) rfl (Nat.le_refl _) (Nat.le_refl _) (by decide) (by decide) (dkSub_cons (i := 9) rfl (Nat.le_refl _) (Nat.le_refl _) (by decide) (by decide) (dkSub_cons (i := 10) rfl (Nat.le_refl _) (Nat.le_refl _) (by decide) (by decide) (dkSub_cons (i := 11) rfl (Nat.le_refl _) (Nat.le_refl _) (by decide) (by decide) dkSub_nil))))))))))))
    refine lv_aload_n hx hb dX0_takeBack_46 rfl (lv_at hl 0 rfl) ?_
    refine dk_get (k := 59) hx hb hts iX0_takeBack_0 hown hK (dk_at59 hW) rfl 2 (by decide) (hts (.fieldLink RX0 24 "DogKings$Acts" "kept" "I") (List.mem_of_getElem? (i := 1) rfl)) rfl dX0_takeBack_47 ?_
    refine lv_topi (fun v19 ev19 => ?_)
    have dv19 : dkN [(0, 23)] v19 := by rw [ev19]; exact (by rw [hF18 59 2 (dkNin_n (dkT_ne (c := 0) ht0 (by decide) rfl) (dkNin_n (dkT_ne (c := 0) ht0 (by decide) rfl) (dkNin_n (dkT_ne (c := 0) ht0 (by decide) rfl) (dkNin_n (dkT_ne (c := 1) ht0 (by decide) rfl) (dkNin_n (dkT_ne (c := 2) ht0 (by decide) rfl) (dkNin_n (dkT_ne (c := 3) ht0 (by decide) rfl) (dkNin_n (dkT_ne (c := 4) ht0 (by decide) rfl) (dkNin_n (dkT_ne (c := 5) ht0 (by decide) rfl) (dkNin_n (dkT_ne (c := 6) ht0 (by decide) rfl) (dkNin_n (dkT_ne (c := 7) ht0 (by decide) rfl) (dkNin_n (dkT_ne (c := 8) ht0 (by decide) rfl) (dkNin_n (dkT_ne (c := 9) ht0 (by decide) rfl) dkNin_nil))))))))))))]; exact (by rw [eI15, dkU_ss]; exact dv14))
    exact W.iret (v := v19) hx hb hr (fun t ht hW9 => ⟨⟨v19, I18, rfl, ⟨hF, hO, ⟨dkN_sub dv19 rfl, (show dkN [(0, 23)] (I18 59 2) from dkN_sub (by rw [hF18 59 2 (dkNin_n (dkT_ne (c := 0) ht0 (by decide) rfl) (dkNin_n (dkT_ne (c := 0) ht0 (by decide) rfl) (dkNin_n (dkT_ne (c := 0) ht0 (by decide) rfl) (dkNin_n (dkT_ne (c := 1) ht0 (by decide) rfl) (dkNin_n (dkT_ne (c := 2) ht0 (by decide) rfl) (dkNin_n (dkT_ne (c := 3) ht0 (by decide) rfl) (dkNin_n (dkT_ne (c := 4) ht0 (by decide) rfl) (dkNin_n (dkT_ne (c := 5) ht0 (by decide) rfl) (dkNin_n (dkT_ne (c := 6) ht0 (by decide) rfl) (dkNin_n (dkT_ne (c := 7) ht0 (by decide) rfl) (dkNin_n (dkT_ne (c := 8) ht0 (by decide) rfl) (dkNin_n (dkT_ne (c := 9) ht0 (by decide) rfl) dkNin_nil))))))))))))]; exact (by rw [eI15, dkU_ss]; exact dv14)) rfl), trivial⟩⟩, dkW_eq ht hW⟩, hS.F ht⟩) hS.2.2 dX0_takeBack_50
set_option maxHeartbeats 4000000 in
set_option maxRecDepth 100000 in
theorem c_X5_undo_0 (l : Launch) (g : dkG) (z : Nat) (I0 : dkI)  (hO : dkOk I0) : Met l yX5_undo wsX5_undo (dkR 2) (dkPc g z [.ref (z + 0)] I0) (dkQi g z (fun r I1 => dkF [(25, 25, 0, 4), (25, 25, 11, 11), (25, 25, 15, 17), (26, 26, 0, 4), (27, 27, 0, 4), (28, 28, 0, 4), (29, 29, 0, 4), (30, 30, 0, 4), (31, 31, 0, 4), (32, 32, 0, 5), (33, 33, 0, 5), (34, 34, 0, 5), (59, 59, 1, 2)] I0 I1 ∧ dkOk I1 ∧ ((dkN [(-1000002, -1000002)] r ∧ dkN [(0, 0)] (I1 59 2) ∧ True) ∨ (dkN [(0, 23)] r ∧ dkN [(0, 23)] (I1 59 2) ∧ True)))) 0 0 (dkA z) := by
  refine Met.ofW (cc := cX5_undo) (maxL := 1) (ret := (some .int)) (by decide) rfl ?_
  intro p e s m args below meth c s₁ B hml hv
  obtain ⟨ha, hW, hK, hT⟩ := hv
  have hx := B.exec
  have hb := B.bytes
  have hr := B.returns
  have hts := atoms_spec (ws := wsX5_undo) B.pre
  have hown : s.vm.findClass RX5 = some m.cls := findClass_of_methodNamed B.named
  have hlocks := B.notSynchronized
  have hS : va_S (dkA z) s.heap s.heap [] := va_S.rf
  have hF : dkF [(25, 25, 0, 4), (25, 25, 11, 11), (25, 25, 15, 17), (26, 26, 0, 4), (27, 27, 0, 4), (28, 28, 0, 4), (29, 29, 0, 4), (30, 30, 0, 4), (31, 31, 0, 4), (32, 32, 0, 5), (33, 33, 0, 5), (34, 34, 0, 5), (59, 59, 1, 2)] I0 I0 := dkF_rf _ _
  have hl := lv_entry ([.ref (z + 0)]) (n := 1) (Nat.le_of_ble_eq_true rfl)
  have hgo : entryFrame m args 1 = entryFrame m ([.ref (z + 0)] : List Value).toArray 1 := by rw [ha]
  rw [hgo, lg_entry_eq]
  generalize (lg_sl ([.ref (z + 0)]) ++ List.replicate (1 - (lg_sl ([.ref (z + 0)])).length) Slot.unset).toArray = ls at hl ⊢
  have hl : lv_has ls 1 [(0, .ref (z + 0))] := hl
  refine lv_aload_n hx hb dX5_undo_0 rfl (lv_at hl 0 rfl) ?_
  refine dk_get (k := 0) hx hb hts iX5_undo_5 hown hK (dk_at0 hW) rfl 7 (by decide) (hts (.fieldLink RX5 42 "DogKings" "acts" "LDogKings$Acts;") (List.mem_of_getElem? (i := 1) rfl)) rfl dX5_undo_1 ?_
  refine dk_get (k := 59) hx hb hts iX5_undo_0 hown hK (dk_at59 hW) rfl 2 (by decide) (hts (.fieldLink RX5 158 "DogKings$Acts" "kept" "I") (List.mem_of_getElem? (i := 2) rfl)) rfl dX5_undo_4 ?_
  refine lv_topi (fun v1 ev1 => ?_)
  have dv1 : dkN [(0, 24)] v1 := by rw [ev1]; exact (hO 59 2)
  refine lv_if_ne (tgt := 15) hx hb dX5_undo_7 (by decide) (fun c2 => ?_) (fun c2 => ?_)
  ·
    have d3 : dkN [(1, 24)] v1 := dkN_ne1 (0) dv1 (dkN_lit (x := 0) (0) rfl) (dk_ne c2) rfl
    have f4 : dkN [(1, 24)] (I0 59 2) := by rw [← ev1]; exact d3
    refine lv_aload_n hx hb dX5_undo_15 rfl (lv_at hl 0 rfl) ?_
    refine dk_get (k := 0) hx hb hts iX5_undo_5 hown hK (dk_at0 hW) rfl 7 (by decide) (hts (.fieldLink RX5 42 "DogKings" "acts" "LDogKings$Acts;") (List.mem_of_getElem? (i := 1) rfl)) rfl dX5_undo_16 ?_
    refine lv_aload_n hx hb dX5_undo_19 rfl (lv_at hl 0 rfl) ?_
    refine dk_get (k := 0) hx hb hts iX5_undo_5 hown hK (dk_at0 hW) rfl 5 (by decide) (hts (.fieldLink RX5 31 "DogKings" "now" "LDogKings$Town;") (List.mem_of_getElem? (i := 4) rfl)) rfl dX5_undo_20 ?_
    refine dk_Vi (As := [.ref (z + 25)]) (rest := []) ⟨hx, hb, hml, hown, hts⟩ (c_X0_takeBack_0 l g z I0 (25) (by unfold dkT; omega) hO) (cwV 1 hts gX5_undo_X0_takeBack rfl rfl rfl (by decide +kernel) ⟨Nat.le_of_ble_eq_true rfl, Nat.le_of_ble_eq_true rfl⟩) (dk_at59 hW) rfl hK hT hW hS rfl hl.1 rfl (Nat.le_of_ble_eq_true rfl) dX5_undo_23 ⟨Nat.zero_le _, Nat.zero_le _⟩ (fun v5 I5 H5 L5 hp5 hW hS => ?_)
    obtain ⟨hF5, hO, hc5⟩ := hp5
    have hF := dkF_call hF hF5 rfl
    obtain ⟨dv5, f5_59_2, -⟩ := hc5
    exact W.iret (v := v5) hx hb hr (fun t ht hW9 => ⟨⟨v5, I5, rfl, ⟨hF, hO, Or.inr (⟨dkN_sub dv5 rfl, (show dkN [(0, 23)] (I5 59 2) from dkN_sub f5_59_2 rfl), trivial⟩)⟩, dkW_eq ht hW⟩, hS.F ht⟩) hS.2.2 dX5_undo_26
  ·
    have d6 : dkN [(0, 0)] v1 := dkN_eq1 dv1 (dkN_lit (x := 0) (0) rfl) (congrArg Int32.toInt c2) rfl
    have f7 : dkN [(0, 0)] (I0 59 2) := by rw [← ev1]; exact d6
    refine lv_ldc (v := (-1000002)) hx hb hown (hts (.constant RX5 129 (-1000002)) (List.mem_of_getElem? (i := 3) rfl)) dX5_undo_10 ?_
    refine lv_goto (tgt := 26) hx hb dX5_undo_12 (by decide) ?_
    exact W.iret (v := (-1000002)) hx hb hr (fun t ht hW9 => ⟨⟨(-1000002), I0, rfl, ⟨hF, hO, Or.inl ⟨dkN_sub (dkN_lit (x := (-1000002)) (-1000002) rfl) rfl, (show dkN [(0, 0)] (I0 59 2) from dkN_sub f7 rfl), trivial⟩⟩, dkW_eq ht hW⟩, hS.F ht⟩) hS.2.2 dX5_undo_26
