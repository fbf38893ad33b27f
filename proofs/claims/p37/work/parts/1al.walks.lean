set_option maxHeartbeats 4000000 in
set_option maxRecDepth 100000 in
theorem c_X6_asleep_0 (l : Launch) (g : dkG) (z : Nat) (I0 : dkI) (p0 : Int32) (p1 : Int32) (p2 : Int32)  (hO : dkOk I0) : Met l yX6_asleep wsX6_asleep (dkR 7) (dkPc g z [.ref (z + 340), .int p0, .int p1, .int p2] I0) (dkQi g z (fun r I1 => dkF [(340, 340, 20, 22), (348, 348, 0, 53)] I0 I1 ∧ dkOk I1 ∧ ((True ∧ True)))) 0 0 (dkA z) := by
  refine Met.ofW (cc := cX6_asleep) (maxL := 9) (ret := (some .int)) (by decide) rfl ?_
  intro p e s m args below meth c s₁ B hml hv
  obtain ⟨ha, hW, hK, hT⟩ := hv
  have hx := B.exec
  have hb := B.bytes
  have hr := B.returns
  have hts := atoms_spec (ws := wsX6_asleep) B.pre
  have hown : s.vm.findClass RX6 = some m.cls := findClass_of_methodNamed B.named
  have hlocks := B.notSynchronized
  have hS : va_S (dkA z) s.heap s.heap [] := va_S.rf
  have hF : dkF [(340, 340, 20, 22), (348, 348, 0, 53)] I0 I0 := dkF_rf _ _
  have hl := lv_entry ([.ref (z + 340), .int p0, .int p1, .int p2]) (n := 9) (Nat.le_of_ble_eq_true rfl)
  have hgo : entryFrame m args 9 = entryFrame m ([.ref (z + 340), .int p0, .int p1, .int p2] : List Value).toArray 9 := by rw [ha]
  rw [hgo, lg_entry_eq]
  generalize (lg_sl ([.ref (z + 340), .int p0, .int p1, .int p2]) ++ List.replicate (9 - (lg_sl ([.ref (z + 340), .int p0, .int p1, .int p2])).length) Slot.unset).toArray = ls at hl ⊢
  have hl : lv_has ls 9 [(0, .ref (z + 340)), (1, .int p0), (2, .int p1), (3, .int p2)] := hl
  have C168 : ∀ (n : Nat), ∀ (I : dkI) (H : Heap) (locs : List Loc) (ls : Array Slot) (x168_4 : Int32) (x168_5 : Int32) (x168_6 : Int32) (x168_7 : Int32) (x168_8 : Int32), x168_7.toInt.natAbs < n → dkW g z I H → va_S (dkA z) s.heap H locs → dkF [(340, 340, 20, 22), (348, 348, 0, 53)] I0 I → dkOk I → dkN [(1, 1), (10, 10), (100, 100), (1000, 1000), (10000, 2147483647)] x168_5 → dkN [(-2147483648, -1), (1, 2147483647)] x168_6 → dkN [(0, 4)] p0 → dkN [(0, 10)] p1 → dkN [(0, 1)] p2 → lv_has ls 9 [(0, .ref (z + 340)), (1, .int p0), (2, .int p1), (3, .int p2), (4, .int x168_4), (5, .int x168_5), (6, .int x168_6), (7, .int x168_7), (8, .int x168_8)] → W p l e (headSpec wsX6_asleep (dkR 7)).room s m args below meth c H locs 0 0 (MQ below (dkQi g z (fun r I1 => dkF [(340, 340, 20, 22), (348, 348, 0, 53)] I0 I1 ∧ dkOk I1 ∧ ((True ∧ True)))) args s 0 0 (dkA z)) (F0 m 168 ls []) := by
    intro n
    induction n with
    | zero => intro I H locs ls x168_4 x168_5 x168_6 x168_7 x168_8 hn; exact absurd hn (Nat.not_lt_zero _)
    | succ n ih168 =>
      intro I168_ H locs ls x168_4 x168_5 x168_6 x168_7 x168_8 hn168 hW hS hF_168 hO k168_1 k168_2 r168_0 r168_1 r168_2 hl
      have hF := hF_168
      refine lv_iload hx hb dX6_asleep_168 (lv_at hl 7 rfl) ?_
      refine lv_if_eq (tgt := 191) hx hb dX6_asleep_170 (by decide) (fun c1 => ?_) (fun c1 => ?_)
      ·
        have d2 : dkN [(0, 0)] x168_7 := dkN_eq1 (dkN_top x168_7) (dkN_lit (x := 0) (0) rfl) (congrArg Int32.toInt c1) rfl
        refine lv_iload_n hx hb dX6_asleep_191 rfl (lv_at hl 3 rfl) ?_
        refine lv_if_ne (tgt := 200) hx hb dX6_asleep_192 (by decide) (fun c3 => ?_) (fun c3 => ?_)
        ·
          have d4 : dkN [(1, 1)] p2 := dkN_ne1 (0) r168_2 (dkN_lit (x := 0) (0) rfl) (dk_ne c3) rfl
          refine lv_iload hx hb dX6_asleep_200 (lv_at hl 5 rfl) ?_
          refine lv_iload hx hb dX6_asleep_202 (lv_at hl 6 rfl) ?_
          refine lv_idiv hx hb dX6_asleep_204 (dkN_ne0 k168_2 rfl) ?_
          refine lv_topi (fun v5 ev5 => ?_)
          exact W.iret (v := v5) hx hb hr (fun t ht hW9 => ⟨⟨v5, I168_, rfl, ⟨hF, hO, ⟨trivial, trivial⟩⟩, dkW_eq ht hW⟩, hS.F ht⟩) hS.2.2 dX6_asleep_205
        ·
          have d6 : dkN [(0, 0)] p2 := dkN_eq1 r168_2 (dkN_lit (x := 0) (0) rfl) (congrArg Int32.toInt c3) rfl
          refine lv_iload hx hb dX6_asleep_195 (lv_at hl 4 rfl) ?_
          refine lv_goto (tgt := 202) hx hb dX6_asleep_197 (by decide) ?_
          refine lv_iload hx hb dX6_asleep_202 (lv_at hl 6 rfl) ?_
          refine lv_idiv hx hb dX6_asleep_204 (dkN_ne0 k168_2 rfl) ?_
          refine lv_topi (fun v7 ev7 => ?_)
          exact W.iret (v := v7) hx hb hr (fun t ht hW9 => ⟨⟨v7, I168_, rfl, ⟨hF, hO, ⟨trivial, trivial⟩⟩, dkW_eq ht hW⟩, hS.F ht⟩) hS.2.2 dX6_asleep_205
      ·
        have d8 : dkN [(-2147483648, -1), (1, 2147483647)] x168_7 := dkN_ne1 (0) (dkN_top x168_7) (dkN_lit (x := 0) (0) rfl) (dk_ne c1) rfl
        refine lv_iload hx hb dX6_asleep_173 (lv_at hl 6 rfl) ?_
        refine lv_iload hx hb dX6_asleep_175 (lv_at hl 7 rfl) ?_
        refine lv_irem hx hb dX6_asleep_177 (dkN_ne0 d8 rfl) ?_
        refine lv_topi (fun v9 ev9 => ?_)
        refine lv_istore (lv' := [(8, .int v9), (0, .ref (z + 340)), (1, .int p0), (2, .int p1), (3, .int p2), (4, .int x168_4), (5, .int x168_5), (6, .int x168_6), (7, .int x168_7)]) hx hb dX6_asleep_178 hl (by decide) rfl (fun ls hl => ?_)
        refine lv_iload hx hb dX6_asleep_180 (lv_at hl 8 rfl) ?_
        refine lv_istore (lv' := [(6, .int x168_7), (8, .int v9), (0, .ref (z + 340)), (1, .int p0), (2, .int p1), (3, .int p2), (4, .int x168_4), (5, .int x168_5), (7, .int x168_7)]) hx hb dX6_asleep_182 hl (by decide) rfl (fun ls hl => ?_)
        refine lv_iload hx hb dX6_asleep_184 (lv_at hl 1 rfl) ?_
        refine lv_istore (lv' := [(7, .int v9), (6, .int x168_7), (8, .int v9), (0, .ref (z + 340)), (1, .int p0), (2, .int p1), (3, .int p2), (4, .int x168_4), (5, .int x168_5)]) hx hb dX6_asleep_186 hl (by decide) rfl (fun ls hl => ?_)
        refine lv_goto (tgt := 168) hx hb dX6_asleep_188 (by decide) ?_
        exact ih168 I168_ _ _ ls x168_4 x168_5 x168_7 v9 v9 (dk_nearG hn168 ev9 (dkN_ne0 d8 rfl)) hW hS hF hO (dkN_sub k168_1 rfl) (dkN_sub d8 rfl) (dkN_sub r168_0 rfl) (dkN_sub r168_1 rfl) (dkN_sub r168_2 rfl) (lv_sub hl [3, 4, 5, 6, 7, 8, 1, 0, 2] rfl)
  have C66 : ∀ (n : Nat), ∀ (I : dkI) (H : Heap) (locs : List Loc) (ls : Array Slot) (x66_4 : Int32) (x66_5 : Int32) (x66_6 : Int32), (2147483647 - x66_6.toInt).toNat < n → dkW g z I H → va_S (dkA z) s.heap H locs → dkF [(340, 340, 20, 22), (348, 348, 0, 53)] I0 I → dkOk I → dkN [(1, 1), (10, 10), (100, 100), (1000, 1000), (10000, 2147483647)] x66_5 → dkN [(0, 2147483647)] x66_6 → dkN [(0, 4)] p0 → dkN [(0, 10)] p1 → dkN [(0, 1)] p2 → lv_has ls 9 [(0, .ref (z + 340)), (1, .int p0), (2, .int p1), (3, .int p2), (4, .int x66_4), (5, .int x66_5), (6, .int x66_6)] → W p l e (headSpec wsX6_asleep (dkR 7)).room s m args below meth c H locs 0 0 (MQ below (dkQi g z (fun r I1 => dkF [(340, 340, 20, 22), (348, 348, 0, 53)] I0 I1 ∧ dkOk I1 ∧ ((True ∧ True)))) args s 0 0 (dkA z)) (F0 m 66 ls []) := by
    intro n
    induction n with
    | zero => intro I H locs ls x66_4 x66_5 x66_6 hn; exact absurd hn (Nat.not_lt_zero _)
    | succ n ih66 =>
      intro I66_ H locs ls x66_4 x66_5 x66_6 hn66 hW hS hF_66 hO k66_1 k66_2 r66_0 r66_1 r66_2 hl
      have hF := hF_66
      have C151 : ∀ (I : dkI) (H : Heap) (locs : List Loc) (ls : Array Slot) (x151_7 : Int32) (x151_8 : Int32) (x151_s0 : Int32), dkW g z I H → va_S (dkA z) s.heap H locs → dkF [(340, 340, 20, 22), (348, 348, 0, 53)] I0 I → dkOk I → dkN [(0, 6)] x151_8 → dkN [(0, 4)] p0 → dkN [(0, 10)] p1 → dkN [(0, 1)] p2 → dkN [(1, 1), (10, 10), (100, 100), (1000, 1000), (10000, 2147483647)] x66_5 → dkN [(0, 90)] x66_6 → dkN [(0, 0)] (I 340 20) → dkN [(0, 0)] (I 340 22) → dkN [(0, 2147483647)] (I 348 3) → lv_has ls 9 [(0, .ref (z + 340)), (1, .int p0), (2, .int p1), (3, .int p2), (4, .int x66_4), (5, .int x66_5), (6, .int x66_6), (7, .int x151_7), (8, .int x151_8)] → W p l e (headSpec wsX6_asleep (dkR 7)).room s m args below meth c H locs 0 0 (MQ below (dkQi g z (fun r I1 => dkF [(340, 340, 20, 22), (348, 348, 0, 53)] I0 I1 ∧ dkOk I1 ∧ ((True ∧ True)))) args s 0 0 (dkA z)) (F0 m 151 ls [.int x151_s0, .int x66_4]) := by
        intro I151_ H locs ls x151_7 x151_8 x151_s0 hW hS hF_151 hO k151_1 r151_0 r151_1 r151_2 r151_3 r151_4 f151_0 f151_1 f151_2 hl
        have hF := hF_151
        refine lv_iadd hx hb dX6_asleep_151 ?_
        refine lv_topi (fun v10 ev10 => ?_)
        refine lv_istore (lv' := [(4, .int v10), (0, .ref (z + 340)), (1, .int p0), (2, .int p1), (3, .int p2), (5, .int x66_5), (6, .int x66_6), (7, .int x151_7), (8, .int x151_8)]) hx hb dX6_asleep_152 hl (by decide) rfl (fun ls hl => ?_)
        obtain ⟨v11, ev11⟩ : ∃ y : Int32, y = x66_6 + 1 := ⟨_, rfl⟩
        have dv11 : dkN [(1, 91)] v11 := by rw [ev11]; exact dkN_add r151_4 (dkN_lit (x := 1) (1) rfl) rfl
        refine lv_iinc (v := v11) (lv' := [(6, .int v11), (4, .int v10), (0, .ref (z + 340)), (1, .int p0), (2, .int p1), (3, .int p2), (5, .int x66_5), (7, .int x151_7), (8, .int x151_8)]) hx hb dX6_asleep_154 hl (k := 6) rfl (by rw [ev11]; rfl) (by decide) rfl (fun ls hl => ?_)
        refine lv_goto (tgt := 66) hx hb dX6_asleep_157 (by decide) ?_
        exact ih66 I151_ _ _ ls v10 x66_5 v11 (dk_near hn66 (by rw [ev11]; exact dk_inc r151_4 rfl) (dkN_lt r151_4 rfl)) hW hS hF hO (dkN_sub r151_3 rfl) (dkN_sub dv11 rfl) (dkN_sub r151_0 rfl) (dkN_sub r151_1 rfl) (dkN_sub r151_2 rfl) (lv_sub hl [2, 3, 4, 5, 1, 6, 0] rfl)
      have C85 : ∀ (n : Nat), ∀ (I : dkI) (H : Heap) (locs : List Loc) (ls : Array Slot) (x85_7 : Int32) (x85_8 : Int32), (6 - x85_8.toInt).toNat < n → dkW g z I H → va_S (dkA z) s.heap H locs → dkF [(340, 340, 20, 22), (348, 348, 0, 53)] I0 I → dkOk I → dkN [(0, 6)] x85_8 → dkN [(0, 4)] p0 → dkN [(0, 10)] p1 → dkN [(0, 1)] p2 → dkN [(1, 1), (10, 10), (100, 100), (1000, 1000), (10000, 2147483647)] x66_5 → dkN [(0, 90)] x66_6 → lv_has ls 9 [(0, .ref (z + 340)), (1, .int p0), (2, .int p1), (3, .int p2), (4, .int x66_4), (5, .int x66_5), (6, .int x66_6), (7, .int x85_7), (8, .int x85_8)] → W p l e (headSpec wsX6_asleep (dkR 7)).room s m args below meth c H locs 0 0 (MQ below (dkQi g z (fun r I1 => dkF [(340, 340, 20, 22), (348, 348, 0, 53)] I0 I1 ∧ dkOk I1 ∧ ((True ∧ True)))) args s 0 0 (dkA z)) (F0 m 85 ls []) := by
        intro n
        induction n with
        | zero => intro I H locs ls x85_7 x85_8 hn; exact absurd hn (Nat.not_lt_zero _)
        | succ n ih85 =>
          intro I85_ H locs ls x85_7 x85_8 hn85 hW hS hF_85 hO k85_1 r85_0 r85_1 r85_2 r85_3 r85_4 hl
          have hF := hF_85
          have C116 : ∀ (I : dkI) (H : Heap) (locs : List Loc) (ls : Array Slot) (x116_s0 : Int32), dkW g z I H → va_S (dkA z) s.heap H locs → dkF [(340, 340, 20, 22), (348, 348, 0, 53)] I0 I → dkOk I → dkN [(0, 10)] x116_s0 → dkN [(0, 4)] p0 → dkN [(0, 10)] p1 → dkN [(0, 1)] p2 → dkN [(1, 1), (10, 10), (100, 100), (1000, 1000), (10000, 2147483647)] x66_5 → dkN [(0, 90)] x66_6 → dkN [(0, 5)] x85_8 → dkN [(1, 6)] (I 346 5) → lv_has ls 9 [(0, .ref (z + 340)), (1, .int p0), (2, .int p1), (3, .int p2), (4, .int x66_4), (5, .int x66_5), (6, .int x66_6), (7, .int x85_7), (8, .int x85_8)] → W p l e (headSpec wsX6_asleep (dkR 7)).room s m args below meth c H locs 0 0 (MQ below (dkQi g z (fun r I1 => dkF [(340, 340, 20, 22), (348, 348, 0, 53)] I0 I1 ∧ dkOk I1 ∧ ((True ∧ True)))) args s 0 0 (dkA z)) (F0 m 116 ls [.int x116_s0, .int x85_7]) := by
            intro I116_ H locs ls x116_s0 hW hS hF_116 hO k116_0 r116_0 r116_1 r116_2 r116_3 r116_4 r116_5 f116_0 hl
            have hF := hF_116
            refine lv_imul hx hb dX6_asleep_116 ?_
            refine lv_topi (fun v12 ev12 => ?_)
            refine lv_istore (lv' := [(7, .int v12), (0, .ref (z + 340)), (1, .int p0), (2, .int p1), (3, .int p2), (4, .int x66_4), (5, .int x66_5), (6, .int x66_6), (8, .int x85_8)]) hx hb dX6_asleep_117 hl (by decide) rfl (fun ls hl => ?_)
            obtain ⟨v13, ev13⟩ : ∃ y : Int32, y = x85_8 + 1 := ⟨_, rfl⟩
            have dv13 : dkN [(1, 6)] v13 := by rw [ev13]; exact dkN_add r116_5 (dkN_lit (x := 1) (1) rfl) rfl
            refine lv_iinc (v := v13) (lv' := [(8, .int v13), (7, .int v12), (0, .ref (z + 340)), (1, .int p0), (2, .int p1), (3, .int p2), (4, .int x66_4), (5, .int x66_5), (6, .int x66_6)]) hx hb dX6_asleep_119 hl (k := 8) rfl (by rw [ev13]; rfl) (by decide) rfl (fun ls hl => ?_)
            refine lv_goto (tgt := 85) hx hb dX6_asleep_122 (by decide) ?_
            exact ih85 I116_ _ _ ls v12 v13 (dk_near hn85 (by rw [ev13]; exact dk_inc r116_5 rfl) (dkN_lt r116_5 rfl)) hW hS hF hO (dkN_sub dv13 rfl) (dkN_sub r116_0 rfl) (dkN_sub r116_1 rfl) (dkN_sub r116_2 rfl) (dkN_sub r116_3 rfl) (dkN_sub r116_4 rfl) (lv_sub hl [2, 3, 4, 5, 6, 7, 8, 1, 0] rfl)
          refine lv_iload hx hb dX6_asleep_85 (lv_at hl 8 rfl) ?_
          refine lv_aload_n hx hb dX6_asleep_87 rfl (lv_at hl 0 rfl) ?_
          refine dk_get (k := 340) hx hb hts iX6_asleep_6 hown hK (dk_at340 hW) rfl 13 (by decide) (hts (.fieldLink RX6 25 "DogKingsModel" "now" "[I") (List.mem_of_getElem? (i := 2) rfl)) rfl dX6_asleep_88 ?_
          refine lv_iconst (v := 5) hx hb dX6_asleep_91 (by decide) ?_
          refine dk_ild (k := 346) hx hb hK (dk_at346 hW) (dkN_in (n := 54) (dkN_lit (x := 5) (5) rfl) rfl) dX6_asleep_92 ?_
          refine lv_topi (fun v14 ev14 => ?_)
          have ev14 : v14 = I85_ 346 5 := ev14
          have dv14 : dkN [(0, 6)] v14 := by rw [ev14]; exact (show dkN [(0, 6)] (I85_ 346 5) from (hO 346 5))
          refine lv_icmp_ge (tgt := 125) hx hb dX6_asleep_93 (by decide) (fun c15 => ?_) (fun c15 => ?_)
          ·
            refine lv_aload_n hx hb dX6_asleep_125 rfl (lv_at hl 0 rfl) ?_
            refine dk_Vv (As := []) (rest := []) ⟨hx, hb, hml, hown, hts⟩ (c_X6_tries_0 l g z I85_ hO) (cwV 0 hts gX6_asleep_X6_tries rfl rfl rfl (by decide +kernel) ⟨Nat.le_of_ble_eq_true rfl, Nat.le_of_ble_eq_true rfl⟩) (dk_at340 hW) rfl hK hT hW hS rfl hl.1 rfl (Nat.le_of_ble_eq_true rfl) dX6_asleep_126 ⟨Nat.zero_le _, Nat.zero_le _⟩ (fun I16 H16 L16 hp16 hW hS => ?_)
            obtain ⟨hF16, hO, hc16⟩ := hp16
            have hF := dkF_call hF hF16 rfl
            obtain ⟨f16_340_20, f16_340_21, f16_340_22, -⟩ := hc16
            refine lv_aload_n hx hb dX6_asleep_129 rfl (lv_at hl 0 rfl) ?_
            refine lv_iload hx hb dX6_asleep_130 (lv_at hl 6 rfl) ?_
            refine dk_put (k := 340) hx hb hts iX6_asleep_6 tyX6 tyX6_ok nmX6 hown hK hW (dk_at340 hW) hS rfl 21 (by decide) (hts (.fieldLink RX6 212 "DogKingsModel" "asleep" "I") (List.mem_of_getElem? (i := 3) rfl)) rfl rfl (Nat.le_of_ble_eq_true rfl) rfl dX6_asleep_132 (fun I17 H17 L17 eI17 hW hS => ?_)
            have eI17 : I17 = dkU I16 340 21 x66_6 := eI17
            have hO := dkO_set hO eI17 (dkN_sub r85_4 rfl)
            have hF := dkF_set hF eI17 rfl
            refine lv_iload hx hb dX6_asleep_135 (lv_at hl 4 rfl) ?_
            refine lv_aload_n hx hb dX6_asleep_137 rfl (lv_at hl 0 rfl) ?_
            refine dk_Vi (As := []) (rest := [.int x66_4]) ⟨hx, hb, hml, hown, hts⟩ (c_X6_nextKing_0 l g z I17 hO) (cwV 0 hts gX6_asleep_X6_nextKing rfl rfl rfl (by decide +kernel) ⟨Nat.le_of_ble_eq_true rfl, Nat.le_of_ble_eq_true rfl⟩) (dk_at340 hW) rfl hK hT hW hS rfl hl.1 rfl (Nat.le_of_ble_eq_true rfl) dX6_asleep_138 ⟨Nat.zero_le _, Nat.zero_le _⟩ (fun v18 I18 H18 L18 hp18 hW hS => ?_)
            obtain ⟨hF18, hO, hc18⟩ := hp18
            have hF := dkF_call hF hF18 rfl
            obtain ⟨dv18, f18_348_3, -⟩ := hc18
            refine lv_iload_n hx hb dX6_asleep_141 rfl (lv_at hl 1 rfl) ?_
            refine lv_icmp_ne (tgt := 150) hx hb dX6_asleep_142 (by decide) (fun c19 => ?_) (fun c19 => ?_)
            ·
              refine lv_iconst (v := 0) hx hb dX6_asleep_150 (by decide) ?_
              exact C151 I18 _ _ ls x85_7 x85_8 0 hW hS hF hO (dkN_sub k85_1 rfl) (dkN_sub r85_0 rfl) (dkN_sub r85_1 rfl) (dkN_sub r85_2 rfl) (dkN_sub r85_3 rfl) (dkN_sub r85_4 rfl) (show dkN [(0, 0)] (I18 340 20) from dkN_sub (by rw [hF18 340 20 rfl]; exact (by rw [eI17, dkU_sn (by decide)]; exact f16_340_20)) rfl) (show dkN [(0, 0)] (I18 340 22) from dkN_sub (by rw [hF18 340 22 rfl]; exact (by rw [eI17, dkU_sn (by decide)]; exact f16_340_22)) rfl) (show dkN [(0, 2147483647)] (I18 348 3) from dkN_sub f18_348_3 rfl) (lv_sub hl [0, 1, 2, 3, 4, 5, 6, 7, 8] rfl)
            ·
              have d20 : dkN [(0, 4)] v18 := dkN_eq1 dv18 r85_0 (congrArg Int32.toInt c19) rfl
              refine lv_iload hx hb dX6_asleep_145 (lv_at hl 7 rfl) ?_
              refine lv_goto (tgt := 151) hx hb dX6_asleep_147 (by decide) ?_
              exact C151 I18 _ _ ls x85_7 x85_8 x85_7 hW hS hF hO (dkN_sub k85_1 rfl) (dkN_sub r85_0 rfl) (dkN_sub r85_1 rfl) (dkN_sub r85_2 rfl) (dkN_sub r85_3 rfl) (dkN_sub r85_4 rfl) (show dkN [(0, 0)] (I18 340 20) from dkN_sub (by rw [hF18 340 20 rfl]; exact (by rw [eI17, dkU_sn (by decide)]; exact f16_340_20)) rfl) (show dkN [(0, 0)] (I18 340 22) from dkN_sub (by rw [hF18 340 22 rfl]; exact (by rw [eI17, dkU_sn (by decide)]; exact f16_340_22)) rfl) (show dkN [(0, 2147483647)] (I18 348 3) from dkN_sub f18_348_3 rfl) (lv_sub hl [0, 1, 2, 3, 4, 5, 6, 7, 8] rfl)
          ·
            have d21 : dkN [(1, 6)] v14 := dkN_le2 1 k85_1 dv14 (dkc_nle c15) rfl
            have f22 : dkN [(1, 6)] (I85_ 346 5) := by rw [← ev14]; exact d21
            have d23 : dkN [(0, 5)] x85_8 := dkN_le1 1 k85_1 dv14 (dkc_nle c15) rfl
            refine lv_iload hx hb dX6_asleep_96 (lv_at hl 7 rfl) ?_
            refine lv_iload hx hb dX6_asleep_98 (lv_at hl 6 rfl) ?_
            refine lv_iload hx hb dX6_asleep_100 (lv_at hl 8 rfl) ?_
            refine dk_Si (As := [.int x66_6, .int x85_8]) (rest := [.int x85_7]) ⟨hx, hb, hml, hown, hts⟩ (c_X6_has_0 l g z I85_ x66_6 x85_8 hO) (va_cwS 2 hts gX6_asleep_X6_has rfl rfl rfl (by decide +kernel) ⟨Nat.le_of_ble_eq_true rfl, Nat.le_of_ble_eq_true rfl⟩) hK hT hW hS rfl hl.1 rfl (Nat.le_of_ble_eq_true rfl) dX6_asleep_102 ⟨Nat.zero_le _, Nat.zero_le _⟩ (fun v24 I24 H24 L24 hp24 hW hS => ?_)
            obtain ⟨hF24, hO, hc24⟩ := hp24
            have hF := dkF_call hF hF24 rfl
            obtain ⟨dv24, -⟩ := hc24
            refine lv_if_eq (tgt := 112) hx hb dX6_asleep_105 (by decide) (fun c25 => ?_) (fun c25 => ?_)
            ·
              have d26 : dkN [(0, 0)] v24 := dkN_eq1 dv24 (dkN_lit (x := 0) (0) rfl) (congrArg Int32.toInt c25) rfl
              refine lv_bipush (v := 10) hx hb dX6_asleep_112 (by decide) ?_
              refine lv_iload_n hx hb dX6_asleep_114 rfl (lv_at hl 2 rfl) ?_
              refine lv_isub hx hb dX6_asleep_115 ?_
              refine lv_topi (fun v27 ev27 => ?_)
              have dv27 : dkN [(0, 10)] v27 := by rw [ev27]; exact dkN_subt (dkN_lit (x := 10) (10) rfl) r85_1 rfl
              exact C116 I24 _ _ ls v27 hW hS hF hO (dkN_sub dv27 rfl) (dkN_sub r85_0 rfl) (dkN_sub r85_1 rfl) (dkN_sub r85_2 rfl) (dkN_sub r85_3 rfl) (dkN_sub r85_4 rfl) (dkN_sub d23 rfl) (show dkN [(1, 6)] (I24 346 5) from dkN_sub (by rw [hF24 346 5 rfl]; exact f22) rfl) (lv_sub hl [0, 1, 2, 3, 4, 5, 6, 7, 8] rfl)
            ·
              have d28 : dkN [(1, 1)] v24 := dkN_ne1 (0) dv24 (dkN_lit (x := 0) (0) rfl) (dk_ne c25) rfl
              refine lv_iload_n hx hb dX6_asleep_108 rfl (lv_at hl 2 rfl) ?_
              refine lv_goto (tgt := 116) hx hb dX6_asleep_109 (by decide) ?_
              exact C116 I24 _ _ ls p1 hW hS hF hO (dkN_sub r85_1 rfl) (dkN_sub r85_0 rfl) (dkN_sub r85_1 rfl) (dkN_sub r85_2 rfl) (dkN_sub r85_3 rfl) (dkN_sub r85_4 rfl) (dkN_sub d23 rfl) (show dkN [(1, 6)] (I24 346 5) from dkN_sub (by rw [hF24 346 5 rfl]; exact f22) rfl) (lv_sub hl [0, 1, 2, 3, 4, 5, 6, 7, 8] rfl)
      refine lv_iload hx hb dX6_asleep_66 (lv_at hl 6 rfl) ?_
      refine lv_iconst (v := 1) hx hb dX6_asleep_68 (by decide) ?_
      refine lv_aload_n hx hb dX6_asleep_69 rfl (lv_at hl 0 rfl) ?_
      refine dk_get (k := 340) hx hb hts iX6_asleep_6 hown hK (dk_at340 hW) rfl 13 (by decide) (hts (.fieldLink RX6 25 "DogKingsModel" "now" "[I") (List.mem_of_getElem? (i := 2) rfl)) rfl dX6_asleep_70 ?_
      refine lv_iconst (v := 5) hx hb dX6_asleep_73 (by decide) ?_
      refine dk_ild (k := 346) hx hb hK (dk_at346 hW) (dkN_in (n := 54) (dkN_lit (x := 5) (5) rfl) rfl) dX6_asleep_74 ?_
      refine lv_topi (fun v29 ev29 => ?_)
      have ev29 : v29 = I66_ 346 5 := ev29
      have dv29 : dkN [(0, 6)] v29 := by rw [ev29]; exact (show dkN [(0, 6)] (I66_ 346 5) from (hO 346 5))
      refine lv_ishl hx hb dX6_asleep_75 ?_
      refine lv_topi (fun v30 ev30 => ?_)
      have dv30 : dkN [(1, 64)] v30 := by rw [ev30]; exact dkN_shl1 0 6 (by decide) dv29 rfl
      refine lv_icmp_ge (tgt := 160) hx hb dX6_asleep_76 (by decide) (fun c31 => ?_) (fun c31 => ?_)
      ·
        have d32 : dkN [(1, 2147483647)] x66_6 := dkN_le2 0 dv30 k66_2 (dkc_le c31) rfl
        refine lv_iload hx hb dX6_asleep_160 (lv_at hl 4 rfl) ?_
        refine lv_istore (lv' := [(6, .int x66_4), (0, .ref (z + 340)), (1, .int p0), (2, .int p1), (3, .int p2), (4, .int x66_4), (5, .int x66_5)]) hx hb dX6_asleep_162 hl (by decide) rfl (fun ls hl => ?_)
        refine lv_iload hx hb dX6_asleep_164 (lv_at hl 6 rfl) ?_
        refine lv_istore (lv' := [(7, .int x66_5), (6, .int x66_4), (0, .ref (z + 340)), (1, .int p0), (2, .int p1), (3, .int p2), (4, .int x66_4), (5, .int x66_5)]) hx hb dX6_asleep_166 hl (by decide) rfl (fun ls hl => ?_)
        refine lv_iload hx hb dX6_asleep_168 (lv_at hl 0 rfl) ?_
        refine lv_if_eq (tgt := 191) hx hb dX6_asleep_170 (by decide) (fun c33 => ?_) (fun c33 => ?_)
        ·
          exact (dkN_nil (show dkN [] x66_5 from dkN_eq1 k66_1 (dkN_lit (x := 0) (0) rfl) (congrArg Int32.toInt c33) rfl)).elim
        ·
          refine lv_iload hx hb dX6_asleep_173 (lv_at hl 1 rfl) ?_
          refine lv_iload hx hb dX6_asleep_175 (lv_at hl 0 rfl) ?_
          refine lv_irem hx hb dX6_asleep_177 (dkN_ne0 k66_1 rfl) ?_
          refine lv_topi (fun v34 ev34 => ?_)
          refine lv_istore (lv' := [(8, .int v34), (7, .int x66_5), (6, .int x66_4), (0, .ref (z + 340)), (1, .int p0), (2, .int p1), (3, .int p2), (4, .int x66_4), (5, .int x66_5)]) hx hb dX6_asleep_178 hl (by decide) rfl (fun ls hl => ?_)
          refine lv_iload hx hb dX6_asleep_180 (lv_at hl 1 rfl) ?_
          refine lv_istore (lv' := [(6, .int x66_5), (8, .int v34), (7, .int x66_5), (0, .ref (z + 340)), (1, .int p0), (2, .int p1), (3, .int p2), (4, .int x66_4), (5, .int x66_5)]) hx hb dX6_asleep_182 hl (by decide) rfl (fun ls hl => ?_)
          refine lv_iload hx hb dX6_asleep_184 (lv_at hl 1 rfl) ?_
          refine lv_istore (lv' := [(7, .int v34), (6, .int x66_5), (8, .int v34), (0, .ref (z + 340)), (1, .int p0), (2, .int p1), (3, .int p2), (4, .int x66_4), (5, .int x66_5)]) hx hb dX6_asleep_186 hl (by decide) rfl (fun ls hl => ?_)
          refine lv_goto (tgt := 168) hx hb dX6_asleep_188 (by decide) ?_
          exact C168 _ I66_ _ _ ls x66_4 x66_5 x66_5 v34 v34 (Nat.lt_succ_self _) hW hS hF hO (dkN_sub k66_1 rfl) (dkN_sub k66_1 rfl) (dkN_sub r66_0 rfl) (dkN_sub r66_1 rfl) (dkN_sub r66_2 rfl) (lv_sub hl [3, 4, 5, 6, 7, 8, 1, 0, 2] rfl)
      ·
        have d35 : dkN [(0, 63)] x66_6 := dkN_le1 1 k66_2 dv30 (dkc_nle c31) rfl
        refine lv_iconst (v := 1) hx hb dX6_asleep_79 (by decide) ?_
        refine lv_istore (lv' := [(7, .int 1), (0, .ref (z + 340)), (1, .int p0), (2, .int p1), (3, .int p2), (4, .int x66_4), (5, .int x66_5), (6, .int x66_6)]) hx hb dX6_asleep_80 hl (by decide) rfl (fun ls hl => ?_)
        refine lv_iconst (v := 0) hx hb dX6_asleep_82 (by decide) ?_
        refine lv_istore (lv' := [(8, .int 0), (7, .int 1), (0, .ref (z + 340)), (1, .int p0), (2, .int p1), (3, .int p2), (4, .int x66_4), (5, .int x66_5), (6, .int x66_6)]) hx hb dX6_asleep_83 hl (by decide) rfl (fun ls hl => ?_)
        exact C85 _ I66_ _ _ ls 1 0 (Nat.lt_succ_self _) hW hS hF hO (dkN_sub (dkN_lit (x := 0) (0) rfl) rfl) (dkN_sub r66_0 rfl) (dkN_sub r66_1 rfl) (dkN_sub r66_2 rfl) (dkN_sub k66_1 rfl) (dkN_sub d35 rfl) (lv_sub hl [2, 3, 4, 5, 6, 7, 8, 1, 0] rfl)
  refine lv_aload_n hx hb dX6_asleep_0 rfl (lv_at hl 0 rfl) ?_
  refine lv_iload_n hx hb dX6_asleep_1 rfl (lv_at hl 1 rfl) ?_
  refine dk_Vi (As := [.int p0]) (rest := []) ⟨hx, hb, hml, hown, hts⟩ (c_X6_isPerson_0 l g z I0 p0 hO) (cwV 1 hts gX6_asleep_X6_isPerson rfl rfl rfl (by decide +kernel) ⟨Nat.le_of_ble_eq_true rfl, Nat.le_of_ble_eq_true rfl⟩) (dk_at340 hW) rfl hK hT hW hS rfl hl.1 rfl (Nat.le_of_ble_eq_true rfl) dX6_asleep_2 ⟨Nat.zero_le _, Nat.zero_le _⟩ (fun v36 I36 H36 L36 hp36 hW hS => ?_)
  obtain ⟨hF36, hO, hc36⟩ := hp36
  have hF := dkF_call hF hF36 rfl
  rcases hc36 with ⟨dv36, -⟩ | hc36
  ·
    refine lv_if_eq (tgt := 27) hx hb dX6_asleep_5 (by decide) (fun c37 => ?_) (fun c37 => ?_)
    ·
      refine lv_ldc (v := (-1000001)) hx hb hown (hts (.constant RX6 64 (-1000001)) (List.mem_of_getElem? (i := 1) rfl)) dX6_asleep_27 ?_
      exact W.iret (v := (-1000001)) hx hb hr (fun t ht hW9 => ⟨⟨(-1000001), I36, rfl, ⟨hF, hO, ⟨trivial, trivial⟩⟩, dkW_eq ht hW⟩, hS.F ht⟩) hS.2.2 dX6_asleep_29
    ·
      exact (dkN_nil (show dkN [] v36 from dkN_ne1 (0) dv36 (dkN_lit (x := 0) (0) rfl) (dk_ne c37) rfl)).elim
  ·
    obtain ⟨dv36, a36_0, -⟩ := hc36
    have d38 : dkN [(0, 4)] p0 := dkN_eq1 (dkN_top p0) a36_0 rfl rfl
    refine lv_if_eq (tgt := 27) hx hb dX6_asleep_5 (by decide) (fun c39 => ?_) (fun c39 => ?_)
    ·
      exact (dkN_nil (show dkN [] v36 from dkN_eq1 dv36 (dkN_lit (x := 0) (0) rfl) (congrArg Int32.toInt c39) rfl)).elim
    ·
      refine lv_iload_n hx hb dX6_asleep_8 rfl (lv_at hl 2 rfl) ?_
      refine lv_iconst (v := 0) hx hb dX6_asleep_9 (by decide) ?_
      refine lv_bipush (v := 10) hx hb dX6_asleep_10 (by decide) ?_
      refine dk_Si (As := [.int p1, .int 0, .int 10]) (rest := []) ⟨hx, hb, hml, hown, hts⟩ (c_X6_in_18 l g z I36 p1 0 10 (dkN_lit (x := 0) (0) rfl) (dkN_lit (x := 10) (10) rfl) hO) (va_cwS 3 hts gX6_asleep_X6_in rfl rfl rfl (by decide +kernel) ⟨Nat.le_of_ble_eq_true rfl, Nat.le_of_ble_eq_true rfl⟩) hK hT hW hS rfl hl.1 rfl (Nat.le_of_ble_eq_true rfl) dX6_asleep_12 ⟨Nat.zero_le _, Nat.zero_le _⟩ (fun v40 I40 H40 L40 hp40 hW hS => ?_)
      obtain ⟨hF40, hO, hc40⟩ := hp40
      have hF := dkF_call hF hF40 rfl
      rcases hc40 with ⟨dv40, a40_0, -⟩ | hc40
      ·
        have d41 : dkN [(-2147483648, -1), (11, 2147483647)] p1 := dkN_eq1 (dkN_top p1) a40_0 rfl rfl
        refine lv_if_eq (tgt := 27) hx hb dX6_asleep_15 (by decide) (fun c42 => ?_) (fun c42 => ?_)
        ·
          refine lv_ldc (v := (-1000001)) hx hb hown (hts (.constant RX6 64 (-1000001)) (List.mem_of_getElem? (i := 1) rfl)) dX6_asleep_27 ?_
          exact W.iret (v := (-1000001)) hx hb hr (fun t ht hW9 => ⟨⟨(-1000001), I40, rfl, ⟨hF, hO, ⟨trivial, trivial⟩⟩, dkW_eq ht hW⟩, hS.F ht⟩) hS.2.2 dX6_asleep_29
        ·
          exact (dkN_nil (show dkN [] v40 from dkN_ne1 (0) dv40 (dkN_lit (x := 0) (0) rfl) (dk_ne c42) rfl)).elim
      ·
        obtain ⟨dv40, a40_0, -⟩ := hc40
        have d43 : dkN [(0, 10)] p1 := dkN_eq1 (dkN_top p1) a40_0 rfl rfl
        refine lv_if_eq (tgt := 27) hx hb dX6_asleep_15 (by decide) (fun c44 => ?_) (fun c44 => ?_)
        ·
          exact (dkN_nil (show dkN [] v40 from dkN_eq1 dv40 (dkN_lit (x := 0) (0) rfl) (congrArg Int32.toInt c44) rfl)).elim
        ·
          refine lv_iload_n hx hb dX6_asleep_18 rfl (lv_at hl 3 rfl) ?_
          refine lv_iconst (v := 0) hx hb dX6_asleep_19 (by decide) ?_
          refine lv_iconst (v := 1) hx hb dX6_asleep_20 (by decide) ?_
          refine dk_Si (As := [.int p2, .int 0, .int 1]) (rest := []) ⟨hx, hb, hml, hown, hts⟩ (c_X6_in_16 l g z I40 p2 0 1 (dkN_lit (x := 0) (0) rfl) (dkN_lit (x := 1) (1) rfl) hO) (va_cwS 3 hts gX6_asleep_X6_in rfl rfl rfl (by decide +kernel) ⟨Nat.le_of_ble_eq_true rfl, Nat.le_of_ble_eq_true rfl⟩) hK hT hW hS rfl hl.1 rfl (Nat.le_of_ble_eq_true rfl) dX6_asleep_21 ⟨Nat.zero_le _, Nat.zero_le _⟩ (fun v45 I45 H45 L45 hp45 hW hS => ?_)
          obtain ⟨hF45, hO, hc45⟩ := hp45
          have hF := dkF_call hF hF45 rfl
          rcases hc45 with ⟨dv45, a45_0, -⟩ | hc45
          ·
            have d46 : dkN [(-2147483648, -1), (2, 2147483647)] p2 := dkN_eq1 (dkN_top p2) a45_0 rfl rfl
            refine lv_if_ne (tgt := 30) hx hb dX6_asleep_24 (by decide) (fun c47 => ?_) (fun c47 => ?_)
            ·
              exact (dkN_nil (show dkN [] v45 from dkN_ne1 (0) dv45 (dkN_lit (x := 0) (0) rfl) (dk_ne c47) rfl)).elim
            ·
              refine lv_ldc (v := (-1000001)) hx hb hown (hts (.constant RX6 64 (-1000001)) (List.mem_of_getElem? (i := 1) rfl)) dX6_asleep_27 ?_
              exact W.iret (v := (-1000001)) hx hb hr (fun t ht hW9 => ⟨⟨(-1000001), I45, rfl, ⟨hF, hO, ⟨trivial, trivial⟩⟩, dkW_eq ht hW⟩, hS.F ht⟩) hS.2.2 dX6_asleep_29
          ·
            obtain ⟨dv45, a45_0, -⟩ := hc45
            have d48 : dkN [(0, 1)] p2 := dkN_eq1 (dkN_top p2) a45_0 rfl rfl
            refine lv_if_ne (tgt := 30) hx hb dX6_asleep_24 (by decide) (fun c49 => ?_) (fun c49 => ?_)
            ·
              refine lv_iconst (v := 0) hx hb dX6_asleep_30 (by decide) ?_
              refine lv_istore (lv' := [(4, .int 0), (0, .ref (z + 340)), (1, .int p0), (2, .int p1), (3, .int p2)]) hx hb dX6_asleep_31 hl (by decide) rfl (fun ls hl => ?_)
              refine lv_iconst (v := 1) hx hb dX6_asleep_33 (by decide) ?_
              refine lv_istore (lv' := [(5, .int 1), (4, .int 0), (0, .ref (z + 340)), (1, .int p0), (2, .int p1), (3, .int p2)]) hx hb dX6_asleep_34 hl (by decide) rfl (fun ls hl => ?_)
              refine lv_iconst (v := 0) hx hb dX6_asleep_36 (by decide) ?_
              refine lv_istore (lv' := [(6, .int 0), (5, .int 1), (4, .int 0), (0, .ref (z + 340)), (1, .int p0), (2, .int p1), (3, .int p2)]) hx hb dX6_asleep_37 hl (by decide) rfl (fun ls hl => ?_)
              refine lv_iload hx hb dX6_asleep_39 (lv_at hl 0 rfl) ?_
              refine lv_aload_n hx hb dX6_asleep_41 rfl (lv_at hl 3 rfl) ?_
              refine dk_get (k := 340) hx hb hts iX6_asleep_6 hown hK (dk_at340 hW) rfl 13 (by decide) (hts (.fieldLink RX6 25 "DogKingsModel" "now" "[I") (List.mem_of_getElem? (i := 2) rfl)) rfl dX6_asleep_42 ?_
              refine lv_iconst (v := 5) hx hb dX6_asleep_45 (by decide) ?_
              refine dk_ild (k := 346) hx hb hK (dk_at346 hW) (dkN_in (n := 54) (dkN_lit (x := 5) (5) rfl) rfl) dX6_asleep_46 ?_
              refine lv_topi (fun v50 ev50 => ?_)
              have ev50 : v50 = I45 346 5 := ev50
              have dv50 : dkN [(0, 6)] v50 := by rw [ev50]; exact (show dkN [(0, 6)] (I45 346 5) from (hO 346 5))
              refine lv_icmp_ge (tgt := 63) hx hb dX6_asleep_47 (by decide) (fun c51 => ?_) (fun c51 => ?_)
              ·
                have d52 : dkN [(0, 0)] v50 := dkN_le1 0 dv50 (dkN_lit (x := 0) (0) rfl) (dkc_le c51) rfl
                have f53 : dkN [(0, 0)] (I45 346 5) := by rw [← ev50]; exact d52
                refine lv_iconst (v := 0) hx hb dX6_asleep_63 (by decide) ?_
                refine lv_istore (lv' := [(6, .int 0), (5, .int 1), (4, .int 0), (0, .ref (z + 340)), (1, .int p0), (2, .int p1), (3, .int p2)]) hx hb dX6_asleep_64 hl (by decide) rfl (fun ls hl => ?_)
                exact C66 _ I45 _ _ ls 0 1 0 (Nat.lt_succ_self _) hW hS hF hO (dkN_sub (dkN_lit (x := 1) (1) rfl) rfl) (dkN_sub (dkN_lit (x := 0) (0) rfl) rfl) (dkN_sub d38 rfl) (dkN_sub d43 rfl) (dkN_sub d48 rfl) (lv_sub hl [3, 4, 5, 6, 2, 1, 0] rfl)
              ·
                have d54 : dkN [(1, 6)] v50 := dkN_le2 1 (dkN_lit (x := 0) (0) rfl) dv50 (dkc_nle c51) rfl
                have f55 : dkN [(1, 6)] (I45 346 5) := by rw [← ev50]; exact d54
                refine lv_iload hx hb dX6_asleep_50 (lv_at hl 1 rfl) ?_
                refine lv_bipush (v := 10) hx hb dX6_asleep_52 (by decide) ?_
                refine lv_imul hx hb dX6_asleep_54 ?_
                refine lv_topi (fun v56 ev56 => ?_)
                have dv56 : dkN [(10, 10)] v56 := by rw [ev56]; exact dkN_mulR 10 (by decide) (dkN_lit (x := 1) (1) rfl) (dkN_lit (x := 10) (10) rfl) rfl
                refine lv_istore (lv' := [(5, .int v56), (6, .int 0), (4, .int 0), (0, .ref (z + 340)), (1, .int p0), (2, .int p1), (3, .int p2)]) hx hb dX6_asleep_55 hl (by decide) rfl (fun ls hl => ?_)
                obtain ⟨v57, ev57⟩ : ∃ y : Int32, y = 0 + 1 := ⟨_, rfl⟩
                have dv57 : dkN [(1, 1)] v57 := by rw [ev57]; exact dkN_add (dkN_lit (x := 0) (0) rfl) (dkN_lit (x := 1) (1) rfl) rfl
                refine lv_iinc (v := v57) (lv' := [(6, .int v57), (5, .int v56), (4, .int 0), (0, .ref (z + 340)), (1, .int p0), (2, .int p1), (3, .int p2)]) hx hb dX6_asleep_57 hl (k := 1) rfl (by rw [ev57]; rfl) (by decide) rfl (fun ls hl => ?_)
                refine lv_goto (tgt := 39) hx hb dX6_asleep_60 (by decide) ?_
                refine lv_iload hx hb dX6_asleep_39 (lv_at hl 0 rfl) ?_
                refine lv_aload_n hx hb dX6_asleep_41 rfl (lv_at hl 3 rfl) ?_
                refine dk_get (k := 340) hx hb hts iX6_asleep_6 hown hK (dk_at340 hW) rfl 13 (by decide) (hts (.fieldLink RX6 25 "DogKingsModel" "now" "[I") (List.mem_of_getElem? (i := 2) rfl)) rfl dX6_asleep_42 ?_
                refine lv_iconst (v := 5) hx hb dX6_asleep_45 (by decide) ?_
                refine dk_ild (k := 346) hx hb hK (dk_at346 hW) (dkN_in (n := 54) (dkN_lit (x := 5) (5) rfl) rfl) dX6_asleep_46 ?_
                refine lv_topi (fun v58 ev58 => ?_)
                have ev58 : v58 = I45 346 5 := ev58
                have dv58 : dkN [(1, 6)] v58 := by rw [ev58]; exact (show dkN [(1, 6)] (I45 346 5) from f55)
                refine lv_icmp_ge (tgt := 63) hx hb dX6_asleep_47 (by decide) (fun c59 => ?_) (fun c59 => ?_)
                ·
                  have d60 : dkN [(1, 1)] v58 := dkN_le1 0 dv58 dv57 (dkc_le c59) rfl
                  have f61 : dkN [(1, 1)] (I45 346 5) := by rw [← ev58]; exact d60
                  refine lv_iconst (v := 0) hx hb dX6_asleep_63 (by decide) ?_
                  refine lv_istore (lv' := [(6, .int 0), (5, .int v56), (4, .int 0), (0, .ref (z + 340)), (1, .int p0), (2, .int p1), (3, .int p2)]) hx hb dX6_asleep_64 hl (by decide) rfl (fun ls hl => ?_)
                  exact C66 _ I45 _ _ ls 0 v56 0 (Nat.lt_succ_self _) hW hS hF hO (dkN_sub dv56 rfl) (dkN_sub (dkN_lit (x := 0) (0) rfl) rfl) (dkN_sub d38 rfl) (dkN_sub d43 rfl) (dkN_sub d48 rfl) (lv_sub hl [3, 4, 5, 6, 2, 1, 0] rfl)
                ·
                  have d62 : dkN [(2, 6)] v58 := dkN_le2 1 dv57 dv58 (dkc_nle c59) rfl
                  have f63 : dkN [(2, 6)] (I45 346 5) := by rw [← ev58]; exact d62
                  refine lv_iload hx hb dX6_asleep_50 (lv_at hl 1 rfl) ?_
                  refine lv_bipush (v := 10) hx hb dX6_asleep_52 (by decide) ?_
                  refine lv_imul hx hb dX6_asleep_54 ?_
                  refine lv_topi (fun v64 ev64 => ?_)
                  have dv64 : dkN [(100, 100)] v64 := by rw [ev64]; exact dkN_mulR 10 (by decide) dv56 (dkN_lit (x := 10) (10) rfl) rfl
                  refine lv_istore (lv' := [(5, .int v64), (6, .int v57), (4, .int 0), (0, .ref (z + 340)), (1, .int p0), (2, .int p1), (3, .int p2)]) hx hb dX6_asleep_55 hl (by decide) rfl (fun ls hl => ?_)
                  obtain ⟨v65, ev65⟩ : ∃ y : Int32, y = v57 + 1 := ⟨_, rfl⟩
                  have dv65 : dkN [(2, 2)] v65 := by rw [ev65]; exact dkN_add dv57 (dkN_lit (x := 1) (1) rfl) rfl
                  refine lv_iinc (v := v65) (lv' := [(6, .int v65), (5, .int v64), (4, .int 0), (0, .ref (z + 340)), (1, .int p0), (2, .int p1), (3, .int p2)]) hx hb dX6_asleep_57 hl (k := 1) rfl (by rw [ev65]; rfl) (by decide) rfl (fun ls hl => ?_)
                  refine lv_goto (tgt := 39) hx hb dX6_asleep_60 (by decide) ?_
                  refine lv_iload hx hb dX6_asleep_39 (lv_at hl 0 rfl) ?_
                  refine lv_aload_n hx hb dX6_asleep_41 rfl (lv_at hl 3 rfl) ?_
                  refine dk_get (k := 340) hx hb hts iX6_asleep_6 hown hK (dk_at340 hW) rfl 13 (by decide) (hts (.fieldLink RX6 25 "DogKingsModel" "now" "[I") (List.mem_of_getElem? (i := 2) rfl)) rfl dX6_asleep_42 ?_
                  refine lv_iconst (v := 5) hx hb dX6_asleep_45 (by decide) ?_
                  refine dk_ild (k := 346) hx hb hK (dk_at346 hW) (dkN_in (n := 54) (dkN_lit (x := 5) (5) rfl) rfl) dX6_asleep_46 ?_
                  refine lv_topi (fun v66 ev66 => ?_)
                  have ev66 : v66 = I45 346 5 := ev66
                  have dv66 : dkN [(2, 6)] v66 := by rw [ev66]; exact (show dkN [(2, 6)] (I45 346 5) from f63)
                  refine lv_icmp_ge (tgt := 63) hx hb dX6_asleep_47 (by decide) (fun c67 => ?_) (fun c67 => ?_)
                  ·
                    have d68 : dkN [(2, 2)] v66 := dkN_le1 0 dv66 dv65 (dkc_le c67) rfl
                    have f69 : dkN [(2, 2)] (I45 346 5) := by rw [← ev66]; exact d68
                    refine lv_iconst (v := 0) hx hb dX6_asleep_63 (by decide) ?_
                    refine lv_istore (lv' := [(6, .int 0), (5, .int v64), (4, .int 0), (0, .ref (z + 340)), (1, .int p0), (2, .int p1), (3, .int p2)]) hx hb dX6_asleep_64 hl (by decide) rfl (fun ls hl => ?_)
                    exact C66 _ I45 _ _ ls 0 v64 0 (Nat.lt_succ_self _) hW hS hF hO (dkN_sub dv64 rfl) (dkN_sub (dkN_lit (x := 0) (0) rfl) rfl) (dkN_sub d38 rfl) (dkN_sub d43 rfl) (dkN_sub d48 rfl) (lv_sub hl [3, 4, 5, 6, 2, 1, 0] rfl)
                  ·
                    have d70 : dkN [(3, 6)] v66 := dkN_le2 1 dv65 dv66 (dkc_nle c67) rfl
                    have f71 : dkN [(3, 6)] (I45 346 5) := by rw [← ev66]; exact d70
                    refine lv_iload hx hb dX6_asleep_50 (lv_at hl 1 rfl) ?_
                    refine lv_bipush (v := 10) hx hb dX6_asleep_52 (by decide) ?_
                    refine lv_imul hx hb dX6_asleep_54 ?_
                    refine lv_topi (fun v72 ev72 => ?_)
                    have dv72 : dkN [(1000, 1000)] v72 := by rw [ev72]; exact dkN_mulR 10 (by decide) dv64 (dkN_lit (x := 10) (10) rfl) rfl
                    refine lv_istore (lv' := [(5, .int v72), (6, .int v65), (4, .int 0), (0, .ref (z + 340)), (1, .int p0), (2, .int p1), (3, .int p2)]) hx hb dX6_asleep_55 hl (by decide) rfl (fun ls hl => ?_)
                    obtain ⟨v73, ev73⟩ : ∃ y : Int32, y = v65 + 1 := ⟨_, rfl⟩
                    have dv73 : dkN [(3, 3)] v73 := by rw [ev73]; exact dkN_add dv65 (dkN_lit (x := 1) (1) rfl) rfl
                    refine lv_iinc (v := v73) (lv' := [(6, .int v73), (5, .int v72), (4, .int 0), (0, .ref (z + 340)), (1, .int p0), (2, .int p1), (3, .int p2)]) hx hb dX6_asleep_57 hl (k := 1) rfl (by rw [ev73]; rfl) (by decide) rfl (fun ls hl => ?_)
                    refine lv_goto (tgt := 39) hx hb dX6_asleep_60 (by decide) ?_
                    refine lv_iload hx hb dX6_asleep_39 (lv_at hl 0 rfl) ?_
                    refine lv_aload_n hx hb dX6_asleep_41 rfl (lv_at hl 3 rfl) ?_
                    refine dk_get (k := 340) hx hb hts iX6_asleep_6 hown hK (dk_at340 hW) rfl 13 (by decide) (hts (.fieldLink RX6 25 "DogKingsModel" "now" "[I") (List.mem_of_getElem? (i := 2) rfl)) rfl dX6_asleep_42 ?_
                    refine lv_iconst (v := 5) hx hb dX6_asleep_45 (by decide) ?_
                    refine dk_ild (k := 346) hx hb hK (dk_at346 hW) (dkN_in (n := 54) (dkN_lit (x := 5) (5) rfl) rfl) dX6_asleep_46 ?_
                    refine lv_topi (fun v74 ev74 => ?_)
                    have ev74 : v74 = I45 346 5 := ev74
                    have dv74 : dkN [(3, 6)] v74 := by rw [ev74]; exact (show dkN [(3, 6)] (I45 346 5) from f71)
                    refine lv_icmp_ge (tgt := 63) hx hb dX6_asleep_47 (by decide) (fun c75 => ?_) (fun c75 => ?_)
                    ·
                      have d76 : dkN [(3, 3)] v74 := dkN_le1 0 dv74 dv73 (dkc_le c75) rfl
                      have f77 : dkN [(3, 3)] (I45 346 5) := by rw [← ev74]; exact d76
                      refine lv_iconst (v := 0) hx hb dX6_asleep_63 (by decide) ?_
                      refine lv_istore (lv' := [(6, .int 0), (5, .int v72), (4, .int 0), (0, .ref (z + 340)), (1, .int p0), (2, .int p1), (3, .int p2)]) hx hb dX6_asleep_64 hl (by decide) rfl (fun ls hl => ?_)
                      exact C66 _ I45 _ _ ls 0 v72 0 (Nat.lt_succ_self _) hW hS hF hO (dkN_sub dv72 rfl) (dkN_sub (dkN_lit (x := 0) (0) rfl) rfl) (dkN_sub d38 rfl) (dkN_sub d43 rfl) (dkN_sub d48 rfl) (lv_sub hl [3, 4, 5, 6, 2, 1, 0] rfl)
                    ·
                      have d78 : dkN [(4, 6)] v74 := dkN_le2 1 dv73 dv74 (dkc_nle c75) rfl
                      have f79 : dkN [(4, 6)] (I45 346 5) := by rw [← ev74]; exact d78
                      refine lv_iload hx hb dX6_asleep_50 (lv_at hl 1 rfl) ?_
                      refine lv_bipush (v := 10) hx hb dX6_asleep_52 (by decide) ?_
                      refine lv_imul hx hb dX6_asleep_54 ?_
                      refine lv_topi (fun v80 ev80 => ?_)
                      have dv80 : dkN [(10000, 10000)] v80 := by rw [ev80]; exact dkN_mulR 10 (by decide) dv72 (dkN_lit (x := 10) (10) rfl) rfl
                      refine lv_istore (lv' := [(5, .int v80), (6, .int v73), (4, .int 0), (0, .ref (z + 340)), (1, .int p0), (2, .int p1), (3, .int p2)]) hx hb dX6_asleep_55 hl (by decide) rfl (fun ls hl => ?_)
                      obtain ⟨v81, ev81⟩ : ∃ y : Int32, y = v73 + 1 := ⟨_, rfl⟩
                      have dv81 : dkN [(4, 4)] v81 := by rw [ev81]; exact dkN_add dv73 (dkN_lit (x := 1) (1) rfl) rfl
                      refine lv_iinc (v := v81) (lv' := [(6, .int v81), (5, .int v80), (4, .int 0), (0, .ref (z + 340)), (1, .int p0), (2, .int p1), (3, .int p2)]) hx hb dX6_asleep_57 hl (k := 1) rfl (by rw [ev81]; rfl) (by decide) rfl (fun ls hl => ?_)
                      refine lv_goto (tgt := 39) hx hb dX6_asleep_60 (by decide) ?_
                      refine lv_iload hx hb dX6_asleep_39 (lv_at hl 0 rfl) ?_
                      refine lv_aload_n hx hb dX6_asleep_41 rfl (lv_at hl 3 rfl) ?_
                      refine dk_get (k := 340) hx hb hts iX6_asleep_6 hown hK (dk_at340 hW) rfl 13 (by decide) (hts (.fieldLink RX6 25 "DogKingsModel" "now" "[I") (List.mem_of_getElem? (i := 2) rfl)) rfl dX6_asleep_42 ?_
                      refine lv_iconst (v := 5) hx hb dX6_asleep_45 (by decide) ?_
                      refine dk_ild (k := 346) hx hb hK (dk_at346 hW) (dkN_in (n := 54) (dkN_lit (x := 5) (5) rfl) rfl) dX6_asleep_46 ?_
                      refine lv_topi (fun v82 ev82 => ?_)
                      have ev82 : v82 = I45 346 5 := ev82
                      have dv82 : dkN [(4, 6)] v82 := by rw [ev82]; exact (show dkN [(4, 6)] (I45 346 5) from f79)
                      refine lv_icmp_ge (tgt := 63) hx hb dX6_asleep_47 (by decide) (fun c83 => ?_) (fun c83 => ?_)
                      ·
                        have d84 : dkN [(4, 4)] v82 := dkN_le1 0 dv82 dv81 (dkc_le c83) rfl
                        have f85 : dkN [(4, 4)] (I45 346 5) := by rw [← ev82]; exact d84
                        refine lv_iconst (v := 0) hx hb dX6_asleep_63 (by decide) ?_
                        refine lv_istore (lv' := [(6, .int 0), (5, .int v80), (4, .int 0), (0, .ref (z + 340)), (1, .int p0), (2, .int p1), (3, .int p2)]) hx hb dX6_asleep_64 hl (by decide) rfl (fun ls hl => ?_)
                        exact C66 _ I45 _ _ ls 0 v80 0 (Nat.lt_succ_self _) hW hS hF hO (dkN_sub dv80 rfl) (dkN_sub (dkN_lit (x := 0) (0) rfl) rfl) (dkN_sub d38 rfl) (dkN_sub d43 rfl) (dkN_sub d48 rfl) (lv_sub hl [3, 4, 5, 6, 2, 1, 0] rfl)
                      ·
                        have d86 : dkN [(5, 6)] v82 := dkN_le2 1 dv81 dv82 (dkc_nle c83) rfl
                        have f87 : dkN [(5, 6)] (I45 346 5) := by rw [← ev82]; exact d86
                        refine lv_iload hx hb dX6_asleep_50 (lv_at hl 1 rfl) ?_
                        refine lv_bipush (v := 10) hx hb dX6_asleep_52 (by decide) ?_
                        refine lv_imul hx hb dX6_asleep_54 ?_
                        refine lv_topi (fun v88 ev88 => ?_)
                        have dv88 : dkN [(100000, 100000)] v88 := by rw [ev88]; exact dkN_mulR 10 (by decide) dv80 (dkN_lit (x := 10) (10) rfl) rfl
                        refine lv_istore (lv' := [(5, .int v88), (6, .int v81), (4, .int 0), (0, .ref (z + 340)), (1, .int p0), (2, .int p1), (3, .int p2)]) hx hb dX6_asleep_55 hl (by decide) rfl (fun ls hl => ?_)
                        obtain ⟨v89, ev89⟩ : ∃ y : Int32, y = v81 + 1 := ⟨_, rfl⟩
                        have dv89 : dkN [(5, 5)] v89 := by rw [ev89]; exact dkN_add dv81 (dkN_lit (x := 1) (1) rfl) rfl
                        refine lv_iinc (v := v89) (lv' := [(6, .int v89), (5, .int v88), (4, .int 0), (0, .ref (z + 340)), (1, .int p0), (2, .int p1), (3, .int p2)]) hx hb dX6_asleep_57 hl (k := 1) rfl (by rw [ev89]; rfl) (by decide) rfl (fun ls hl => ?_)
                        refine lv_goto (tgt := 39) hx hb dX6_asleep_60 (by decide) ?_
                        refine lv_iload hx hb dX6_asleep_39 (lv_at hl 0 rfl) ?_
                        refine lv_aload_n hx hb dX6_asleep_41 rfl (lv_at hl 3 rfl) ?_
                        refine dk_get (k := 340) hx hb hts iX6_asleep_6 hown hK (dk_at340 hW) rfl 13 (by decide) (hts (.fieldLink RX6 25 "DogKingsModel" "now" "[I") (List.mem_of_getElem? (i := 2) rfl)) rfl dX6_asleep_42 ?_
                        refine lv_iconst (v := 5) hx hb dX6_asleep_45 (by decide) ?_
                        refine dk_ild (k := 346) hx hb hK (dk_at346 hW) (dkN_in (n := 54) (dkN_lit (x := 5) (5) rfl) rfl) dX6_asleep_46 ?_
                        refine lv_topi (fun v90 ev90 => ?_)
                        have ev90 : v90 = I45 346 5 := ev90
                        have dv90 : dkN [(5, 6)] v90 := by rw [ev90]; exact (show dkN [(5, 6)] (I45 346 5) from f87)
                        refine lv_icmp_ge (tgt := 63) hx hb dX6_asleep_47 (by decide) (fun c91 => ?_) (fun c91 => ?_)
                        ·
                          have d92 : dkN [(5, 5)] v90 := dkN_le1 0 dv90 dv89 (dkc_le c91) rfl
                          have f93 : dkN [(5, 5)] (I45 346 5) := by rw [← ev90]; exact d92
                          refine lv_iconst (v := 0) hx hb dX6_asleep_63 (by decide) ?_
                          refine lv_istore (lv' := [(6, .int 0), (5, .int v88), (4, .int 0), (0, .ref (z + 340)), (1, .int p0), (2, .int p1), (3, .int p2)]) hx hb dX6_asleep_64 hl (by decide) rfl (fun ls hl => ?_)
                          exact C66 _ I45 _ _ ls 0 v88 0 (Nat.lt_succ_self _) hW hS hF hO (dkN_sub dv88 rfl) (dkN_sub (dkN_lit (x := 0) (0) rfl) rfl) (dkN_sub d38 rfl) (dkN_sub d43 rfl) (dkN_sub d48 rfl) (lv_sub hl [3, 4, 5, 6, 2, 1, 0] rfl)
                        ·
                          have d94 : dkN [(6, 6)] v90 := dkN_le2 1 dv89 dv90 (dkc_nle c91) rfl
                          have f95 : dkN [(6, 6)] (I45 346 5) := by rw [← ev90]; exact d94
                          refine lv_iload hx hb dX6_asleep_50 (lv_at hl 1 rfl) ?_
                          refine lv_bipush (v := 10) hx hb dX6_asleep_52 (by decide) ?_
                          refine lv_imul hx hb dX6_asleep_54 ?_
                          refine lv_topi (fun v96 ev96 => ?_)
                          have dv96 : dkN [(1000000, 1000000)] v96 := by rw [ev96]; exact dkN_mulR 10 (by decide) dv88 (dkN_lit (x := 10) (10) rfl) rfl
                          refine lv_istore (lv' := [(5, .int v96), (6, .int v89), (4, .int 0), (0, .ref (z + 340)), (1, .int p0), (2, .int p1), (3, .int p2)]) hx hb dX6_asleep_55 hl (by decide) rfl (fun ls hl => ?_)
                          obtain ⟨v97, ev97⟩ : ∃ y : Int32, y = v89 + 1 := ⟨_, rfl⟩
                          have dv97 : dkN [(6, 6)] v97 := by rw [ev97]; exact dkN_add dv89 (dkN_lit (x := 1) (1) rfl) rfl
                          refine lv_iinc (v := v97) (lv' := [(6, .int v97), (5, .int v96), (4, .int 0), (0, .ref (z + 340)), (1, .int p0), (2, .int p1), (3, .int p2)]) hx hb dX6_asleep_57 hl (k := 1) rfl (by rw [ev97]; rfl) (by decide) rfl (fun ls hl => ?_)
                          refine lv_goto (tgt := 39) hx hb dX6_asleep_60 (by decide) ?_
                          refine lv_iload hx hb dX6_asleep_39 (lv_at hl 0 rfl) ?_
                          refine lv_aload_n hx hb dX6_asleep_41 rfl (lv_at hl 3 rfl) ?_
                          refine dk_get (k := 340) hx hb hts iX6_asleep_6 hown hK (dk_at340 hW) rfl 13 (by decide) (hts (.fieldLink RX6 25 "DogKingsModel" "now" "[I") (List.mem_of_getElem? (i := 2) rfl)) rfl dX6_asleep_42 ?_
                          refine lv_iconst (v := 5) hx hb dX6_asleep_45 (by decide) ?_
                          refine dk_ild (k := 346) hx hb hK (dk_at346 hW) (dkN_in (n := 54) (dkN_lit (x := 5) (5) rfl) rfl) dX6_asleep_46 ?_
                          refine lv_topi (fun v98 ev98 => ?_)
                          have ev98 : v98 = I45 346 5 := ev98
                          have dv98 : dkN [(6, 6)] v98 := by rw [ev98]; exact (show dkN [(6, 6)] (I45 346 5) from f95)
                          refine lv_icmp_ge (tgt := 63) hx hb dX6_asleep_47 (by decide) (fun c99 => ?_) (fun c99 => ?_)
                          ·
                            refine lv_iconst (v := 0) hx hb dX6_asleep_63 (by decide) ?_
                            refine lv_istore (lv' := [(6, .int 0), (5, .int v96), (4, .int 0), (0, .ref (z + 340)), (1, .int p0), (2, .int p1), (3, .int p2)]) hx hb dX6_asleep_64 hl (by decide) rfl (fun ls hl => ?_)
                            exact C66 _ I45 _ _ ls 0 v96 0 (Nat.lt_succ_self _) hW hS hF hO (dkN_sub dv96 rfl) (dkN_sub (dkN_lit (x := 0) (0) rfl) rfl) (dkN_sub d38 rfl) (dkN_sub d43 rfl) (dkN_sub d48 rfl) (lv_sub hl [3, 4, 5, 6, 2, 1, 0] rfl)
                          ·
                            exact (dkN_nil (show dkN [] v98 from dkN_le2 1 dv97 dv98 (dkc_nle c99) rfl)).elim
            ·
              exact (dkN_nil (show dkN [] v45 from dkN_eq1 dv45 (dkN_lit (x := 0) (0) rfl) (congrArg Int32.toInt c49) rfl)).elim
set_option maxHeartbeats 4000000 in
set_option maxRecDepth 100000 in
theorem c_X3_drawFriday_1 (l : Launch) (g : dkG) (z : Nat) (I0 : dkI) (p0 : Int64) (dp0 : dkL [(0, 2147483646)] p0)  (hO : dkOk I0) : Met l yX3_drawFriday wsX3_drawFriday (dkR 4) (dkPc g z [.ref (z + 325), .long p0] I0) (dkQl g z (fun r I1 => dkF [(326, 326, 3, 3), (329, 329, 0, 4), (330, 330, 0, 4), (331, 331, 0, 4), (335, 335, 0, 5), (336, 336, 0, 8)] I0 I1 ∧ dkOk I1 ∧ ((dkL [(0, 2147483646)] r ∧ True)))) 0 0 (dkA z) := by
  refine Met.ofW (cc := cX3_drawFriday) (maxL := 4) (ret := (some .long)) (by decide) rfl ?_
  intro p e s m args below meth c s₁ B hml hv
  obtain ⟨ha, hW, hK, hT⟩ := hv
  have hx := B.exec
  have hb := B.bytes
  have hr := B.returns
  have hts := atoms_spec (ws := wsX3_drawFriday) B.pre
  have hown : s.vm.findClass RX3 = some m.cls := findClass_of_methodNamed B.named
  have hlocks := B.notSynchronized
  have hS : va_S (dkA z) s.heap s.heap [] := va_S.rf
  have hF : dkF [(326, 326, 3, 3), (329, 329, 0, 4), (330, 330, 0, 4), (331, 331, 0, 4), (335, 335, 0, 5), (336, 336, 0, 8)] I0 I0 := dkF_rf _ _
  have hl := lv_entry ([.ref (z + 325), .long p0]) (n := 4) (Nat.le_of_ble_eq_true rfl)
  have hgo : entryFrame m args 4 = entryFrame m ([.ref (z + 325), .long p0] : List Value).toArray 4 := by rw [ha]
  rw [hgo, lg_entry_eq]
  generalize (lg_sl ([.ref (z + 325), .long p0]) ++ List.replicate (4 - (lg_sl ([.ref (z + 325), .long p0])).length) Slot.unset).toArray = ls at hl ⊢
  have hl : lv_has ls 4 [(0, .ref (z + 325)), (1, .long p0)] := hl
  have C16 : ∀ (n : Nat), ∀ (I : dkI) (H : Heap) (locs : List Loc) (ls : Array Slot) (x16_1 : Int64) (x16_3 : Int32), (x16_3.toInt - (-2147483648)).toNat < n → dkW g z I H → va_S (dkA z) s.heap H locs → dkF [(326, 326, 3, 3), (329, 329, 0, 4), (330, 330, 0, 4), (331, 331, 0, 4), (335, 335, 0, 5), (336, 336, 0, 8)] I0 I → dkOk I → dkL [(0, 2147483646)] x16_1 → lv_has ls 4 [(0, .ref (z + 325)), (1, .long x16_1), (3, .int x16_3)] → W p l e (headSpec wsX3_drawFriday (dkR 4)).room s m args below meth c H locs 0 0 (MQ below (dkQl g z (fun r I1 => dkF [(326, 326, 3, 3), (329, 329, 0, 4), (330, 330, 0, 4), (331, 331, 0, 4), (335, 335, 0, 5), (336, 336, 0, 8)] I0 I1 ∧ dkOk I1 ∧ ((dkL [(0, 2147483646)] r ∧ True)))) args s 0 0 (dkA z)) (F0 m 16 ls []) := by
    intro n
    induction n with
    | zero => intro I H locs ls x16_1 x16_3 hn; exact absurd hn (Nat.not_lt_zero _)
    | succ n ih16 =>
      intro I16_ H locs ls x16_1 x16_3 hn16 hW hS hF_16 hO k16_0 hl
      have hF := hF_16
      refine lv_iload_n hx hb dX3_drawFriday_16 rfl (lv_at hl 2 rfl) ?_
      refine lv_if_le (tgt := 78) hx hb dX3_drawFriday_17 (by decide) (fun c1 => ?_) (fun c1 => ?_)
      ·
        have d2 : dkN [(-2147483648, 0)] x16_3 := dkN_le1 0 (dkN_top x16_3) (dkN_lit (x := 0) (0) rfl) (dkc_le c1) rfl
        refine lv_lload_n hx hb dX3_drawFriday_78 rfl (lv_at hl 1 rfl) ?_
        exact W.lret (v := x16_1) hx hb hr (fun t ht hW9 => ⟨⟨x16_1, I16_, rfl, ⟨hF, hO, dkL_sub k16_0 rfl, trivial⟩, dkW_eq ht hW⟩, hS.F ht⟩) hS.2.2 dX3_drawFriday_79
      ·
        have d3 : dkN [(1, 2147483647)] x16_3 := dkN_le2 1 (dkN_lit (x := 0) (0) rfl) (dkN_top x16_3) (dkc_nle c1) rfl
        refine lv_aload_n hx hb dX3_drawFriday_20 rfl (lv_at hl 0 rfl) ?_
        refine dk_get (k := 325) hx hb hts iX3_drawFriday_3 hown hK (dk_at325 hW) rfl 1 (by decide) (hts (.fieldLink RX3 12 "DogKings$Seer" "then" "LDogKings$Town;") (List.mem_of_getElem? (i := 1) rfl)) rfl dX3_drawFriday_21 ?_
        refine dk_get (k := 326) hx hb hts iX3_drawFriday_4 hown hK (dk_at326 hW) rfl 4 (by decide) (hts (.fieldLink RX3 148 "DogKings$Town" "people" "I") (List.mem_of_getElem? (i := 4) rfl)) rfl dX3_drawFriday_24 ?_
        refine lv_topi (fun v4 ev4 => ?_)
        have dv4 : dkN [(0, 5)] v4 := by rw [ev4]; exact (hO 326 4)
        refine lv_if_le (tgt := 78) hx hb dX3_drawFriday_27 (by decide) (fun c5 => ?_) (fun c5 => ?_)
        ·
          have d6 : dkN [(0, 0)] v4 := dkN_le1 0 dv4 (dkN_lit (x := 0) (0) rfl) (dkc_le c5) rfl
          have f7 : dkN [(0, 0)] (I16_ 326 4) := by rw [← ev4]; exact d6
          refine lv_lload_n hx hb dX3_drawFriday_78 rfl (lv_at hl 1 rfl) ?_
          exact W.lret (v := x16_1) hx hb hr (fun t ht hW9 => ⟨⟨x16_1, I16_, rfl, ⟨hF, hO, dkL_sub k16_0 rfl, trivial⟩, dkW_eq ht hW⟩, hS.F ht⟩) hS.2.2 dX3_drawFriday_79
        ·
          have d8 : dkN [(1, 5)] v4 := dkN_le2 1 (dkN_lit (x := 0) (0) rfl) dv4 (dkc_nle c5) rfl
          have f9 : dkN [(1, 5)] (I16_ 326 4) := by rw [← ev4]; exact d8
          refine lv_lload_n hx hb dX3_drawFriday_30 rfl (lv_at hl 1 rfl) ?_
          refine lv_ldc2 (v := 16807) hx hb hown (hts (.constantLong RX3 151 (16807)) (List.mem_of_getElem? (i := 5) rfl)) dX3_drawFriday_31 ?_
          refine lv_lmul hx hb dX3_drawFriday_34 ?_
          refine lv_topl (fun v10 ev10 => ?_)
          have dv10 : dkL [(0, 36092757638322)] v10 := by rw [ev10]; exact dkL_mul 16807 (by decide) k16_0 (dkL_lit (x := 16807) (16807) rfl) rfl
          refine lv_ldc2 (v := 2147483647) hx hb hown (hts (.constantLong RX3 153 (2147483647)) (List.mem_of_getElem? (i := 6) rfl)) dX3_drawFriday_35 ?_
          refine lv_lrem hx hb dX3_drawFriday_38 (dkL_ne0 (dkL_lit (x := 2147483647) (2147483647) rfl) rfl) ?_
          refine lv_topl (fun v11 ev11 => ?_)
          have dv11 : dkL [(0, 2147483646)] v11 := by rw [ev11]; exact dkL_rem 2147483647 dv10 (dkL_lit (x := 2147483647) (2147483647) rfl) rfl
          refine lv_lstore_n (lv' := [(1, .long v11), (0, .ref (z + 325)), (3, .int x16_3)]) hx hb dX3_drawFriday_39 rfl hl (by decide) rfl (fun ls hl => ?_)
          refine lv_aload_n hx hb dX3_drawFriday_40 rfl (lv_at hl 1 rfl) ?_
          refine dk_get (k := 325) hx hb hts iX3_drawFriday_3 hown hK (dk_at325 hW) rfl 1 (by decide) (hts (.fieldLink RX3 12 "DogKings$Seer" "then" "LDogKings$Town;") (List.mem_of_getElem? (i := 1) rfl)) rfl dX3_drawFriday_41 ?_
          refine dk_get (k := 326) hx hb hts iX3_drawFriday_4 hown hK (dk_at326 hW) rfl 8 (by decide) (hts (.fieldLink RX3 104 "DogKings$Town" "bones" "[I") (List.mem_of_getElem? (i := 7) rfl)) rfl dX3_drawFriday_44 ?_
          refine lv_lload_n hx hb dX3_drawFriday_47 rfl (lv_at hl 0 rfl) ?_
          refine lv_aload_n hx hb dX3_drawFriday_48 rfl (lv_at hl 1 rfl) ?_
          refine dk_get (k := 325) hx hb hts iX3_drawFriday_3 hown hK (dk_at325 hW) rfl 1 (by decide) (hts (.fieldLink RX3 12 "DogKings$Seer" "then" "LDogKings$Town;") (List.mem_of_getElem? (i := 1) rfl)) rfl dX3_drawFriday_49 ?_
          refine dk_get (k := 326) hx hb hts iX3_drawFriday_4 hown hK (dk_at326 hW) rfl 4 (by decide) (hts (.fieldLink RX3 148 "DogKings$Town" "people" "I") (List.mem_of_getElem? (i := 4) rfl)) rfl dX3_drawFriday_52 ?_
          refine lv_topi (fun v12 ev12 => ?_)
          have dv12 : dkN [(1, 5)] v12 := by rw [ev12]; exact f9
          refine lv_i2l hx hb dX3_drawFriday_55 rfl ?_
          refine lv_topl (fun v13 ev13 => ?_)
          have dv13 : dkL [(1, 5)] v13 := by rw [ev13]; exact dkL_of dv12
          refine lv_lrem hx hb dX3_drawFriday_56 (dkL_ne0 dv13 rfl) ?_
          refine lv_topl (fun v14 ev14 => ?_)
          have dv14 : dkL [(0, 4)] v14 := by rw [ev14]; exact dkL_rem 5 dv11 dv13 rfl
          refine lv_l2i hx hb dX3_drawFriday_57 rfl ?_
          refine lv_topi (fun v15 ev15 => ?_)
          have dv15 : dkN [(0, 4)] v15 := by rw [ev15]; exact dkN_ofL dv14 rfl
          refine lv_lload_n hx hb dX3_drawFriday_58 rfl (lv_at hl 0 rfl) ?_
          refine lv_ldc2 (v := 10) hx hb hown (hts (.constantLong RX3 155 (10)) (List.mem_of_getElem? (i := 8) rfl)) dX3_drawFriday_59 ?_
          refine lv_lrem hx hb dX3_drawFriday_62 (dkL_ne0 (dkL_lit (x := 10) (10) rfl) rfl) ?_
          refine lv_topl (fun v16 ev16 => ?_)
          have dv16 : dkL [(0, 9)] v16 := by rw [ev16]; exact dkL_rem 10 dv11 (dkL_lit (x := 10) (10) rfl) rfl
          refine lv_l2i hx hb dX3_drawFriday_63 rfl ?_
          refine lv_topi (fun v17 ev17 => ?_)
          have dv17 : dkN [(0, 9)] v17 := by rw [ev17]; exact dkN_ofL dv16 rfl
          refine dk_ist (k := 330) hx hb hK hW (fun _ => rfl) (by decide) hS (dkN_in (n := 5) dv15 rfl) dX3_drawFriday_64 (fun I18 H18 L18 eI18 hW hS => ?_)
          have hO := dkO_set hO eI18 (dkN_sub dv17 rfl)
          have hF := dkF_set hF eI18 (dkIn_v dv15 rfl)
          refine lv_aload_n hx hb dX3_drawFriday_65 rfl (lv_at hl 1 rfl) ?_
          refine dk_get (k := 325) hx hb hts iX3_drawFriday_3 hown hK (dk_at325 hW) rfl 1 (by decide) (hts (.fieldLink RX3 12 "DogKings$Seer" "then" "LDogKings$Town;") (List.mem_of_getElem? (i := 1) rfl)) rfl dX3_drawFriday_66 ?_
          refine dk_Vv (As := []) (rest := []) ⟨hx, hb, hml, hown, hts⟩ (c_X4_stir_0 l g z I18 (326) (by unfold dkT; omega) hO) (cwV 0 hts gX3_drawFriday_X4_stir rfl rfl rfl (by decide +kernel) ⟨Nat.le_of_ble_eq_true rfl, Nat.le_of_ble_eq_true rfl⟩) (dk_at326 hW) rfl hK hT hW hS rfl hl.1 rfl (Nat.le_of_ble_eq_true rfl) dX3_drawFriday_69 ⟨Nat.zero_le _, Nat.zero_le _⟩ (fun I19 H19 L19 hp19 hW hS => ?_)
          obtain ⟨hF19, hO, hc19⟩ := hp19
          have hF := dkF_call hF hF19 rfl
          obtain ⟨v20, ev20⟩ : ∃ y : Int32, y = x16_3 + (-1) := ⟨_, rfl⟩
          have dv20 : dkN [(0, 2147483646)] v20 := by rw [ev20]; exact dkN_add d3 (dkN_lit (x := (-1)) (-1) rfl) rfl
          refine lv_iinc (v := v20) (lv' := [(3, .int v20), (1, .long v11), (0, .ref (z + 325))]) hx hb dX3_drawFriday_72 hl (k := 2) rfl (by rw [ev20]; rfl) (by decide) rfl (fun ls hl => ?_)
          refine lv_goto (tgt := 16) hx hb dX3_drawFriday_75 (by decide) ?_
          exact ih16 I19 _ _ ls v11 v20 (dk_nearD hn16 (by rw [ev20]; exact dk_dec d3 rfl) (dkN_gt d3 rfl)) hW hS hF hO (dkL_sub dv11 rfl) (lv_sub hl [2, 1, 0] rfl)
  refine lv_aload_n hx hb dX3_drawFriday_0 rfl (lv_at hl 0 rfl) ?_
  refine dk_get (k := 325) hx hb hts iX3_drawFriday_3 hown hK (dk_at325 hW) rfl 1 (by decide) (hts (.fieldLink RX3 12 "DogKings$Seer" "then" "LDogKings$Town;") (List.mem_of_getElem? (i := 1) rfl)) rfl dX3_drawFriday_1 ?_
  refine dk_get (k := 326) hx hb hts iX3_drawFriday_4 hown hK (dk_at326 hW) rfl 1 (by decide) (hts (.fieldLink RX3 142 "DogKings$Town" "fridayLasts" "I") (List.mem_of_getElem? (i := 2) rfl)) rfl dX3_drawFriday_4 ?_
  refine lv_topi (fun v21 ev21 => ?_)
  have dv21 : dkN [(0, 30)] v21 := by rw [ev21]; exact (hO 326 1)
  refine lv_aload_n hx hb dX3_drawFriday_7 rfl (lv_at hl 0 rfl) ?_
  refine dk_get (k := 325) hx hb hts iX3_drawFriday_3 hown hK (dk_at325 hW) rfl 1 (by decide) (hts (.fieldLink RX3 12 "DogKings$Seer" "then" "LDogKings$Town;") (List.mem_of_getElem? (i := 1) rfl)) rfl dX3_drawFriday_8 ?_
  refine dk_get (k := 326) hx hb hts iX3_drawFriday_4 hown hK (dk_at326 hW) rfl 3 (by decide) (hts (.fieldLink RX3 145 "DogKings$Town" "minute" "I") (List.mem_of_getElem? (i := 3) rfl)) rfl dX3_drawFriday_11 ?_
  refine lv_topi (fun v22 ev22 => ?_)
  refine lv_isub hx hb dX3_drawFriday_14 ?_
  refine lv_topi (fun v23 ev23 => ?_)
  refine lv_istore_n (lv' := [(3, .int v23), (0, .ref (z + 325)), (1, .long p0)]) hx hb dX3_drawFriday_15 rfl hl (by decide) rfl (fun ls hl => ?_)
  exact C16 _ I0 _ _ ls p0 v23 (Nat.lt_succ_self _) hW hS hF hO (dkL_sub dp0 rfl) (lv_sub hl [1, 2, 0] rfl)
set_option maxHeartbeats 4000000 in
set_option maxRecDepth 100000 in
theorem c_X3_drawYears_0 (l : Launch) (g : dkG) (z : Nat) (I0 : dkI) (p0 : Int32) (p1 : Int32) (dp0 : dkN [(0, 9)] p0) (dp1 : dkN [(1, 999999)] p1)  (hO : dkOk I0) : Met l yX3_drawYears wsX3_drawYears (dkR 5) (dkPc g z [.ref (z + 325), .int p0, .int p1] I0) (dkQv g z (fun I1 => dkF [(325, 325, 2, 2), (326, 326, 0, 4), (326, 326, 11, 11), (326, 326, 15, 17), (327, 327, 0, 4), (328, 328, 0, 4), (329, 329, 0, 4), (330, 330, 0, 4), (331, 331, 0, 4), (332, 332, 0, 4), (333, 333, 0, 5), (334, 334, 0, 5), (335, 335, 0, 5), (336, 336, 0, 8), (337, 337, 0, 4)] I0 I1 ∧ dkOk I1 ∧ ((True)))) 0 0 (dkA z) := by
  refine Met.ofW (cc := cX3_drawYears) (maxL := 7) (ret := none) (by decide) rfl ?_
  intro p e s m args below meth c s₁ B hml hv
  obtain ⟨ha, hW, hK, hT⟩ := hv
  have hx := B.exec
  have hb := B.bytes
  have hr := B.returns
  have hts := atoms_spec (ws := wsX3_drawYears) B.pre
  have hown : s.vm.findClass RX3 = some m.cls := findClass_of_methodNamed B.named
  have hlocks := B.notSynchronized
  have hS : va_S (dkA z) s.heap s.heap [] := va_S.rf
  have hF : dkF [(325, 325, 2, 2), (326, 326, 0, 4), (326, 326, 11, 11), (326, 326, 15, 17), (327, 327, 0, 4), (328, 328, 0, 4), (329, 329, 0, 4), (330, 330, 0, 4), (331, 331, 0, 4), (332, 332, 0, 4), (333, 333, 0, 5), (334, 334, 0, 5), (335, 335, 0, 5), (336, 336, 0, 8), (337, 337, 0, 4)] I0 I0 := dkF_rf _ _
  have hl := lv_entry ([.ref (z + 325), .int p0, .int p1]) (n := 7) (Nat.le_of_ble_eq_true rfl)
  have hgo : entryFrame m args 7 = entryFrame m ([.ref (z + 325), .int p0, .int p1] : List Value).toArray 7 := by rw [ha]
  rw [hgo, lg_entry_eq]
  generalize (lg_sl ([.ref (z + 325), .int p0, .int p1]) ++ List.replicate (7 - (lg_sl ([.ref (z + 325), .int p0, .int p1])).length) Slot.unset).toArray = ls at hl ⊢
  have hl : lv_has ls 7 [(0, .ref (z + 325)), (1, .int p0), (2, .int p1)] := hl
  have C42 : ∀ (n : Nat), ∀ (I : dkI) (H : Heap) (locs : List Loc) (ls : Array Slot) (x42_3 : Int64) (x42_5 : Int32), (9 - x42_5.toInt).toNat < n → dkW g z I H → va_S (dkA z) s.heap H locs → dkF [(325, 325, 2, 2), (326, 326, 0, 4), (326, 326, 11, 11), (326, 326, 15, 17), (327, 327, 0, 4), (328, 328, 0, 4), (329, 329, 0, 4), (330, 330, 0, 4), (331, 331, 0, 4), (332, 332, 0, 4), (333, 333, 0, 5), (334, 334, 0, 5), (335, 335, 0, 5), (336, 336, 0, 8), (337, 337, 0, 4)] I0 I → dkOk I → dkL [(0, 2147483646)] x42_3 → dkN [(0, 9)] x42_5 → lv_has ls 7 [(0, .ref (z + 325)), (1, .int p0), (2, .int p1), (3, .long x42_3), (5, .int x42_5)] → W p l e (headSpec wsX3_drawYears (dkR 5)).room s m args below meth c H locs 0 0 (MQ below (dkQv g z (fun I1 => dkF [(325, 325, 2, 2), (326, 326, 0, 4), (326, 326, 11, 11), (326, 326, 15, 17), (327, 327, 0, 4), (328, 328, 0, 4), (329, 329, 0, 4), (330, 330, 0, 4), (331, 331, 0, 4), (332, 332, 0, 4), (333, 333, 0, 5), (334, 334, 0, 5), (335, 335, 0, 5), (336, 336, 0, 8), (337, 337, 0, 4)] I0 I1 ∧ dkOk I1 ∧ ((True)))) args s 0 0 (dkA z)) (F0 m 42 ls []) := by
    intro n
    induction n with
    | zero => intro I H locs ls x42_3 x42_5 hn; exact absurd hn (Nat.not_lt_zero _)
    | succ n ih42 =>
      intro I42_ H locs ls x42_3 x42_5 hn42 hW hS hF_42 hO k42_0 k42_1 hl
      have hF := hF_42
      have C102 : ∀ (I : dkI) (H : Heap) (locs : List Loc) (ls : Array Slot) (x102_3 : Int64) (x102_6 : Int32), dkW g z I H → va_S (dkA z) s.heap H locs → dkF [(325, 325, 2, 2), (326, 326, 0, 4), (326, 326, 11, 11), (326, 326, 15, 17), (327, 327, 0, 4), (328, 328, 0, 4), (329, 329, 0, 4), (330, 330, 0, 4), (331, 331, 0, 4), (332, 332, 0, 4), (333, 333, 0, 5), (334, 334, 0, 5), (335, 335, 0, 5), (336, 336, 0, 8), (337, 337, 0, 4)] I0 I → dkOk I → dkL [(0, 2147483646)] x102_3 → dkN [(-1000000, -1000000), (0, 4)] x102_6 → dkN [(1, 9)] p0 → dkN [(0, 8)] x42_5 → dkN [(0, 0)] (I 326 3) → lv_has ls 7 [(0, .ref (z + 325)), (1, .int p0), (2, .int p1), (3, .long x102_3), (5, .int x42_5), (6, .int x102_6)] → W p l e (headSpec wsX3_drawYears (dkR 5)).room s m args below meth c H locs 0 0 (MQ below (dkQv g z (fun I1 => dkF [(325, 325, 2, 2), (326, 326, 0, 4), (326, 326, 11, 11), (326, 326, 15, 17), (327, 327, 0, 4), (328, 328, 0, 4), (329, 329, 0, 4), (330, 330, 0, 4), (331, 331, 0, 4), (332, 332, 0, 4), (333, 333, 0, 5), (334, 334, 0, 5), (335, 335, 0, 5), (336, 336, 0, 8), (337, 337, 0, 4)] I0 I1 ∧ dkOk I1 ∧ ((True)))) args s 0 0 (dkA z)) (F0 m 102 ls []) := by
        intro I102_ H locs ls x102_3 x102_6 hW hS hF_102 hO k102_0 k102_1 r102_0 r102_1 f102_0 hl
        have hF := hF_102
        obtain ⟨v1, ev1⟩ : ∃ y : Int32, y = x42_5 + 1 := ⟨_, rfl⟩
        have dv1 : dkN [(1, 9)] v1 := by rw [ev1]; exact dkN_add r102_1 (dkN_lit (x := 1) (1) rfl) rfl
        refine lv_iinc (v := v1) (lv' := [(5, .int v1), (0, .ref (z + 325)), (1, .int p0), (2, .int p1), (3, .long x102_3), (6, .int x102_6)]) hx hb dX3_drawYears_102 hl (k := 4) rfl (by rw [ev1]; rfl) (by decide) rfl (fun ls hl => ?_)
        refine lv_goto (tgt := 42) hx hb dX3_drawYears_105 (by decide) ?_
        exact ih42 I102_ _ _ ls x102_3 v1 (dk_near hn42 (by rw [ev1]; exact dk_inc r102_1 rfl) (dkN_lt r102_1 rfl)) hW hS hF hO (dkL_sub k102_0 rfl) (dkN_sub dv1 rfl) (lv_sub hl [1, 2, 3, 4, 0] rfl)
      have C92 : ∀ (I : dkI) (H : Heap) (locs : List Loc) (ls : Array Slot) (x92_3 : Int64) (x92_6 : Int32), dkW g z I H → va_S (dkA z) s.heap H locs → dkF [(325, 325, 2, 2), (326, 326, 0, 4), (326, 326, 11, 11), (326, 326, 15, 17), (327, 327, 0, 4), (328, 328, 0, 4), (329, 329, 0, 4), (330, 330, 0, 4), (331, 331, 0, 4), (332, 332, 0, 4), (333, 333, 0, 5), (334, 334, 0, 5), (335, 335, 0, 5), (336, 336, 0, 8), (337, 337, 0, 4)] I0 I → dkOk I → dkL [(0, 2147483646)] x92_3 → dkN [(-1000000, -1000000)] x92_6 → dkN [(1, 9)] p0 → dkN [(0, 8)] x42_5 → dkN [(0, 0)] (I 326 3) → lv_has ls 7 [(0, .ref (z + 325)), (1, .int p0), (2, .int p1), (3, .long x92_3), (5, .int x42_5), (6, .int x92_6)] → W p l e (headSpec wsX3_drawYears (dkR 5)).room s m args below meth c H locs 0 0 (MQ below (dkQv g z (fun I1 => dkF [(325, 325, 2, 2), (326, 326, 0, 4), (326, 326, 11, 11), (326, 326, 15, 17), (327, 327, 0, 4), (328, 328, 0, 4), (329, 329, 0, 4), (330, 330, 0, 4), (331, 331, 0, 4), (332, 332, 0, 4), (333, 333, 0, 5), (334, 334, 0, 5), (335, 335, 0, 5), (336, 336, 0, 8), (337, 337, 0, 4)] I0 I1 ∧ dkOk I1 ∧ ((True)))) args s 0 0 (dkA z)) (F0 m 92 ls []) := by
        intro I92_ H locs ls x92_3 x92_6 hW hS hF_92 hO k92_0 k92_1 r92_0 r92_1 f92_0 hl
        have hF := hF_92
        refine lv_aload_n hx hb dX3_drawYears_92 rfl (lv_at hl 0 rfl) ?_
        refine lv_dup hx hb dX3_drawYears_93 rfl ?_
        refine dk_get (k := 325) hx hb hts iX3_drawYears_3 hown hK (dk_at325 hW) rfl 2 (by decide) (hts (.fieldLink RX3 135 "DogKings$Seer" "kingless" "I") (List.mem_of_getElem? (i := 1) rfl)) rfl dX3_drawYears_94 ?_
        refine lv_topi (fun v2 ev2 => ?_)
        refine lv_iconst (v := 1) hx hb dX3_drawYears_97 (by decide) ?_
        refine lv_iadd hx hb dX3_drawYears_98 ?_
        refine lv_topi (fun v3 ev3 => ?_)
        refine dk_put (k := 325) hx hb hts iX3_drawYears_3 tyX3 tyX3_ok nmX3 hown hK hW (dk_at325 hW) hS rfl 2 (by decide) (hts (.fieldLink RX3 135 "DogKings$Seer" "kingless" "I") (List.mem_of_getElem? (i := 1) rfl)) rfl rfl (Nat.le_of_ble_eq_true rfl) rfl dX3_drawYears_99 (fun I4 H4 L4 eI4 hW hS => ?_)
        have eI4 : I4 = dkU I92_ 325 2 v3 := eI4
        have hO := dkO_set hO eI4 (dkN_sub (dkN_top v3) rfl)
        have hF := dkF_set hF eI4 rfl
        exact C102 I4 _ _ ls x92_3 x92_6 hW hS hF hO (dkL_sub k92_0 rfl) (dkN_sub k92_1 rfl) (dkN_sub r92_0 rfl) (dkN_sub r92_1 rfl) (show dkN [(0, 0)] (I4 326 3) from dkN_sub (by rw [eI4, dkU_n (by decide)]; exact f92_0) rfl) (lv_sub hl [0, 1, 2, 3, 4, 5] rfl)
      refine lv_iload hx hb dX3_drawYears_42 (lv_at hl 4 rfl) ?_
      refine lv_iload_n hx hb dX3_drawYears_44 rfl (lv_at hl 1 rfl) ?_
      refine lv_icmp_ge (tgt := 108) hx hb dX3_drawYears_45 (by decide) (fun c5 => ?_) (fun c5 => ?_)
      ·
        exact W.vret hx hb hr (fun t ht hW9 => ⟨⟨I42_, rfl, ⟨hF, hO, trivial⟩, dkW_eq ht hW⟩, hS.F ht⟩) hS.2.2 dX3_drawYears_108
      ·
        have d6 : dkN [(1, 9)] p0 := dkN_le2 1 k42_1 dp0 (dkc_nle c5) rfl
        have d7 : dkN [(0, 8)] x42_5 := dkN_le1 1 k42_1 dp0 (dkc_nle c5) rfl
        refine lv_aload_n hx hb dX3_drawYears_48 rfl (lv_at hl 0 rfl) ?_
        refine lv_lload_n hx hb dX3_drawYears_49 rfl (lv_at hl 3 rfl) ?_
        refine dk_Vl (As := [.long x42_3]) (rest := []) ⟨hx, hb, hml, hown, hts⟩ (c_X3_drawFriday_1 l g z I42_ x42_3 (dkL_sub k42_0 rfl) hO) (cwV 1 hts gX3_drawYears_X3_drawFriday rfl rfl rfl (by decide +kernel) ⟨Nat.le_of_ble_eq_true rfl, Nat.le_of_ble_eq_true rfl⟩) (dk_at325 hW) rfl hK hT hW hS rfl hl.1 rfl (Nat.le_of_ble_eq_true rfl) dX3_drawYears_50 ⟨Nat.zero_le _, Nat.zero_le _⟩ (fun v8 I8 H8 L8 hp8 hW hS => ?_)
        obtain ⟨hF8, hO, hc8⟩ := hp8
        have hF := dkF_call hF hF8 rfl
        refine lv_lstore_n (lv' := [(3, .long v8), (0, .ref (z + 325)), (1, .int p0), (2, .int p1), (5, .int x42_5)]) hx hb dX3_drawYears_53 rfl hl (by decide) rfl (fun ls hl => ?_)
        refine lv_aload_n hx hb dX3_drawYears_54 rfl (lv_at hl 1 rfl) ?_
        refine dk_get (k := 325) hx hb hts iX3_drawYears_3 hown hK (dk_at325 hW) rfl 1 (by decide) (hts (.fieldLink RX3 12 "DogKings$Seer" "then" "LDogKings$Town;") (List.mem_of_getElem? (i := 3) rfl)) rfl dX3_drawYears_55 ?_
        refine dk_Vi (As := []) (rest := []) ⟨hx, hb, hml, hown, hts⟩ (c_X4_ring_0 l g z I8 (326) (by unfold dkT; omega) hO) (cwV 0 hts gX3_drawYears_X4_ring rfl rfl rfl (by decide +kernel) ⟨Nat.le_of_ble_eq_true rfl, Nat.le_of_ble_eq_true rfl⟩) (dk_at326 hW) rfl hK hT hW hS rfl hl.1 rfl (Nat.le_of_ble_eq_true rfl) dX3_drawYears_58 ⟨Nat.zero_le _, Nat.zero_le _⟩ (fun v9 I9 H9 L9 hp9 hW hS => ?_)
        obtain ⟨hF9, hO, hc9⟩ := hp9
        have hF := dkF_call hF hF9 rfl
        obtain ⟨dv9, f9_326_3, -⟩ := hc9
        refine lv_istore (lv' := [(6, .int v9), (3, .long v8), (0, .ref (z + 325)), (1, .int p0), (2, .int p1), (5, .int x42_5)]) hx hb dX3_drawYears_61 hl (by decide) rfl (fun ls hl => ?_)
        refine lv_iload hx hb dX3_drawYears_63 (lv_at hl 0 rfl) ?_
        refine lv_if_lt (tgt := 92) hx hb dX3_drawYears_65 (by decide) (fun c10 => ?_) (fun c10 => ?_)
        ·
          have d11 : dkN [(-1000000, -1000000)] v9 := dkN_le1 1 dv9 (dkN_lit (x := 0) (0) rfl) (dkc_lt c10) rfl
          exact C92 I9 _ _ ls v8 v9 hW hS hF hO (dkL_sub hc8.1 rfl) (dkN_sub d11 rfl) (dkN_sub d6 rfl) (dkN_sub d7 rfl) (show dkN [(0, 0)] (I9 326 3) from dkN_sub f9_326_3 rfl) (lv_sub hl [2, 3, 4, 1, 5, 0] rfl)
        ·
          have d12 : dkN [(0, 4)] v9 := dkN_le2 0 (dkN_lit (x := 0) (0) rfl) dv9 (dkc_nlt c10) rfl
          refine lv_iload hx hb dX3_drawYears_68 (lv_at hl 0 rfl) ?_
          refine lv_aload_n hx hb dX3_drawYears_70 rfl (lv_at hl 2 rfl) ?_
          refine dk_get (k := 325) hx hb hts iX3_drawYears_3 hown hK (dk_at325 hW) rfl 3 (by decide) (hts (.fieldLink RX3 18 "DogKings$Seer" "crowns" "[I") (List.mem_of_getElem? (i := 2) rfl)) rfl dX3_drawYears_71 ?_
          refine dk_alen (k := 337) hx hb hK (dk_at337 hW) (v := 5) rfl dX3_drawYears_74 ?_
          refine lv_icmp_ge (tgt := 92) hx hb dX3_drawYears_75 (by decide) (fun c13 => ?_) (fun c13 => ?_)
          ·
            exact (dkN_nil (show dkN [] 5 from dkN_le1 0 (dkN_lit (x := 5) (5) rfl) d12 (dkc_le c13) rfl)).elim
          ·
            refine lv_aload_n hx hb dX3_drawYears_78 rfl (lv_at hl 2 rfl) ?_
            refine dk_get (k := 325) hx hb hts iX3_drawYears_3 hown hK (dk_at325 hW) rfl 3 (by decide) (hts (.fieldLink RX3 18 "DogKings$Seer" "crowns" "[I") (List.mem_of_getElem? (i := 2) rfl)) rfl dX3_drawYears_79 ?_
            refine lv_iload hx hb dX3_drawYears_82 (lv_at hl 0 rfl) ?_
            refine lv_dup2_11 hx hb dX3_drawYears_84 rfl rfl ?_
            refine dk_ild (k := 337) hx hb hK (dk_at337 hW) (dkN_in (n := 5) d12 rfl) dX3_drawYears_85 ?_
            refine lv_topi (fun v14 ev14 => ?_)
            refine lv_iconst (v := 1) hx hb dX3_drawYears_86 (by decide) ?_
            refine lv_iadd hx hb dX3_drawYears_87 ?_
            refine lv_topi (fun v15 ev15 => ?_)
            refine dk_ist (k := 337) hx hb hK hW (fun _ => rfl) (by decide) hS (dkN_in (n := 5) d12 rfl) dX3_drawYears_88 (fun I16 H16 L16 eI16 hW hS => ?_)
            have hO := dkO_set hO eI16 (dkN_sub (dkN_top v15) rfl)
            have hF := dkF_set hF eI16 (dkIn_v d12 rfl)
            refine lv_goto (tgt := 102) hx hb dX3_drawYears_89 (by decide) ?_
            exact C102 I16 _ _ ls v8 v9 hW hS hF hO (dkL_sub hc8.1 rfl) (dkN_sub d12 rfl) (dkN_sub d6 rfl) (dkN_sub d7 rfl) (show dkN [(0, 0)] (I16 326 3) from dkN_sub (by rw [eI16, dkU_n (by decide)]; exact f9_326_3) rfl) (lv_sub hl [2, 3, 4, 1, 5, 0] rfl)
  have C7 : ∀ (n : Nat), ∀ (I : dkI) (H : Heap) (locs : List Loc) (ls : Array Slot) (x7_3 : Int32), (5 - x7_3.toInt).toNat < n → dkW g z I H → va_S (dkA z) s.heap H locs → dkF [(325, 325, 2, 2), (326, 326, 0, 4), (326, 326, 11, 11), (326, 326, 15, 17), (327, 327, 0, 4), (328, 328, 0, 4), (329, 329, 0, 4), (330, 330, 0, 4), (331, 331, 0, 4), (332, 332, 0, 4), (333, 333, 0, 5), (334, 334, 0, 5), (335, 335, 0, 5), (336, 336, 0, 8), (337, 337, 0, 4)] I0 I → dkOk I → dkN [(0, 5)] x7_3 → dkN [(0, 0)] (I 325 2) → lv_has ls 7 [(0, .ref (z + 325)), (1, .int p0), (2, .int p1), (3, .int x7_3)] → W p l e (headSpec wsX3_drawYears (dkR 5)).room s m args below meth c H locs 0 0 (MQ below (dkQv g z (fun I1 => dkF [(325, 325, 2, 2), (326, 326, 0, 4), (326, 326, 11, 11), (326, 326, 15, 17), (327, 327, 0, 4), (328, 328, 0, 4), (329, 329, 0, 4), (330, 330, 0, 4), (331, 331, 0, 4), (332, 332, 0, 4), (333, 333, 0, 5), (334, 334, 0, 5), (335, 335, 0, 5), (336, 336, 0, 8), (337, 337, 0, 4)] I0 I1 ∧ dkOk I1 ∧ ((True)))) args s 0 0 (dkA z)) (F0 m 7 ls []) := by
    intro n
    induction n with
    | zero => intro I H locs ls x7_3 hn; exact absurd hn (Nat.not_lt_zero _)
    | succ n ih7 =>
      intro I7_ H locs ls x7_3 hn7 hW hS hF_7 hO k7_0 f7_0 hl
      have hF := hF_7
      refine lv_iload_n hx hb dX3_drawYears_7 rfl (lv_at hl 3 rfl) ?_
      refine lv_iconst (v := 5) hx hb dX3_drawYears_8 (by decide) ?_
      refine lv_icmp_ge (tgt := 25) hx hb dX3_drawYears_9 (by decide) (fun c17 => ?_) (fun c17 => ?_)
      ·
        have d18 : dkN [(5, 5)] x7_3 := dkN_le2 0 (dkN_lit (x := 5) (5) rfl) k7_0 (dkc_le c17) rfl
        refine lv_aload_n hx hb dX3_drawYears_25 rfl (lv_at hl 0 rfl) ?_
        refine dk_get (k := 325) hx hb hts iX3_drawYears_3 hown hK (dk_at325 hW) rfl 1 (by decide) (hts (.fieldLink RX3 12 "DogKings$Seer" "then" "LDogKings$Town;") (List.mem_of_getElem? (i := 3) rfl)) rfl dX3_drawYears_26 ?_
        refine lv_aload_n hx hb dX3_drawYears_29 rfl (lv_at hl 0 rfl) ?_
        refine dk_get (k := 325) hx hb hts iX3_drawYears_3 hown hK (dk_at325 hW) rfl 0 (by decide) (hts (.fieldLink RX3 22 "DogKings$Seer" "now" "LDogKings$Town;") (List.mem_of_getElem? (i := 4) rfl)) rfl dX3_drawYears_30 ?_
        refine dk_Vv (As := [.ref (z + 25)]) (rest := []) ⟨hx, hb, hml, hown, hts⟩ (c_X4_become_0 l g z I7_ (326) (by unfold dkT; omega) (25) (by unfold dkT; omega) hO) (cwV 1 hts gX3_drawYears_X4_become rfl rfl rfl (by decide +kernel) ⟨Nat.le_of_ble_eq_true rfl, Nat.le_of_ble_eq_true rfl⟩) (dk_at326 hW) rfl hK hT hW hS rfl hl.1 rfl (Nat.le_of_ble_eq_true rfl) dX3_drawYears_33 ⟨Nat.zero_le _, Nat.zero_le _⟩ (fun I19 H19 L19 hp19 hW hS => ?_)
        obtain ⟨hF19, hO, hc19⟩ := hp19
        have hF := dkF_call hF hF19 rfl
        refine lv_iload_n hx hb dX3_drawYears_36 rfl (lv_at hl 2 rfl) ?_
        refine lv_i2l hx hb dX3_drawYears_37 rfl ?_
        refine lv_topl (fun v20 ev20 => ?_)
        have dv20 : dkL [(1, 999999)] v20 := by rw [ev20]; exact dkL_of dp1
        refine lv_lstore_n (lv' := [(3, .long v20), (0, .ref (z + 325)), (1, .int p0), (2, .int p1)]) hx hb dX3_drawYears_38 rfl hl (by decide) rfl (fun ls hl => ?_)
        refine lv_iconst (v := 0) hx hb dX3_drawYears_39 (by decide) ?_
        refine lv_istore (lv' := [(5, .int 0), (3, .long v20), (0, .ref (z + 325)), (1, .int p0), (2, .int p1)]) hx hb dX3_drawYears_40 hl (by decide) rfl (fun ls hl => ?_)
        exact C42 _ I19 _ _ ls v20 0 (Nat.lt_succ_self _) hW hS hF hO (dkL_sub dv20 rfl) (dkN_sub (dkN_lit (x := 0) (0) rfl) rfl) (lv_sub hl [2, 3, 4, 1, 0] rfl)
      ·
        have d21 : dkN [(0, 4)] x7_3 := dkN_le1 1 k7_0 (dkN_lit (x := 5) (5) rfl) (dkc_nle c17) rfl
        refine lv_aload_n hx hb dX3_drawYears_12 rfl (lv_at hl 0 rfl) ?_
        refine dk_get (k := 325) hx hb hts iX3_drawYears_3 hown hK (dk_at325 hW) rfl 3 (by decide) (hts (.fieldLink RX3 18 "DogKings$Seer" "crowns" "[I") (List.mem_of_getElem? (i := 2) rfl)) rfl dX3_drawYears_13 ?_
        refine lv_iload_n hx hb dX3_drawYears_16 rfl (lv_at hl 3 rfl) ?_
        refine lv_iconst (v := 0) hx hb dX3_drawYears_17 (by decide) ?_
        refine dk_ist (k := 337) hx hb hK hW (fun _ => rfl) (by decide) hS (dkN_in (n := 5) d21 rfl) dX3_drawYears_18 (fun I22 H22 L22 eI22 hW hS => ?_)
        have hO := dkO_set hO eI22 (dkN_sub (dkN_lit (x := 0) (0) rfl) rfl)
        have hF := dkF_set hF eI22 (dkIn_v d21 rfl)
        obtain ⟨v23, ev23⟩ : ∃ y : Int32, y = x7_3 + 1 := ⟨_, rfl⟩
        have dv23 : dkN [(1, 5)] v23 := by rw [ev23]; exact dkN_add d21 (dkN_lit (x := 1) (1) rfl) rfl
        refine lv_iinc (v := v23) (lv' := [(3, .int v23), (0, .ref (z + 325)), (1, .int p0), (2, .int p1)]) hx hb dX3_drawYears_19 hl (k := 3) rfl (by rw [ev23]; rfl) (by decide) rfl (fun ls hl => ?_)
        refine lv_goto (tgt := 7) hx hb dX3_drawYears_22 (by decide) ?_
        exact ih7 I22 _ _ ls v23 (dk_near hn7 (by rw [ev23]; exact dk_inc d21 rfl) (dkN_lt d21 rfl)) hW hS hF hO (dkN_sub dv23 rfl) (show dkN [(0, 0)] (I22 325 2) from dkN_sub (by rw [eI22, dkU_n (by decide)]; exact f7_0) rfl) (lv_sub hl [1, 2, 3, 0] rfl)
  refine lv_aload_n hx hb dX3_drawYears_0 rfl (lv_at hl 0 rfl) ?_
  refine lv_iconst (v := 0) hx hb dX3_drawYears_1 (by decide) ?_
  refine dk_put (k := 325) hx hb hts iX3_drawYears_3 tyX3 tyX3_ok nmX3 hown hK hW (dk_at325 hW) hS rfl 2 (by decide) (hts (.fieldLink RX3 135 "DogKings$Seer" "kingless" "I") (List.mem_of_getElem? (i := 1) rfl)) rfl rfl (Nat.le_of_ble_eq_true rfl) rfl dX3_drawYears_2 (fun I24 H24 L24 eI24 hW hS => ?_)
  have eI24 : I24 = dkU I0 325 2 0 := eI24
  have hO := dkO_set hO eI24 (dkN_sub (dkN_lit (x := 0) (0) rfl) rfl)
  have hF := dkF_set hF eI24 rfl
  refine lv_iconst (v := 0) hx hb dX3_drawYears_5 (by decide) ?_
  refine lv_istore_n (lv' := [(3, .int 0), (0, .ref (z + 325)), (1, .int p0), (2, .int p1)]) hx hb dX3_drawYears_6 rfl hl (by decide) rfl (fun ls hl => ?_)
  exact C7 _ I24 _ _ ls 0 (Nat.lt_succ_self _) hW hS hF hO (dkN_sub (dkN_lit (x := 0) (0) rfl) rfl) (show dkN [(0, 0)] (I24 325 2) from dkN_sub (by rw [eI24, dkU_ss]; exact (dkN_lit (x := 0) (0) rfl)) rfl) (lv_sub hl [1, 2, 3, 0] rfl)
set_option maxHeartbeats 4000000 in
set_option maxRecDepth 100000 in
theorem c_X3_kingMostOften_0 (l : Launch) (g : dkG) (z : Nat) (I0 : dkI)  (hO : dkOk I0) : Met l yX3_kingMostOften wsX3_kingMostOften (dkR 0) (dkPc g z [.ref (z + 325)] I0) (dkQi g z (fun r I1 => dkF [] I0 I1 ∧ dkOk I1 ∧ ((dkN [(-1000000, -1000000), (0, 4)] r ∧ True)))) 0 0 (dkA z) := by
  refine Met.ofW (cc := cX3_kingMostOften) (maxL := 4) (ret := (some .int)) (by decide) rfl ?_
  intro p e s m args below meth c s₁ B hml hv
  obtain ⟨ha, hW, hK, hT⟩ := hv
  have hx := B.exec
  have hb := B.bytes
  have hr := B.returns
  have hts := atoms_spec (ws := wsX3_kingMostOften) B.pre
  have hown : s.vm.findClass RX3 = some m.cls := findClass_of_methodNamed B.named
  have hlocks := B.notSynchronized
  have hS : va_S (dkA z) s.heap s.heap [] := va_S.rf
  have hF : dkF [] I0 I0 := dkF_rf _ _
  have hl := lv_entry ([.ref (z + 325)]) (n := 4) (Nat.le_of_ble_eq_true rfl)
  have hgo : entryFrame m args 4 = entryFrame m ([.ref (z + 325)] : List Value).toArray 4 := by rw [ha]
  rw [hgo, lg_entry_eq]
  generalize (lg_sl ([.ref (z + 325)]) ++ List.replicate (4 - (lg_sl ([.ref (z + 325)])).length) Slot.unset).toArray = ls at hl ⊢
  have hl : lv_has ls 4 [(0, .ref (z + 325))] := hl
  have C7 : ∀ (n : Nat), ∀ (I : dkI) (H : Heap) (locs : List Loc) (ls : Array Slot) (x7_1 : Int32) (x7_2 : Int32) (x7_3 : Int32), (5 - x7_3.toInt).toNat < n → dkW g z I H → va_S (dkA z) s.heap H locs → dkF [] I0 I → dkOk I → dkN [(-1000000, -1000000), (0, 4)] x7_1 → dkN [(0, 5)] x7_3 → lv_has ls 4 [(0, .ref (z + 325)), (1, .int x7_1), (2, .int x7_2), (3, .int x7_3)] → W p l e (headSpec wsX3_kingMostOften (dkR 0)).room s m args below meth c H locs 0 0 (MQ below (dkQi g z (fun r I1 => dkF [] I0 I1 ∧ dkOk I1 ∧ ((dkN [(-1000000, -1000000), (0, 4)] r ∧ True)))) args s 0 0 (dkA z)) (F0 m 7 ls []) := by
    intro n
    induction n with
    | zero => intro I H locs ls x7_1 x7_2 x7_3 hn; exact absurd hn (Nat.not_lt_zero _)
    | succ n ih7 =>
      intro I7_ H locs ls x7_1 x7_2 x7_3 hn7 hW hS hF_7 hO k7_0 k7_2 hl
      have hF := hF_7
      have C37 : ∀ (I : dkI) (H : Heap) (locs : List Loc) (ls : Array Slot) (x37_1 : Int32) (x37_2 : Int32), dkW g z I H → va_S (dkA z) s.heap H locs → dkF [] I0 I → dkOk I → dkN [(-1000000, -1000000), (0, 4)] x37_1 → dkN [(0, 4)] x7_3 → dkN [(1, 5)] (I 326 4) → lv_has ls 4 [(0, .ref (z + 325)), (1, .int x37_1), (2, .int x37_2), (3, .int x7_3)] → W p l e (headSpec wsX3_kingMostOften (dkR 0)).room s m args below meth c H locs 0 0 (MQ below (dkQi g z (fun r I1 => dkF [] I0 I1 ∧ dkOk I1 ∧ ((dkN [(-1000000, -1000000), (0, 4)] r ∧ True)))) args s 0 0 (dkA z)) (F0 m 37 ls []) := by
        intro I37_ H locs ls x37_1 x37_2 hW hS hF_37 hO k37_0 r37_0 f37_0 hl
        have hF := hF_37
        obtain ⟨v1, ev1⟩ : ∃ y : Int32, y = x7_3 + 1 := ⟨_, rfl⟩
        have dv1 : dkN [(1, 5)] v1 := by rw [ev1]; exact dkN_add r37_0 (dkN_lit (x := 1) (1) rfl) rfl
        refine lv_iinc (v := v1) (lv' := [(3, .int v1), (0, .ref (z + 325)), (1, .int x37_1), (2, .int x37_2)]) hx hb dX3_kingMostOften_37 hl (k := 3) rfl (by rw [ev1]; rfl) (by decide) rfl (fun ls hl => ?_)
        refine lv_goto (tgt := 7) hx hb dX3_kingMostOften_40 (by decide) ?_
        exact ih7 I37_ _ _ ls x37_1 x37_2 v1 (dk_near hn7 (by rw [ev1]; exact dk_inc r37_0 rfl) (dkN_lt r37_0 rfl)) hW hS hF hO (dkN_sub k37_0 rfl) (dkN_sub dv1 rfl) (lv_sub hl [1, 2, 3, 0] rfl)
      refine lv_iload_n hx hb dX3_kingMostOften_7 rfl (lv_at hl 3 rfl) ?_
      refine lv_aload_n hx hb dX3_kingMostOften_8 rfl (lv_at hl 0 rfl) ?_
      refine dk_get (k := 325) hx hb hts iX3_kingMostOften_3 hown hK (dk_at325 hW) rfl 1 (by decide) (hts (.fieldLink RX3 12 "DogKings$Seer" "then" "LDogKings$Town;") (List.mem_of_getElem? (i := 2) rfl)) rfl dX3_kingMostOften_9 ?_
      refine dk_get (k := 326) hx hb hts iX3_kingMostOften_4 hown hK (dk_at326 hW) rfl 4 (by decide) (hts (.fieldLink RX3 148 "DogKings$Town" "people" "I") (List.mem_of_getElem? (i := 3) rfl)) rfl dX3_kingMostOften_12 ?_
      refine lv_topi (fun v2 ev2 => ?_)
      have dv2 : dkN [(0, 5)] v2 := by rw [ev2]; exact (hO 326 4)
      refine lv_icmp_ge (tgt := 43) hx hb dX3_kingMostOften_15 (by decide) (fun c3 => ?_) (fun c3 => ?_)
      ·
        refine lv_iload_n hx hb dX3_kingMostOften_43 rfl (lv_at hl 1 rfl) ?_
        exact W.iret (v := x7_1) hx hb hr (fun t ht hW9 => ⟨⟨x7_1, I7_, rfl, ⟨hF, hO, ⟨dkN_sub k7_0 rfl, trivial⟩⟩, dkW_eq ht hW⟩, hS.F ht⟩) hS.2.2 dX3_kingMostOften_44
      ·
        have d4 : dkN [(1, 5)] v2 := dkN_le2 1 k7_2 dv2 (dkc_nle c3) rfl
        have f5 : dkN [(1, 5)] (I7_ 326 4) := by rw [← ev2]; exact d4
        have d6 : dkN [(0, 4)] x7_3 := dkN_le1 1 k7_2 dv2 (dkc_nle c3) rfl
        refine lv_aload_n hx hb dX3_kingMostOften_18 rfl (lv_at hl 0 rfl) ?_
        refine dk_get (k := 325) hx hb hts iX3_kingMostOften_3 hown hK (dk_at325 hW) rfl 3 (by decide) (hts (.fieldLink RX3 18 "DogKings$Seer" "crowns" "[I") (List.mem_of_getElem? (i := 4) rfl)) rfl dX3_kingMostOften_19 ?_
        refine lv_iload_n hx hb dX3_kingMostOften_22 rfl (lv_at hl 3 rfl) ?_
        refine dk_ild (k := 337) hx hb hK (dk_at337 hW) (dkN_in (n := 5) d6 rfl) dX3_kingMostOften_23 ?_
        refine lv_topi (fun v7 ev7 => ?_)
        refine lv_iload_n hx hb dX3_kingMostOften_24 rfl (lv_at hl 2 rfl) ?_
        refine lv_icmp_le (tgt := 37) hx hb dX3_kingMostOften_25 (by decide) (fun c8 => ?_) (fun c8 => ?_)
        ·
          exact C37 I7_ _ _ ls x7_1 x7_2 hW hS hF hO (dkN_sub k7_0 rfl) (dkN_sub d6 rfl) (show dkN [(1, 5)] (I7_ 326 4) from dkN_sub f5 rfl) (lv_sub hl [0, 1, 2, 3] rfl)
        ·
          have d9 : dkN [(-2147483647, 2147483647)] v7 := dkN_le2 1 (dkN_top x7_2) (dkN_top v7) (dkc_nle c8) rfl
          have d10 : dkN [(-2147483648, 2147483646)] x7_2 := dkN_le1 1 (dkN_top x7_2) (dkN_top v7) (dkc_nle c8) rfl
          refine lv_aload_n hx hb dX3_kingMostOften_28 rfl (lv_at hl 0 rfl) ?_
          refine dk_get (k := 325) hx hb hts iX3_kingMostOften_3 hown hK (dk_at325 hW) rfl 3 (by decide) (hts (.fieldLink RX3 18 "DogKings$Seer" "crowns" "[I") (List.mem_of_getElem? (i := 4) rfl)) rfl dX3_kingMostOften_29 ?_
          refine lv_iload_n hx hb dX3_kingMostOften_32 rfl (lv_at hl 3 rfl) ?_
          refine dk_ild (k := 337) hx hb hK (dk_at337 hW) (dkN_in (n := 5) d6 rfl) dX3_kingMostOften_33 ?_
          refine lv_topi (fun v11 ev11 => ?_)
          refine lv_istore_n (lv' := [(2, .int v11), (0, .ref (z + 325)), (1, .int x7_1), (3, .int x7_3)]) hx hb dX3_kingMostOften_34 rfl hl (by decide) rfl (fun ls hl => ?_)
          refine lv_iload_n hx hb dX3_kingMostOften_35 rfl (lv_at hl 3 rfl) ?_
          refine lv_istore_n (lv' := [(1, .int x7_3), (2, .int v11), (0, .ref (z + 325)), (3, .int x7_3)]) hx hb dX3_kingMostOften_36 rfl hl (by decide) rfl (fun ls hl => ?_)
          exact C37 I7_ _ _ ls x7_3 v11 hW hS hF hO (dkN_sub d6 rfl) (dkN_sub d6 rfl) (show dkN [(1, 5)] (I7_ 326 4) from dkN_sub f5 rfl) (lv_sub hl [2, 0, 1, 3] rfl)
  refine lv_ldc (v := (-1000000)) hx hb hown (hts (.constant RX3 43 (-1000000)) (List.mem_of_getElem? (i := 1) rfl)) dX3_kingMostOften_0 ?_
  refine lv_istore_n (lv' := [(1, .int ((-1000000))), (0, .ref (z + 325))]) hx hb dX3_kingMostOften_2 rfl hl (by decide) rfl (fun ls hl => ?_)
  refine lv_iconst (v := 0) hx hb dX3_kingMostOften_3 (by decide) ?_
  refine lv_istore_n (lv' := [(2, .int 0), (1, .int ((-1000000))), (0, .ref (z + 325))]) hx hb dX3_kingMostOften_4 rfl hl (by decide) rfl (fun ls hl => ?_)
  refine lv_iconst (v := 0) hx hb dX3_kingMostOften_5 (by decide) ?_
  refine lv_istore_n (lv' := [(3, .int 0), (2, .int 0), (1, .int ((-1000000))), (0, .ref (z + 325))]) hx hb dX3_kingMostOften_6 rfl hl (by decide) rfl (fun ls hl => ?_)
  exact C7 _ I0 _ _ ls ((-1000000)) 0 0 (Nat.lt_succ_self _) hW hS hF hO (dkN_sub (dkN_lit (x := (-1000000)) (-1000000) rfl) rfl) (dkN_sub (dkN_lit (x := 0) (0) rfl) rfl) (lv_sub hl [3, 2, 1, 0] rfl)
set_option maxHeartbeats 4000000 in
set_option maxRecDepth 100000 in
theorem c_X5_drawn_0 (l : Launch) (g : dkG) (z : Nat) (I0 : dkI) (p0 : Int32) (p1 : Int32) (p2 : Int32)  (hO : dkOk I0) : Met l yX5_drawn wsX5_drawn (dkR 6) (dkPc g z [.ref (z + 0), .int p0, .int p1, .int p2] I0) (dkQi g z (fun r I1 => dkF [(325, 325, 2, 2), (326, 326, 0, 4), (326, 326, 11, 11), (326, 326, 15, 17), (327, 327, 0, 4), (328, 328, 0, 4), (329, 329, 0, 4), (330, 330, 0, 4), (331, 331, 0, 4), (332, 332, 0, 4), (333, 333, 0, 5), (334, 334, 0, 5), (335, 335, 0, 5), (336, 336, 0, 8), (337, 337, 0, 4)] I0 I1 ∧ dkOk I1 ∧ ((True ∧ True)))) 0 0 (dkA z) := by
  refine Met.ofW (cc := cX5_drawn) (maxL := 4) (ret := (some .int)) (by decide) rfl ?_
  intro p e s m args below meth c s₁ B hml hv
  obtain ⟨ha, hW, hK, hT⟩ := hv
  have hx := B.exec
  have hb := B.bytes
  have hr := B.returns
  have hts := atoms_spec (ws := wsX5_drawn) B.pre
  have hown : s.vm.findClass RX5 = some m.cls := findClass_of_methodNamed B.named
  have hlocks := B.notSynchronized
  have hS : va_S (dkA z) s.heap s.heap [] := va_S.rf
  have hF : dkF [(325, 325, 2, 2), (326, 326, 0, 4), (326, 326, 11, 11), (326, 326, 15, 17), (327, 327, 0, 4), (328, 328, 0, 4), (329, 329, 0, 4), (330, 330, 0, 4), (331, 331, 0, 4), (332, 332, 0, 4), (333, 333, 0, 5), (334, 334, 0, 5), (335, 335, 0, 5), (336, 336, 0, 8), (337, 337, 0, 4)] I0 I0 := dkF_rf _ _
  have hl := lv_entry ([.ref (z + 0), .int p0, .int p1, .int p2]) (n := 4) (Nat.le_of_ble_eq_true rfl)
  have hgo : entryFrame m args 4 = entryFrame m ([.ref (z + 0), .int p0, .int p1, .int p2] : List Value).toArray 4 := by rw [ha]
  rw [hgo, lg_entry_eq]
  generalize (lg_sl ([.ref (z + 0), .int p0, .int p1, .int p2]) ++ List.replicate (4 - (lg_sl ([.ref (z + 0), .int p0, .int p1, .int p2])).length) Slot.unset).toArray = ls at hl ⊢
  have hl : lv_has ls 4 [(0, .ref (z + 0)), (1, .int p0), (2, .int p1), (3, .int p2)] := hl
  refine lv_aload_n hx hb dX5_drawn_0 rfl (lv_at hl 0 rfl) ?_
  refine dk_get (k := 0) hx hb hts iX5_drawn_5 hown hK (dk_at0 hW) rfl 5 (by decide) (hts (.fieldLink RX5 31 "DogKings" "now" "LDogKings$Town;") (List.mem_of_getElem? (i := 1) rfl)) rfl dX5_drawn_1 ?_
  refine dk_Vi (As := []) (rest := []) ⟨hx, hb, hml, hown, hts⟩ (c_X4_stands_0 l g z I0 (25) (by unfold dkT; omega) hO) (cwV 0 hts gX5_drawn_X4_stands rfl rfl rfl (by decide +kernel) ⟨Nat.le_of_ble_eq_true rfl, Nat.le_of_ble_eq_true rfl⟩) (dk_at25 hW) rfl hK hT hW hS rfl hl.1 rfl (Nat.le_of_ble_eq_true rfl) dX5_drawn_4 ⟨Nat.zero_le _, Nat.zero_le _⟩ (fun v1 I1 H1 L1 hp1 hW hS => ?_)
  obtain ⟨hF1, hO, hc1⟩ := hp1
  have hF := dkF_call hF hF1 rfl
  rcases hc1 with ⟨dv1, f1_25_0, -⟩ | hc1
  ·
    refine lv_if_ne (tgt := 13) hx hb dX5_drawn_7 (by decide) (fun c2 => ?_) (fun c2 => ?_)
    ·
      exact (dkN_nil (show dkN [] v1 from dkN_ne1 (0) dv1 (dkN_lit (x := 0) (0) rfl) (dk_ne c2) rfl)).elim
    ·
      refine lv_ldc (v := (-1000002)) hx hb hown (hts (.constant RX5 129 (-1000002)) (List.mem_of_getElem? (i := 2) rfl)) dX5_drawn_10 ?_
      exact W.iret (v := (-1000002)) hx hb hr (fun t ht hW9 => ⟨⟨(-1000002), I1, rfl, ⟨hF, hO, ⟨trivial, trivial⟩⟩, dkW_eq ht hW⟩, hS.F ht⟩) hS.2.2 dX5_drawn_12
  ·
    obtain ⟨dv1, f1_25_0, -⟩ := hc1
    refine lv_if_ne (tgt := 13) hx hb dX5_drawn_7 (by decide) (fun c3 => ?_) (fun c3 => ?_)
    ·
      refine lv_iload_n hx hb dX5_drawn_13 rfl (lv_at hl 1 rfl) ?_
      refine lv_bipush (v := 9) hx hb dX5_drawn_14 (by decide) ?_
      refine dk_Si (As := [.int p0, .int 9]) (rest := []) ⟨hx, hb, hml, hown, hts⟩ (c_X5_isUpTo_3 l g z I1 p0 9 (dkN_lit (x := 9) (9) rfl) hO) (va_cwS 2 hts gX5_drawn_X5_isUpTo rfl rfl rfl (by decide +kernel) ⟨Nat.le_of_ble_eq_true rfl, Nat.le_of_ble_eq_true rfl⟩) hK hT hW hS rfl hl.1 rfl (Nat.le_of_ble_eq_true rfl) dX5_drawn_16 ⟨Nat.zero_le _, Nat.zero_le _⟩ (fun v4 I4 H4 L4 hp4 hW hS => ?_)
      obtain ⟨hF4, hO, hc4⟩ := hp4
      have hF := dkF_call hF hF4 rfl
      rcases hc4 with ⟨dv4, a4_0, -⟩ | hc4
      ·
        have d5 : dkN [(-2147483648, -1), (10, 2147483647)] p0 := dkN_eq1 (dkN_top p0) a4_0 rfl rfl
        refine lv_if_eq (tgt := 41) hx hb dX5_drawn_19 (by decide) (fun c6 => ?_) (fun c6 => ?_)
        ·
          refine lv_ldc (v := (-1000001)) hx hb hown (hts (.constant RX5 70 (-1000001)) (List.mem_of_getElem? (i := 4) rfl)) dX5_drawn_41 ?_
          exact W.iret (v := (-1000001)) hx hb hr (fun t ht hW9 => ⟨⟨(-1000001), I4, rfl, ⟨hF, hO, ⟨trivial, trivial⟩⟩, dkW_eq ht hW⟩, hS.F ht⟩) hS.2.2 dX5_drawn_43
        ·
          exact (dkN_nil (show dkN [] v4 from dkN_ne1 (0) dv4 (dkN_lit (x := 0) (0) rfl) (dk_ne c6) rfl)).elim
      ·
        obtain ⟨dv4, a4_0, -⟩ := hc4
        have d7 : dkN [(0, 9)] p0 := dkN_eq1 (dkN_top p0) a4_0 rfl rfl
        refine lv_if_eq (tgt := 41) hx hb dX5_drawn_19 (by decide) (fun c8 => ?_) (fun c8 => ?_)
        ·
          exact (dkN_nil (show dkN [] v4 from dkN_eq1 dv4 (dkN_lit (x := 0) (0) rfl) (congrArg Int32.toInt c8) rfl)).elim
        ·
          refine lv_iload_n hx hb dX5_drawn_22 rfl (lv_at hl 2 rfl) ?_
          refine lv_iconst (v := 1) hx hb dX5_drawn_23 (by decide) ?_
          refine lv_icmp_lt (tgt := 41) hx hb dX5_drawn_24 (by decide) (fun c9 => ?_) (fun c9 => ?_)
          ·
            have d10 : dkN [(-2147483648, 0)] p1 := dkN_le1 1 (dkN_top p1) (dkN_lit (x := 1) (1) rfl) (dkc_lt c9) rfl
            refine lv_ldc (v := (-1000001)) hx hb hown (hts (.constant RX5 70 (-1000001)) (List.mem_of_getElem? (i := 4) rfl)) dX5_drawn_41 ?_
            exact W.iret (v := (-1000001)) hx hb hr (fun t ht hW9 => ⟨⟨(-1000001), I4, rfl, ⟨hF, hO, ⟨trivial, trivial⟩⟩, dkW_eq ht hW⟩, hS.F ht⟩) hS.2.2 dX5_drawn_43
          ·
            have d11 : dkN [(1, 2147483647)] p1 := dkN_le2 0 (dkN_lit (x := 1) (1) rfl) (dkN_top p1) (dkc_nlt c9) rfl
            refine lv_iload_n hx hb dX5_drawn_27 rfl (lv_at hl 2 rfl) ?_
            refine lv_ldc (v := 999999) hx hb hown (hts (.constant RX5 248 (999999)) (List.mem_of_getElem? (i := 3) rfl)) dX5_drawn_28 ?_
            refine lv_icmp_gt (tgt := 41) hx hb dX5_drawn_30 (by decide) (fun c12 => ?_) (fun c12 => ?_)
            ·
              have d13 : dkN [(1000000, 2147483647)] p1 := dkN_le2 1 (dkN_lit (x := 999999) (999999) rfl) d11 (dkc_lt c12) rfl
              refine lv_ldc (v := (-1000001)) hx hb hown (hts (.constant RX5 70 (-1000001)) (List.mem_of_getElem? (i := 4) rfl)) dX5_drawn_41 ?_
              exact W.iret (v := (-1000001)) hx hb hr (fun t ht hW9 => ⟨⟨(-1000001), I4, rfl, ⟨hF, hO, ⟨trivial, trivial⟩⟩, dkW_eq ht hW⟩, hS.F ht⟩) hS.2.2 dX5_drawn_43
            ·
              have d14 : dkN [(1, 999999)] p1 := dkN_le1 0 d11 (dkN_lit (x := 999999) (999999) rfl) (dkc_nlt c12) rfl
              refine lv_iload_n hx hb dX5_drawn_33 rfl (lv_at hl 3 rfl) ?_
              refine lv_iconst (v := 1) hx hb dX5_drawn_34 (by decide) ?_
              refine dk_Si (As := [.int p2, .int 1]) (rest := []) ⟨hx, hb, hml, hown, hts⟩ (c_X5_isUpTo_5 l g z I4 p2 1 (dkN_lit (x := 1) (1) rfl) hO) (va_cwS 2 hts gX5_drawn_X5_isUpTo rfl rfl rfl (by decide +kernel) ⟨Nat.le_of_ble_eq_true rfl, Nat.le_of_ble_eq_true rfl⟩) hK hT hW hS rfl hl.1 rfl (Nat.le_of_ble_eq_true rfl) dX5_drawn_35 ⟨Nat.zero_le _, Nat.zero_le _⟩ (fun v15 I15 H15 L15 hp15 hW hS => ?_)
              obtain ⟨hF15, hO, hc15⟩ := hp15
              have hF := dkF_call hF hF15 rfl
              rcases hc15 with ⟨dv15, a15_0, -⟩ | hc15
              ·
                have d16 : dkN [(-2147483648, -1), (2, 2147483647)] p2 := dkN_eq1 (dkN_top p2) a15_0 rfl rfl
                refine lv_if_ne (tgt := 44) hx hb dX5_drawn_38 (by decide) (fun c17 => ?_) (fun c17 => ?_)
                ·
                  exact (dkN_nil (show dkN [] v15 from dkN_ne1 (0) dv15 (dkN_lit (x := 0) (0) rfl) (dk_ne c17) rfl)).elim
                ·
                  refine lv_ldc (v := (-1000001)) hx hb hown (hts (.constant RX5 70 (-1000001)) (List.mem_of_getElem? (i := 4) rfl)) dX5_drawn_41 ?_
                  exact W.iret (v := (-1000001)) hx hb hr (fun t ht hW9 => ⟨⟨(-1000001), I15, rfl, ⟨hF, hO, ⟨trivial, trivial⟩⟩, dkW_eq ht hW⟩, hS.F ht⟩) hS.2.2 dX5_drawn_43
              ·
                obtain ⟨dv15, a15_0, -⟩ := hc15
                have d18 : dkN [(0, 1)] p2 := dkN_eq1 (dkN_top p2) a15_0 rfl rfl
                refine lv_if_ne (tgt := 44) hx hb dX5_drawn_38 (by decide) (fun c19 => ?_) (fun c19 => ?_)
                ·
                  refine lv_aload_n hx hb dX5_drawn_44 rfl (lv_at hl 0 rfl) ?_
                  refine dk_get (k := 0) hx hb hts iX5_drawn_5 hown hK (dk_at0 hW) rfl 8 (by decide) (hts (.fieldLink RX5 51 "DogKings" "seer" "LDogKings$Seer;") (List.mem_of_getElem? (i := 5) rfl)) rfl dX5_drawn_45 ?_
                  refine lv_iload_n hx hb dX5_drawn_48 rfl (lv_at hl 1 rfl) ?_
                  refine lv_iload_n hx hb dX5_drawn_49 rfl (lv_at hl 2 rfl) ?_
                  refine dk_Vv (As := [.int p0, .int p1]) (rest := []) ⟨hx, hb, hml, hown, hts⟩ (c_X3_drawYears_0 l g z I15 p0 p1 d7 d14 hO) (cwV 2 hts gX5_drawn_X3_drawYears rfl rfl rfl (by decide +kernel) ⟨Nat.le_of_ble_eq_true rfl, Nat.le_of_ble_eq_true rfl⟩) (dk_at325 hW) rfl hK hT hW hS rfl hl.1 rfl (Nat.le_of_ble_eq_true rfl) dX5_drawn_50 ⟨Nat.zero_le _, Nat.zero_le _⟩ (fun I20 H20 L20 hp20 hW hS => ?_)
                  obtain ⟨hF20, hO, hc20⟩ := hp20
                  have hF := dkF_call hF hF20 rfl
                  refine lv_iload_n hx hb dX5_drawn_53 rfl (lv_at hl 3 rfl) ?_
                  refine lv_if_ne (tgt := 67) hx hb dX5_drawn_54 (by decide) (fun c21 => ?_) (fun c21 => ?_)
                  ·
                    have d22 : dkN [(1, 1)] p2 := dkN_ne1 (0) d18 (dkN_lit (x := 0) (0) rfl) (dk_ne c21) rfl
                    refine lv_aload_n hx hb dX5_drawn_67 rfl (lv_at hl 0 rfl) ?_
                    refine dk_get (k := 0) hx hb hts iX5_drawn_5 hown hK (dk_at0 hW) rfl 8 (by decide) (hts (.fieldLink RX5 51 "DogKings" "seer" "LDogKings$Seer;") (List.mem_of_getElem? (i := 5) rfl)) rfl dX5_drawn_68 ?_
                    refine dk_Vi (As := []) (rest := []) ⟨hx, hb, hml, hown, hts⟩ (c_X3_kingMostOften_0 l g z I20 hO) (cwV 0 hts gX5_drawn_X3_kingMostOften rfl rfl rfl (by decide +kernel) ⟨Nat.le_of_ble_eq_true rfl, Nat.le_of_ble_eq_true rfl⟩) (dk_at325 hW) rfl hK hT hW hS rfl hl.1 rfl (Nat.le_of_ble_eq_true rfl) dX5_drawn_71 ⟨Nat.zero_le _, Nat.zero_le _⟩ (fun v23 I23 H23 L23 hp23 hW hS => ?_)
                    obtain ⟨hF23, hO, hc23⟩ := hp23
                    have hF := dkF_call hF hF23 rfl
                    obtain ⟨dv23, -⟩ := hc23
                    exact W.iret (v := v23) hx hb hr (fun t ht hW9 => ⟨⟨v23, I23, rfl, ⟨hF, hO, ⟨trivial, trivial⟩⟩, dkW_eq ht hW⟩, hS.F ht⟩) hS.2.2 dX5_drawn_74
                  ·
                    have d24 : dkN [(0, 0)] p2 := dkN_eq1 d18 (dkN_lit (x := 0) (0) rfl) (congrArg Int32.toInt c21) rfl
                    refine lv_aload_n hx hb dX5_drawn_57 rfl (lv_at hl 0 rfl) ?_
                    refine dk_get (k := 0) hx hb hts iX5_drawn_5 hown hK (dk_at0 hW) rfl 8 (by decide) (hts (.fieldLink RX5 51 "DogKings" "seer" "LDogKings$Seer;") (List.mem_of_getElem? (i := 5) rfl)) rfl dX5_drawn_58 ?_
                    refine dk_get (k := 325) hx hb hts iX5_drawn_3 hown hK (dk_at325 hW) rfl 2 (by decide) (hts (.fieldLink RX5 253 "DogKings$Seer" "kingless" "I") (List.mem_of_getElem? (i := 6) rfl)) rfl dX5_drawn_61 ?_
                    refine lv_topi (fun v25 ev25 => ?_)
                    refine lv_goto (tgt := 74) hx hb dX5_drawn_64 (by decide) ?_
                    exact W.iret (v := v25) hx hb hr (fun t ht hW9 => ⟨⟨v25, I20, rfl, ⟨hF, hO, ⟨trivial, trivial⟩⟩, dkW_eq ht hW⟩, hS.F ht⟩) hS.2.2 dX5_drawn_74
                ·
                  exact (dkN_nil (show dkN [] v15 from dkN_eq1 dv15 (dkN_lit (x := 0) (0) rfl) (congrArg Int32.toInt c19) rfl)).elim
    ·
      exact (dkN_nil (show dkN [] v1 from dkN_eq1 dv1 (dkN_lit (x := 0) (0) rfl) (congrArg Int32.toInt c3) rfl)).elim
set_option maxHeartbeats 4000000 in
set_option maxRecDepth 100000 in
theorem c_X6_isTown_1 (l : Launch) (g : dkG) (z : Nat) (I0 : dkI) (np0 : dkN [(0, 0)] (I0 346 0))  (hO : dkOk I0) : Met l yX6_isTown wsX6_isTown (dkR 0) (dkPc g z [.ref (z + 340)] I0) (dkQi g z (fun r I1 => dkF [] I0 I1 ∧ dkOk I1 ∧ ((dkN [(0, 0)] r ∧ dkN [(0, 0)] (I1 346 0) ∧ True)))) 0 0 (dkA z) := by
  refine Met.ofW (cc := cX6_isTown) (maxL := 1) (ret := (some .boolean)) (by decide) rfl ?_
  intro p e s m args below meth c s₁ B hml hv
  obtain ⟨ha, hW, hK, hT⟩ := hv
  have hx := B.exec
  have hb := B.bytes
  have hr := B.returns
  have hts := atoms_spec (ws := wsX6_isTown) B.pre
  have hown : s.vm.findClass RX6 = some m.cls := findClass_of_methodNamed B.named
  have hlocks := B.notSynchronized
  have hS : va_S (dkA z) s.heap s.heap [] := va_S.rf
  have hF : dkF [] I0 I0 := dkF_rf _ _
  have hl := lv_entry ([.ref (z + 340)]) (n := 1) (Nat.le_of_ble_eq_true rfl)
  have hgo : entryFrame m args 1 = entryFrame m ([.ref (z + 340)] : List Value).toArray 1 := by rw [ha]
  rw [hgo, lg_entry_eq]
  generalize (lg_sl ([.ref (z + 340)]) ++ List.replicate (1 - (lg_sl ([.ref (z + 340)])).length) Slot.unset).toArray = ls at hl ⊢
  have hl : lv_has ls 1 [(0, .ref (z + 340))] := hl
  refine lv_aload_n hx hb dX6_isTown_0 rfl (lv_at hl 0 rfl) ?_
  refine dk_get (k := 340) hx hb hts iX6_isTown_6 hown hK (dk_at340 hW) rfl 13 (by decide) (hts (.fieldLink RX6 25 "DogKingsModel" "now" "[I") (List.mem_of_getElem? (i := 1) rfl)) rfl dX6_isTown_1 ?_
  refine lv_iconst (v := 0) hx hb dX6_isTown_4 (by decide) ?_
  refine dk_ild (k := 346) hx hb hK (dk_at346 hW) (dkN_in (n := 54) (dkN_lit (x := 0) (0) rfl) rfl) dX6_isTown_5 ?_
  refine lv_topi (fun v1 ev1 => ?_)
  have ev1 : v1 = I0 346 0 := ev1
  have dv1 : dkN [(0, 0)] v1 := by rw [ev1]; exact (show dkN [(0, 0)] (I0 346 0) from np0)
  refine lv_if_le (tgt := 13) hx hb dX6_isTown_6 (by decide) (fun c2 => ?_) (fun c2 => ?_)
  ·
    refine lv_iconst (v := 0) hx hb dX6_isTown_13 (by decide) ?_
    exact W.zret (v := 0) (ty := .boolean) hx hb hr rfl (fun t ht hW9 => ⟨⟨0, I0, rfl, ⟨hF, hO, ⟨dkN_sub (dkN_lit (x := 0) (0) rfl) rfl, (show dkN [(0, 0)] (I0 346 0) from dkN_sub np0 rfl), trivial⟩⟩, dkW_eq ht hW⟩, hS.F ht⟩) hS.2.2 dX6_isTown_14
  ·
    exact (dkN_nil (show dkN [] v1 from dkN_le2 1 (dkN_lit (x := 0) (0) rfl) dv1 (dkc_nle c2) rfl)).elim
set_option maxHeartbeats 4000000 in
set_option maxRecDepth 100000 in
theorem c_X6_drawn_0 (l : Launch) (g : dkG) (z : Nat) (I0 : dkI) (p0 : Int32) (p1 : Int32) (p2 : Int32) (np0 : dkN [(0, 0)] (I0 346 0))  (hO : dkOk I0) : Met l yX6_drawn wsX6_drawn (dkR 1) (dkPc g z [.ref (z + 340), .int p0, .int p1, .int p2] I0) (dkQi g z (fun r I1 => dkF [] I0 I1 ∧ dkOk I1 ∧ ((dkN [(-1000002, -1000002)] r ∧ dkN [(0, 0)] (I1 346 0) ∧ True)))) 0 0 (dkA z) := by
  refine Met.ofW (cc := cX6_drawn) (maxL := 10) (ret := (some .int)) (by decide) rfl ?_
  intro p e s m args below meth c s₁ B hml hv
  obtain ⟨ha, hW, hK, hT⟩ := hv
  have hx := B.exec
  have hb := B.bytes
  have hr := B.returns
  have hts := atoms_spec (ws := wsX6_drawn) B.pre
  have hown : s.vm.findClass RX6 = some m.cls := findClass_of_methodNamed B.named
  have hlocks := B.notSynchronized
  have hS : va_S (dkA z) s.heap s.heap [] := va_S.rf
  have hF : dkF [] I0 I0 := dkF_rf _ _
  have hl := lv_entry ([.ref (z + 340), .int p0, .int p1, .int p2]) (n := 10) (Nat.le_of_ble_eq_true rfl)
  have hgo : entryFrame m args 10 = entryFrame m ([.ref (z + 340), .int p0, .int p1, .int p2] : List Value).toArray 10 := by rw [ha]
  rw [hgo, lg_entry_eq]
  generalize (lg_sl ([.ref (z + 340), .int p0, .int p1, .int p2]) ++ List.replicate (10 - (lg_sl ([.ref (z + 340), .int p0, .int p1, .int p2])).length) Slot.unset).toArray = ls at hl ⊢
  have hl : lv_has ls 10 [(0, .ref (z + 340)), (1, .int p0), (2, .int p1), (3, .int p2)] := hl
  refine lv_aload_n hx hb dX6_drawn_0 rfl (lv_at hl 0 rfl) ?_
  refine dk_Vi (As := []) (rest := []) ⟨hx, hb, hml, hown, hts⟩ (c_X6_isTown_1 l g z I0 (show dkN [(0, 0)] (I0 346 0) from dkN_sub np0 rfl) hO) (cwV 0 hts gX6_drawn_X6_isTown rfl rfl rfl (by decide +kernel) ⟨Nat.le_of_ble_eq_true rfl, Nat.le_of_ble_eq_true rfl⟩) (dk_at340 hW) rfl hK hT hW hS rfl hl.1 rfl (Nat.le_of_ble_eq_true rfl) dX6_drawn_1 ⟨Nat.zero_le _, Nat.zero_le _⟩ (fun v1 I1 H1 L1 hp1 hW hS => ?_)
  obtain ⟨hF1, hO, hc1⟩ := hp1
  have hF := dkF_call hF hF1 rfl
  obtain ⟨dv1, f1_346_0, -⟩ := hc1
  refine lv_if_ne (tgt := 10) hx hb dX6_drawn_4 (by decide) (fun c2 => ?_) (fun c2 => ?_)
  ·
    exact (dkN_nil (show dkN [] v1 from dkN_ne1 (0) dv1 (dkN_lit (x := 0) (0) rfl) (dk_ne c2) rfl)).elim
  ·
    refine lv_ldc (v := (-1000002)) hx hb hown (hts (.constant RX6 185 (-1000002)) (List.mem_of_getElem? (i := 1) rfl)) dX6_drawn_7 ?_
    exact W.iret (v := (-1000002)) hx hb hr (fun t ht hW9 => ⟨⟨(-1000002), I1, rfl, ⟨hF, hO, ⟨dkN_sub (dkN_lit (x := (-1000002)) (-1000002) rfl) rfl, (show dkN [(0, 0)] (I1 346 0) from dkN_sub f1_346_0 rfl), trivial⟩⟩, dkW_eq ht hW⟩, hS.F ht⟩) hS.2.2 dX6_drawn_9
set_option maxHeartbeats 4000000 in
set_option maxRecDepth 100000 in
theorem c_X6_in_19 (l : Launch) (g : dkG) (z : Nat) (I0 : dkI) (p0 : Int32) (p1 : Int32) (p2 : Int32) (dp1 : dkN [(1, 1)] p1) (dp2 : dkN [(999999, 999999)] p2)  (hO : dkOk I0) : Met l yX6_in wsX6_in (dkR 0) (dkPc g z [.int p0, .int p1, .int p2] I0) (dkQi g z (fun r I1 => dkF [] I0 I1 ∧ dkOk I1 ∧ ((dkN [(0, 0)] r ∧ dkN [(-2147483648, 0), (1000000, 2147483647)] p0 ∧ True) ∨ (dkN [(1, 1)] r ∧ dkN [(1, 999999)] p0 ∧ True)))) 0 0 (dkA z) := by
  refine Met.ofW (cc := cX6_in) (maxL := 3) (ret := (some .boolean)) (by decide) rfl ?_
  intro p e s m args below meth c s₁ B hml hv
  obtain ⟨ha, hW, hK, hT⟩ := hv
  have hx := B.exec
  have hb := B.bytes
  have hr := B.returns
  have hts := atoms_spec (ws := wsX6_in) B.pre
  have hown : s.vm.findClass RX6 = some m.cls := findClass_of_methodNamed B.named
  have hlocks := B.notSynchronized
  have hS : va_S (dkA z) s.heap s.heap [] := va_S.rf
  have hF : dkF [] I0 I0 := dkF_rf _ _
  have hl := lv_entry ([.int p0, .int p1, .int p2]) (n := 3) (Nat.le_of_ble_eq_true rfl)
  have hgo : entryFrame m args 3 = entryFrame m ([.int p0, .int p1, .int p2] : List Value).toArray 3 := by rw [ha]
  rw [hgo, lg_entry_eq]
  generalize (lg_sl ([.int p0, .int p1, .int p2]) ++ List.replicate (3 - (lg_sl ([.int p0, .int p1, .int p2])).length) Slot.unset).toArray = ls at hl ⊢
  have hl : lv_has ls 3 [(0, .int p0), (1, .int p1), (2, .int p2)] := hl
  refine lv_iload_n hx hb dX6_in_0 rfl (lv_at hl 0 rfl) ?_
  refine lv_iload_n hx hb dX6_in_1 rfl (lv_at hl 1 rfl) ?_
  refine lv_icmp_lt (tgt := 14) hx hb dX6_in_2 (by decide) (fun c1 => ?_) (fun c1 => ?_)
  ·
    have d2 : dkN [(-2147483648, 0)] p0 := dkN_le1 1 (dkN_top p0) dp1 (dkc_lt c1) rfl
    refine lv_iconst (v := 0) hx hb dX6_in_14 (by decide) ?_
    exact W.zret (v := 0) (ty := .boolean) hx hb hr rfl (fun t ht hW9 => ⟨⟨0, I0, rfl, ⟨hF, hO, Or.inl ⟨dkN_sub (dkN_lit (x := 0) (0) rfl) rfl, dkN_sub d2 rfl, trivial⟩⟩, dkW_eq ht hW⟩, hS.F ht⟩) hS.2.2 dX6_in_15
  ·
    have d3 : dkN [(1, 2147483647)] p0 := dkN_le2 0 dp1 (dkN_top p0) (dkc_nlt c1) rfl
    refine lv_iload_n hx hb dX6_in_5 rfl (lv_at hl 0 rfl) ?_
    refine lv_iload_n hx hb dX6_in_6 rfl (lv_at hl 2 rfl) ?_
    refine lv_icmp_gt (tgt := 14) hx hb dX6_in_7 (by decide) (fun c4 => ?_) (fun c4 => ?_)
    ·
      have d5 : dkN [(1000000, 2147483647)] p0 := dkN_le2 1 dp2 d3 (dkc_lt c4) rfl
      refine lv_iconst (v := 0) hx hb dX6_in_14 (by decide) ?_
      exact W.zret (v := 0) (ty := .boolean) hx hb hr rfl (fun t ht hW9 => ⟨⟨0, I0, rfl, ⟨hF, hO, Or.inl ⟨dkN_sub (dkN_lit (x := 0) (0) rfl) rfl, dkN_sub d5 rfl, trivial⟩⟩, dkW_eq ht hW⟩, hS.F ht⟩) hS.2.2 dX6_in_15
    ·
      have d6 : dkN [(1, 999999)] p0 := dkN_le1 0 d3 dp2 (dkc_nlt c4) rfl
      refine lv_iconst (v := 1) hx hb dX6_in_10 (by decide) ?_
      refine lv_goto (tgt := 15) hx hb dX6_in_11 (by decide) ?_
      exact W.zret (v := 1) (ty := .boolean) hx hb hr rfl (fun t ht hW9 => ⟨⟨1, I0, rfl, ⟨hF, hO, Or.inr (⟨dkN_sub (dkN_lit (x := 1) (1) rfl) rfl, dkN_sub d6 rfl, trivial⟩)⟩, dkW_eq ht hW⟩, hS.F ht⟩) hS.2.2 dX6_in_15
