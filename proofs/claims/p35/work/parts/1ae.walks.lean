set_option maxHeartbeats 4000000 in
set_option maxRecDepth 100000 in
theorem c_X6_steps_0 (l : Launch) (g : dkG) (z : Nat) (I0 : dkI) (p0 : Int32) (p1 : Int32) (p2 : Int32)  (hO : dkOk I0) : Met l yX6_steps wsX6_steps (dkR 4) (dkPc g z [.ref (z + 346), .int p0, .int p1, .int p2] I0) (dkQv g z (fun I1 => dkF [(346, 346, 3, 3), (346, 346, 8, 34), (346, 346, 38, 38), (346, 346, 41, 41), (346, 346, 44, 44), (346, 346, 47, 47), (346, 346, 50, 50), (346, 346, 53, 53)] I0 I1 ∧ dkOk I1 ∧ I1 346 3 = I0 346 3 + 1 ∧ ((True)))) 0 0 (dkA z) := by
  refine Met.ofW (cc := cX6_steps) (maxL := 9) (ret := none) (by decide) rfl ?_
  intro p e s m args below meth c s₁ B hml hv
  obtain ⟨ha, hW, hK, hT⟩ := hv
  have hx := B.exec
  have hb := B.bytes
  have hr := B.returns
  have hts := atoms_spec (ws := wsX6_steps) B.pre
  have hown : s.vm.findClass RX6 = some m.cls := findClass_of_methodNamed B.named
  have hlocks := B.notSynchronized
  have hS : va_S (dkA z) s.heap s.heap [] := va_S.rf
  have hF : dkF [(346, 346, 3, 3), (346, 346, 8, 34), (346, 346, 38, 38), (346, 346, 41, 41), (346, 346, 44, 44), (346, 346, 47, 47), (346, 346, 50, 50), (346, 346, 53, 53)] I0 I0 := dkF_rf _ _
  have hl := lv_entry ([.ref (z + 346), .int p0, .int p1, .int p2]) (n := 9) (Nat.le_of_ble_eq_true rfl)
  have hgo : entryFrame m args 9 = entryFrame m ([.ref (z + 346), .int p0, .int p1, .int p2] : List Value).toArray 9 := by rw [ha]
  rw [hgo, lg_entry_eq]
  generalize (lg_sl ([.ref (z + 346), .int p0, .int p1, .int p2]) ++ List.replicate (9 - (lg_sl ([.ref (z + 346), .int p0, .int p1, .int p2])).length) Slot.unset).toArray = ls at hl ⊢
  have hl : lv_has ls 9 [(0, .ref (z + 346)), (1, .int p0), (2, .int p1), (3, .int p2)] := hl
  have C26 : ∀ (n : Nat), ∀ (I : dkI) (H : Heap) (locs : List Loc) (ls : Array Slot) (x26_4 : Int32), (6 - x26_4.toInt).toNat < n → dkW g z I H → va_S (dkA z) s.heap H locs → dkF [(346, 346, 3, 3), (346, 346, 8, 34), (346, 346, 38, 38), (346, 346, 41, 41), (346, 346, 44, 44), (346, 346, 47, 47), (346, 346, 50, 50), (346, 346, 53, 53)] I0 I → dkOk I → dkN [(0, 6)] x26_4 → I 346 3 = I0 346 3 → lv_has ls 9 [(0, .ref (z + 346)), (1, .int p0), (2, .int p1), (3, .int p2), (4, .int x26_4)] → W p l e (headSpec wsX6_steps (dkR 4)).room s m args below meth c H locs 0 0 (MQ below (dkQv g z (fun I1 => dkF [(346, 346, 3, 3), (346, 346, 8, 34), (346, 346, 38, 38), (346, 346, 41, 41), (346, 346, 44, 44), (346, 346, 47, 47), (346, 346, 50, 50), (346, 346, 53, 53)] I0 I1 ∧ dkOk I1 ∧ I1 346 3 = I0 346 3 + 1 ∧ ((True)))) args s 0 0 (dkA z)) (F0 m 26 ls []) := by
    intro n
    induction n with
    | zero => intro I H locs ls x26_4 hn; exact absurd hn (Nat.not_lt_zero _)
    | succ n ih26 =>
      intro I26_ H locs ls x26_4 hn26 hW hS hF_26 hO k26_0 w26_0 hl
      have hF := hF_26
      have C163 : ∀ (I : dkI) (H : Heap) (locs : List Loc) (ls : Array Slot) (x163_5 : Int32) (x163_6 : Int32) (x163_7 : Int32) (x163_8 : Int32) (x163_s0 : Int32) (x163_s1 : Int32), dkW g z I H → va_S (dkA z) s.heap H locs → dkF [(346, 346, 3, 3), (346, 346, 8, 34), (346, 346, 38, 38), (346, 346, 41, 41), (346, 346, 44, 44), (346, 346, 47, 47), (346, 346, 50, 50), (346, 346, 53, 53)] I0 I → dkOk I → dkN [(38, 38), (41, 41), (44, 44), (47, 47), (50, 50), (53, 53)] x163_5 → dkN [(0, 1)] x163_8 → dkN [(38, 38), (41, 41), (44, 44), (47, 47), (50, 50), (53, 53)] x163_s1 → dkN [(0, 5)] x26_4 → dkN [(1, 6)] (I 346 5) → I 346 3 = I0 346 3 → lv_has ls 9 [(0, .ref (z + 346)), (1, .int p0), (2, .int p1), (3, .int p2), (4, .int x26_4), (5, .int x163_5), (6, .int x163_6), (7, .int x163_7), (8, .int x163_8)] → W p l e (headSpec wsX6_steps (dkR 4)).room s m args below meth c H locs 0 0 (MQ below (dkQv g z (fun I1 => dkF [(346, 346, 3, 3), (346, 346, 8, 34), (346, 346, 38, 38), (346, 346, 41, 41), (346, 346, 44, 44), (346, 346, 47, 47), (346, 346, 50, 50), (346, 346, 53, 53)] I0 I1 ∧ dkOk I1 ∧ I1 346 3 = I0 346 3 + 1 ∧ ((True)))) args s 0 0 (dkA z)) (F0 m 163 ls [.int x163_s0, .int x163_s1, .ref (z + 346)]) := by
        intro I163_ H locs ls x163_5 x163_6 x163_7 x163_8 x163_s0 x163_s1 hW hS hF_163 hO k163_0 k163_3 k163_5 r163_0 f163_0 w163_0 hl
        have hF := hF_163
        refine dk_ist (k := 346) hx hb hK hW (fun _ => rfl) (by decide) hS (dkN_in (n := 54) k163_5 rfl) dX6_steps_163 (fun I1 H1 L1 eI1 hW hS => ?_)
        have hO := dkO_set hO eI1 (by rw [dkB_w (k := 346) (B := [(-2147483648, 2147483647)]) (by decide) k163_5 rfl]; exact dkN_top _)
        have hF := dkF_set hF eI1 (dkIn_v k163_5 rfl)
        obtain ⟨v2, ev2⟩ : ∃ y : Int32, y = x26_4 + 1 := ⟨_, rfl⟩
        have dv2 : dkN [(1, 6)] v2 := by rw [ev2]; exact dkN_add r163_0 (dkN_lit (x := 1) (1) rfl) rfl
        refine lv_iinc (v := v2) (lv' := [(4, .int v2), (0, .ref (z + 346)), (1, .int p0), (2, .int p1), (3, .int p2), (5, .int x163_5), (6, .int x163_6), (7, .int x163_7), (8, .int x163_8)]) hx hb dX6_steps_164 hl (k := 4) rfl (by rw [ev2]; rfl) (by decide) rfl (fun ls hl => ?_)
        refine lv_goto (tgt := 26) hx hb dX6_steps_167 (by decide) ?_
        exact ih26 I1 _ _ ls v2 (dk_near hn26 (by rw [ev2]; exact dk_inc r163_0 rfl) (dkN_lt r163_0 rfl)) hW hS hF hO (dkN_sub dv2 rfl) ((by rw [eI1, dkU_sn (dkN_njx k163_5 rfl)] : I1 346 3 = _).trans w163_0) (lv_sub hl [1, 2, 3, 4, 0] rfl)
      have C144 : ∀ (I : dkI) (H : Heap) (locs : List Loc) (ls : Array Slot) (x144_5 : Int32) (x144_6 : Int32) (x144_7 : Int32) (x144_s0 : Int32), dkW g z I H → va_S (dkA z) s.heap H locs → dkF [(346, 346, 3, 3), (346, 346, 8, 34), (346, 346, 38, 38), (346, 346, 41, 41), (346, 346, 44, 44), (346, 346, 47, 47), (346, 346, 50, 50), (346, 346, 53, 53)] I0 I → dkOk I → dkN [(38, 38), (41, 41), (44, 44), (47, 47), (50, 50), (53, 53)] x144_5 → dkN [(0, 1)] x144_s0 → dkN [(0, 5)] x26_4 → dkN [(1, 6)] (I 346 5) → I 346 3 = I0 346 3 → lv_has ls 9 [(0, .ref (z + 346)), (1, .int p0), (2, .int p1), (3, .int p2), (4, .int x26_4), (5, .int x144_5), (6, .int x144_6), (7, .int x144_7)] → W p l e (headSpec wsX6_steps (dkR 4)).room s m args below meth c H locs 0 0 (MQ below (dkQv g z (fun I1 => dkF [(346, 346, 3, 3), (346, 346, 8, 34), (346, 346, 38, 38), (346, 346, 41, 41), (346, 346, 44, 44), (346, 346, 47, 47), (346, 346, 50, 50), (346, 346, 53, 53)] I0 I1 ∧ dkOk I1 ∧ I1 346 3 = I0 346 3 + 1 ∧ ((True)))) args s 0 0 (dkA z)) (F0 m 144 ls [.int x144_s0]) := by
        intro I144_ H locs ls x144_5 x144_6 x144_7 x144_s0 hW hS hF_144 hO k144_0 k144_3 r144_0 f144_0 w144_0 hl
        have hF := hF_144
        refine lv_istore (lv' := [(8, .int x144_s0), (0, .ref (z + 346)), (1, .int p0), (2, .int p1), (3, .int p2), (4, .int x26_4), (5, .int x144_5), (6, .int x144_6), (7, .int x144_7)]) hx hb dX6_steps_144 hl (by decide) rfl (fun ls hl => ?_)
        refine lv_aload_n hx hb dX6_steps_146 rfl (lv_at hl 1 rfl) ?_
        refine lv_iload hx hb dX6_steps_147 (lv_at hl 6 rfl) ?_
        refine lv_iload hx hb dX6_steps_149 (lv_at hl 0 rfl) ?_
        refine lv_if_eq (tgt := 159) hx hb dX6_steps_151 (by decide) (fun c3 => ?_) (fun c3 => ?_)
        ·
          have d4 : dkN [(0, 0)] x144_s0 := dkN_eq1 k144_3 (dkN_lit (x := 0) (0) rfl) (congrArg Int32.toInt c3) rfl
          refine lv_aload_n hx hb dX6_steps_159 rfl (lv_at hl 1 rfl) ?_
          refine lv_iload hx hb dX6_steps_160 (lv_at hl 6 rfl) ?_
          refine dk_ild (k := 346) hx hb hK (dk_at346 hW) (dkN_in (n := 54) k144_0 rfl) dX6_steps_162 ?_
          refine lv_topi (fun v5 ev5 => ?_)
          exact C163 I144_ _ _ ls x144_5 x144_6 x144_7 x144_s0 v5 x144_5 hW hS hF hO (dkN_sub k144_0 rfl) (dkN_sub d4 rfl) (dkN_sub k144_0 rfl) (dkN_sub r144_0 rfl) (show dkN [(1, 6)] (I144_ 346 5) from dkN_sub f144_0 rfl) w144_0 (lv_sub hl [1, 2, 3, 4, 5, 6, 7, 8, 0] rfl)
        ·
          have d6 : dkN [(1, 1)] x144_s0 := dkN_ne1 (0) k144_3 (dkN_lit (x := 0) (0) rfl) (dk_ne c3) rfl
          refine lv_iload hx hb dX6_steps_154 (lv_at hl 8 rfl) ?_
          refine lv_goto (tgt := 163) hx hb dX6_steps_156 (by decide) ?_
          exact C163 I144_ _ _ ls x144_5 x144_6 x144_7 x144_s0 x144_7 x144_5 hW hS hF hO (dkN_sub k144_0 rfl) (dkN_sub d6 rfl) (dkN_sub k144_0 rfl) (dkN_sub r144_0 rfl) (show dkN [(1, 6)] (I144_ 346 5) from dkN_sub f144_0 rfl) w144_0 (lv_sub hl [1, 2, 3, 4, 5, 6, 7, 8, 0] rfl)
      have C143 : ∀ (I : dkI) (H : Heap) (locs : List Loc) (ls : Array Slot) (x143_5 : Int32) (x143_6 : Int32) (x143_7 : Int32), dkW g z I H → va_S (dkA z) s.heap H locs → dkF [(346, 346, 3, 3), (346, 346, 8, 34), (346, 346, 38, 38), (346, 346, 41, 41), (346, 346, 44, 44), (346, 346, 47, 47), (346, 346, 50, 50), (346, 346, 53, 53)] I0 I → dkOk I → dkN [(38, 38), (41, 41), (44, 44), (47, 47), (50, 50), (53, 53)] x143_5 → dkN [(0, 5)] x26_4 → dkN [(1, 6)] (I 346 5) → I 346 3 = I0 346 3 → lv_has ls 9 [(0, .ref (z + 346)), (1, .int p0), (2, .int p1), (3, .int p2), (4, .int x26_4), (5, .int x143_5), (6, .int x143_6), (7, .int x143_7)] → W p l e (headSpec wsX6_steps (dkR 4)).room s m args below meth c H locs 0 0 (MQ below (dkQv g z (fun I1 => dkF [(346, 346, 3, 3), (346, 346, 8, 34), (346, 346, 38, 38), (346, 346, 41, 41), (346, 346, 44, 44), (346, 346, 47, 47), (346, 346, 50, 50), (346, 346, 53, 53)] I0 I1 ∧ dkOk I1 ∧ I1 346 3 = I0 346 3 + 1 ∧ ((True)))) args s 0 0 (dkA z)) (F0 m 143 ls []) := by
        intro I143_ H locs ls x143_5 x143_6 x143_7 hW hS hF_143 hO k143_0 r143_0 f143_0 w143_0 hl
        have hF := hF_143
        refine lv_iconst (v := 0) hx hb dX6_steps_143 (by decide) ?_
        exact C144 I143_ _ _ ls x143_5 x143_6 x143_7 0 hW hS hF hO (dkN_sub k143_0 rfl) (dkN_sub (dkN_lit (x := 0) (0) rfl) rfl) (dkN_sub r143_0 rfl) (show dkN [(1, 6)] (I143_ 346 5) from dkN_sub f143_0 rfl) w143_0 (lv_sub hl [0, 1, 2, 3, 4, 5, 6, 7] rfl)
      have C139 : ∀ (I : dkI) (H : Heap) (locs : List Loc) (ls : Array Slot) (x139_5 : Int32) (x139_6 : Int32) (x139_7 : Int32), dkW g z I H → va_S (dkA z) s.heap H locs → dkF [(346, 346, 3, 3), (346, 346, 8, 34), (346, 346, 38, 38), (346, 346, 41, 41), (346, 346, 44, 44), (346, 346, 47, 47), (346, 346, 50, 50), (346, 346, 53, 53)] I0 I → dkOk I → dkN [(38, 38), (41, 41), (44, 44), (47, 47), (50, 50), (53, 53)] x139_5 → dkN [(0, 5)] x26_4 → dkN [(1, 6)] (I 346 5) → I 346 3 = I0 346 3 → lv_has ls 9 [(0, .ref (z + 346)), (1, .int p0), (2, .int p1), (3, .int p2), (4, .int x26_4), (5, .int x139_5), (6, .int x139_6), (7, .int x139_7)] → W p l e (headSpec wsX6_steps (dkR 4)).room s m args below meth c H locs 0 0 (MQ below (dkQv g z (fun I1 => dkF [(346, 346, 3, 3), (346, 346, 8, 34), (346, 346, 38, 38), (346, 346, 41, 41), (346, 346, 44, 44), (346, 346, 47, 47), (346, 346, 50, 50), (346, 346, 53, 53)] I0 I1 ∧ dkOk I1 ∧ I1 346 3 = I0 346 3 + 1 ∧ ((True)))) args s 0 0 (dkA z)) (F0 m 139 ls []) := by
        intro I139_ H locs ls x139_5 x139_6 x139_7 hW hS hF_139 hO k139_0 r139_0 f139_0 w139_0 hl
        have hF := hF_139
        refine lv_iconst (v := 1) hx hb dX6_steps_139 (by decide) ?_
        refine lv_goto (tgt := 144) hx hb dX6_steps_140 (by decide) ?_
        exact C144 I139_ _ _ ls x139_5 x139_6 x139_7 1 hW hS hF hO (dkN_sub k139_0 rfl) (dkN_sub (dkN_lit (x := 1) (1) rfl) rfl) (dkN_sub r139_0 rfl) (show dkN [(1, 6)] (I139_ 346 5) from dkN_sub f139_0 rfl) w139_0 (lv_sub hl [0, 1, 2, 3, 4, 5, 6, 7] rfl)
      have C101 : ∀ (I : dkI) (H : Heap) (locs : List Loc) (ls : Array Slot) (x101_5 : Int32) (x101_6 : Int32) (x101_s0 : Int32), dkW g z I H → va_S (dkA z) s.heap H locs → dkF [(346, 346, 3, 3), (346, 346, 8, 34), (346, 346, 38, 38), (346, 346, 41, 41), (346, 346, 44, 44), (346, 346, 47, 47), (346, 346, 50, 50), (346, 346, 53, 53)] I0 I → dkOk I → dkN [(38, 38), (41, 41), (44, 44), (47, 47), (50, 50), (53, 53)] x101_5 → dkN [(0, 5)] x26_4 → dkN [(1, 6)] (I 346 5) → I 346 3 = I0 346 3 → lv_has ls 9 [(0, .ref (z + 346)), (1, .int p0), (2, .int p1), (3, .int p2), (4, .int x26_4), (5, .int x101_5), (6, .int x101_6)] → W p l e (headSpec wsX6_steps (dkR 4)).room s m args below meth c H locs 0 0 (MQ below (dkQv g z (fun I1 => dkF [(346, 346, 3, 3), (346, 346, 8, 34), (346, 346, 38, 38), (346, 346, 41, 41), (346, 346, 44, 44), (346, 346, 47, 47), (346, 346, 50, 50), (346, 346, 53, 53)] I0 I1 ∧ dkOk I1 ∧ I1 346 3 = I0 346 3 + 1 ∧ ((True)))) args s 0 0 (dkA z)) (F0 m 101 ls [.int x101_s0]) := by
        intro I101_ H locs ls x101_5 x101_6 x101_s0 hW hS hF_101 hO k101_0 r101_0 f101_0 w101_0 hl
        have hF := hF_101
        refine lv_istore (lv' := [(7, .int x101_s0), (0, .ref (z + 346)), (1, .int p0), (2, .int p1), (3, .int p2), (4, .int x26_4), (5, .int x101_5), (6, .int x101_6)]) hx hb dX6_steps_101 hl (by decide) rfl (fun ls hl => ?_)
        refine lv_iload_n hx hb dX6_steps_103 rfl (lv_at hl 2 rfl) ?_
        refine lv_iload hx hb dX6_steps_104 (lv_at hl 5 rfl) ?_
        refine dk_Si (As := [.int p0, .int x26_4]) (rest := []) ⟨hx, hb, hml, hown, hts⟩ (c_X6_has_0 l g z I101_ p0 x26_4 hO) (va_cwS 2 hts gX6_steps_X6_has rfl rfl rfl (by decide +kernel) ⟨Nat.le_of_ble_eq_true rfl, Nat.le_of_ble_eq_true rfl⟩) hK hT hW hS rfl hl.1 rfl (Nat.le_of_ble_eq_true rfl) dX6_steps_106 ⟨Nat.zero_le _, Nat.zero_le _⟩ (fun v7 I7 H7 L7 hp7 hW hS => ?_)
        obtain ⟨hF7, hO, hc7⟩ := hp7
        have hF := dkF_call hF hF7 rfl
        obtain ⟨dv7, -⟩ := hc7
        refine lv_if_ne (tgt := 143) hx hb dX6_steps_109 (by decide) (fun c8 => ?_) (fun c8 => ?_)
        ·
          have d9 : dkN [(1, 1)] v7 := dkN_ne1 (0) dv7 (dkN_lit (x := 0) (0) rfl) (dk_ne c8) rfl
          exact C143 I7 _ _ ls x101_5 x101_6 x101_s0 hW hS hF hO (dkN_sub k101_0 rfl) (dkN_sub r101_0 rfl) (show dkN [(1, 6)] (I7 346 5) from dkN_sub (by rw [hF7 346 5 rfl]; exact f101_0) rfl) ((hF7 346 3 rfl).trans w101_0) (lv_sub hl [1, 2, 3, 4, 5, 6, 7, 0] rfl)
        ·
          have d10 : dkN [(0, 0)] v7 := dkN_eq1 dv7 (dkN_lit (x := 0) (0) rfl) (congrArg Int32.toInt c8) rfl
          refine lv_iload_n hx hb dX6_steps_112 rfl (lv_at hl 3 rfl) ?_
          refine lv_iload hx hb dX6_steps_113 (lv_at hl 5 rfl) ?_
          refine dk_Si (As := [.int p1, .int x26_4]) (rest := []) ⟨hx, hb, hml, hown, hts⟩ (c_X6_has_0 l g z I7 p1 x26_4 hO) (va_cwS 2 hts gX6_steps_X6_has rfl rfl rfl (by decide +kernel) ⟨Nat.le_of_ble_eq_true rfl, Nat.le_of_ble_eq_true rfl⟩) hK hT hW hS rfl hl.1 rfl (Nat.le_of_ble_eq_true rfl) dX6_steps_115 ⟨Nat.zero_le _, Nat.zero_le _⟩ (fun v11 I11 H11 L11 hp11 hW hS => ?_)
          obtain ⟨hF11, hO, hc11⟩ := hp11
          have hF := dkF_call hF hF11 rfl
          obtain ⟨dv11, -⟩ := hc11
          refine lv_if_ne (tgt := 143) hx hb dX6_steps_118 (by decide) (fun c12 => ?_) (fun c12 => ?_)
          ·
            have d13 : dkN [(1, 1)] v11 := dkN_ne1 (0) dv11 (dkN_lit (x := 0) (0) rfl) (dk_ne c12) rfl
            exact C143 I11 _ _ ls x101_5 x101_6 x101_s0 hW hS hF hO (dkN_sub k101_0 rfl) (dkN_sub r101_0 rfl) (show dkN [(1, 6)] (I11 346 5) from dkN_sub (by rw [hF11 346 5 rfl]; exact (by rw [hF7 346 5 rfl]; exact f101_0)) rfl) ((hF11 346 3 rfl).trans ((hF7 346 3 rfl).trans w101_0)) (lv_sub hl [1, 2, 3, 4, 5, 6, 7, 0] rfl)
          ·
            have d14 : dkN [(0, 0)] v11 := dkN_eq1 dv11 (dkN_lit (x := 0) (0) rfl) (congrArg Int32.toInt c12) rfl
            refine lv_iload hx hb dX6_steps_121 (lv_at hl 0 rfl) ?_
            refine lv_aload_n hx hb dX6_steps_123 rfl (lv_at hl 1 rfl) ?_
            refine lv_iload hx hb dX6_steps_124 (lv_at hl 6 rfl) ?_
            refine dk_ild (k := 346) hx hb hK (dk_at346 hW) (dkN_in (n := 54) k101_0 rfl) dX6_steps_126 ?_
            refine lv_topi (fun v15 ev15 => ?_)
            refine lv_icmp_eq (tgt := 139) hx hb dX6_steps_127 (by decide) (fun c16 => ?_) (fun c16 => ?_)
            ·
              exact C139 I11 _ _ ls x101_5 x101_6 x101_s0 hW hS hF hO (dkN_sub k101_0 rfl) (dkN_sub r101_0 rfl) (show dkN [(1, 6)] (I11 346 5) from dkN_sub (by rw [hF11 346 5 rfl]; exact (by rw [hF7 346 5 rfl]; exact f101_0)) rfl) ((hF11 346 3 rfl).trans ((hF7 346 3 rfl).trans w101_0)) (lv_sub hl [1, 2, 3, 4, 5, 6, 7, 0] rfl)
            ·
              refine lv_iload_n hx hb dX6_steps_130 rfl (lv_at hl 4 rfl) ?_
              refine lv_iload hx hb dX6_steps_131 (lv_at hl 0 rfl) ?_
              refine dk_Si (As := [.int p2, .int x101_s0]) (rest := []) ⟨hx, hb, hml, hown, hts⟩ (c_X6_has_0 l g z I11 p2 x101_s0 hO) (va_cwS 2 hts gX6_steps_X6_has rfl rfl rfl (by decide +kernel) ⟨Nat.le_of_ble_eq_true rfl, Nat.le_of_ble_eq_true rfl⟩) hK hT hW hS rfl hl.1 rfl (Nat.le_of_ble_eq_true rfl) dX6_steps_133 ⟨Nat.zero_le _, Nat.zero_le _⟩ (fun v17 I17 H17 L17 hp17 hW hS => ?_)
              obtain ⟨hF17, hO, hc17⟩ := hp17
              have hF := dkF_call hF hF17 rfl
              obtain ⟨dv17, -⟩ := hc17
              refine lv_if_ne (tgt := 143) hx hb dX6_steps_136 (by decide) (fun c18 => ?_) (fun c18 => ?_)
              ·
                have d19 : dkN [(1, 1)] v17 := dkN_ne1 (0) dv17 (dkN_lit (x := 0) (0) rfl) (dk_ne c18) rfl
                exact C143 I17 _ _ ls x101_5 x101_6 x101_s0 hW hS hF hO (dkN_sub k101_0 rfl) (dkN_sub r101_0 rfl) (show dkN [(1, 6)] (I17 346 5) from dkN_sub (by rw [hF17 346 5 rfl]; exact (by rw [hF11 346 5 rfl]; exact (by rw [hF7 346 5 rfl]; exact f101_0))) rfl) ((hF17 346 3 rfl).trans ((hF11 346 3 rfl).trans ((hF7 346 3 rfl).trans w101_0))) (lv_sub hl [1, 2, 3, 4, 5, 6, 7, 0] rfl)
              ·
                have d20 : dkN [(0, 0)] v17 := dkN_eq1 dv17 (dkN_lit (x := 0) (0) rfl) (congrArg Int32.toInt c18) rfl
                exact C139 I17 _ _ ls x101_5 x101_6 x101_s0 hW hS hF hO (dkN_sub k101_0 rfl) (dkN_sub r101_0 rfl) (show dkN [(1, 6)] (I17 346 5) from dkN_sub (by rw [hF17 346 5 rfl]; exact (by rw [hF11 346 5 rfl]; exact (by rw [hF7 346 5 rfl]; exact f101_0))) rfl) ((hF17 346 3 rfl).trans ((hF11 346 3 rfl).trans ((hF7 346 3 rfl).trans w101_0))) (lv_sub hl [1, 2, 3, 4, 5, 6, 7, 0] rfl)
      have C70 : ∀ (I : dkI) (H : Heap) (locs : List Loc) (ls : Array Slot) (x70_5 : Int32) (x70_6 : Int32), dkW g z I H → va_S (dkA z) s.heap H locs → dkF [(346, 346, 3, 3), (346, 346, 8, 34), (346, 346, 38, 38), (346, 346, 41, 41), (346, 346, 44, 44), (346, 346, 47, 47), (346, 346, 50, 50), (346, 346, 53, 53)] I0 I → dkOk I → dkN [(38, 38), (41, 41), (44, 44), (47, 47), (50, 50), (53, 53)] x70_5 → dkN [(0, 5)] x26_4 → dkN [(1, 6)] (I 346 5) → I 346 3 = I0 346 3 → lv_has ls 9 [(0, .ref (z + 346)), (1, .int p0), (2, .int p1), (3, .int p2), (4, .int x26_4), (5, .int x70_5), (6, .int x70_6)] → W p l e (headSpec wsX6_steps (dkR 4)).room s m args below meth c H locs 0 0 (MQ below (dkQv g z (fun I1 => dkF [(346, 346, 3, 3), (346, 346, 8, 34), (346, 346, 38, 38), (346, 346, 41, 41), (346, 346, 44, 44), (346, 346, 47, 47), (346, 346, 50, 50), (346, 346, 53, 53)] I0 I1 ∧ dkOk I1 ∧ I1 346 3 = I0 346 3 + 1 ∧ ((True)))) args s 0 0 (dkA z)) (F0 m 70 ls []) := by
        intro I70_ H locs ls x70_5 x70_6 hW hS hF_70 hO k70_0 r70_0 f70_0 w70_0 hl
        have hF := hF_70
        refine lv_aload_n hx hb dX6_steps_70 rfl (lv_at hl 0 rfl) ?_
        refine lv_iload hx hb dX6_steps_71 (lv_at hl 5 rfl) ?_
        refine dk_ild (k := 346) hx hb hK (dk_at346 hW) (dkN_in (n := 54) k70_0 rfl) dX6_steps_73 ?_
        refine lv_topi (fun v21 ev21 => ?_)
        refine lv_goto (tgt := 101) hx hb dX6_steps_74 (by decide) ?_
        exact C101 I70_ _ _ ls x70_5 x70_6 v21 hW hS hF hO (dkN_sub k70_0 rfl) (dkN_sub r70_0 rfl) (show dkN [(1, 6)] (I70_ 346 5) from dkN_sub f70_0 rfl) w70_0 (lv_sub hl [0, 1, 2, 3, 4, 5, 6] rfl)
      refine lv_iload hx hb dX6_steps_26 (lv_at hl 4 rfl) ?_
      refine lv_aload_n hx hb dX6_steps_28 rfl (lv_at hl 0 rfl) ?_
      refine lv_iconst (v := 5) hx hb dX6_steps_29 (by decide) ?_
      refine dk_ild (k := 346) hx hb hK (dk_at346 hW) (dkN_in (n := 54) (dkN_lit (x := 5) (5) rfl) rfl) dX6_steps_30 ?_
      refine lv_topi (fun v22 ev22 => ?_)
      have ev22 : v22 = I26_ 346 5 := ev22
      have dv22 : dkN [(0, 6)] v22 := by rw [ev22]; exact (show dkN [(0, 6)] (I26_ 346 5) from (hO 346 5))
      refine lv_icmp_ge (tgt := 170) hx hb dX6_steps_31 (by decide) (fun c23 => ?_) (fun c23 => ?_)
      ·
        refine lv_aload_n hx hb dX6_steps_170 rfl (lv_at hl 0 rfl) ?_
        refine lv_iconst (v := 3) hx hb dX6_steps_171 (by decide) ?_
        refine lv_dup2_11 hx hb dX6_steps_172 rfl rfl ?_
        refine dk_ild (k := 346) hx hb hK (dk_at346 hW) (dkN_in (n := 54) (dkN_lit (x := 3) (3) rfl) rfl) dX6_steps_173 ?_
        refine lv_topi (fun v24 ev24 => ?_)
        have ev24 : v24 = I26_ 346 3 := ev24
        refine lv_iconst (v := 1) hx hb dX6_steps_174 (by decide) ?_
        refine lv_iadd hx hb dX6_steps_175 ?_
        refine lv_topi (fun v25 ev25 => ?_)
        refine dk_ist (k := 346) hx hb hK hW (fun _ => rfl) (by decide) hS (dkN_in (n := 54) (dkN_lit (x := 3) (3) rfl) rfl) dX6_steps_176 (fun I26 H26 L26 eI26 hW hS => ?_)
        have eI26 : I26 = dkU I26_ 346 3 v25 := eI26
        have hO := dkO_set hO eI26 (dkN_sub (dkN_top v25) rfl)
        have hF := dkF_set hF eI26 rfl
        exact W.vret hx hb hr (fun t ht hW9 => ⟨⟨I26, rfl, ⟨hF, hO, dk_incEq (by rw [eI26, dkU_ss, ev25] : I26 346 3 = v24 + 1) (ev24.trans w26_0), trivial⟩, dkW_eq ht hW⟩, hS.F ht⟩) hS.2.2 dX6_steps_177
      ·
        have d27 : dkN [(1, 6)] v22 := dkN_le2 1 k26_0 dv22 (dkc_nle c23) rfl
        have f28 : dkN [(1, 6)] (I26_ 346 5) := by rw [← ev22]; exact d27
        have d29 : dkN [(0, 5)] x26_4 := dkN_le1 1 k26_0 dv22 (dkc_nle c23) rfl
        refine lv_bipush (v := 36) hx hb dX6_steps_34 (by decide) ?_
        refine lv_iconst (v := 3) hx hb dX6_steps_36 (by decide) ?_
        refine lv_iload hx hb dX6_steps_37 (lv_at hl 4 rfl) ?_
        refine lv_imul hx hb dX6_steps_39 ?_
        refine lv_topi (fun v30 ev30 => ?_)
        have dv30 : dkN [(0, 0), (3, 3), (6, 6), (9, 9), (12, 12), (15, 15)] v30 := by rw [ev30]; exact dkN_mulPt 3 (dkN_lit (x := 3) (3) rfl) d29 rfl
        refine lv_iadd hx hb dX6_steps_40 ?_
        refine lv_topi (fun v31 ev31 => ?_)
        have dv31 : dkN [(36, 36), (39, 39), (42, 42), (45, 45), (48, 48), (51, 51)] v31 := by rw [ev31]; exact dkN_add (dkN_lit (x := 36) (36) rfl) dv30 rfl
        refine lv_iconst (v := 2) hx hb dX6_steps_41 (by decide) ?_
        refine lv_iadd hx hb dX6_steps_42 ?_
        refine lv_topi (fun v32 ev32 => ?_)
        have dv32 : dkN [(38, 38), (41, 41), (44, 44), (47, 47), (50, 50), (53, 53)] v32 := by rw [ev32]; exact dkN_add dv31 (dkN_lit (x := 2) (2) rfl) rfl
        refine lv_istore (lv' := [(5, .int v32), (0, .ref (z + 346)), (1, .int p0), (2, .int p1), (3, .int p2), (4, .int x26_4)]) hx hb dX6_steps_43 hl (by decide) rfl (fun ls hl => ?_)
        refine lv_aload_n hx hb dX6_steps_45 rfl (lv_at hl 1 rfl) ?_
        refine lv_iload hx hb dX6_steps_46 (lv_at hl 5 rfl) ?_
        refine lv_iload_n hx hb dX6_steps_48 rfl (lv_at hl 2 rfl) ?_
        refine dk_Si (As := [.ref (z + 346), .int x26_4, .int p0]) (rest := []) ⟨hx, hb, hml, hown, hts⟩ (c_X6_aim_0 l g z I26_ x26_4 p0 d29 hO) (va_cwS 3 hts gX6_steps_X6_aim rfl rfl rfl (by decide +kernel) ⟨Nat.le_of_ble_eq_true rfl, Nat.le_of_ble_eq_true rfl⟩) hK hT hW hS rfl hl.1 rfl (Nat.le_of_ble_eq_true rfl) dX6_steps_49 ⟨Nat.zero_le _, Nat.zero_le _⟩ (fun v33 I33 H33 L33 hp33 hW hS => ?_)
        obtain ⟨hF33, hO, hc33⟩ := hp33
        have hF := dkF_call hF hF33 rfl
        obtain ⟨_, -⟩ := hc33
        refine lv_istore (lv' := [(6, .int v33), (5, .int v32), (0, .ref (z + 346)), (1, .int p0), (2, .int p1), (3, .int p2), (4, .int x26_4)]) hx hb dX6_steps_52 hl (by decide) rfl (fun ls hl => ?_)
        refine lv_iload hx hb dX6_steps_54 (lv_at hl 0 rfl) ?_
        refine lv_ldc (v := (-1000000)) hx hb hown (hts (.constant RX6 50 (-1000000)) (List.mem_of_getElem? (i := 1) rfl)) dX6_steps_56 ?_
        refine lv_icmp_eq (tgt := 70) hx hb dX6_steps_58 (by decide) (fun c34 => ?_) (fun c34 => ?_)
        ·
          have d35 : dkN [(-1000000, -1000000)] v33 := dkN_eq1 (dkN_top v33) (dkN_lit (x := (-1000000)) (-1000000) rfl) (congrArg Int32.toInt c34) rfl
          exact C70 I33 _ _ ls v32 v33 hW hS hF hO (dkN_sub dv32 rfl) (dkN_sub d29 rfl) (show dkN [(1, 6)] (I33 346 5) from dkN_sub (by rw [hF33 346 5 rfl]; exact f28) rfl) ((hF33 346 3 rfl).trans w26_0) (lv_sub hl [2, 3, 4, 5, 6, 1, 0] rfl)
        ·
          have d36 : dkN [(-2147483648, -1000001), (-999999, 2147483647)] v33 := dkN_ne1 (-1000000) (dkN_top v33) (dkN_lit (x := (-1000000)) (-1000000) rfl) (dk_ne c34) rfl
          refine lv_iload hx hb dX6_steps_61 (lv_at hl 0 rfl) ?_
          refine lv_aload_n hx hb dX6_steps_63 rfl (lv_at hl 2 rfl) ?_
          refine lv_iload hx hb dX6_steps_64 (lv_at hl 1 rfl) ?_
          refine dk_ild (k := 346) hx hb hK (dk_at346 hW) (dkN_in (n := 54) dv32 rfl) dX6_steps_66 ?_
          refine lv_topi (fun v37 ev37 => ?_)
          refine lv_icmp_ne (tgt := 77) hx hb dX6_steps_67 (by decide) (fun c38 => ?_) (fun c38 => ?_)
          ·
            refine lv_iload hx hb dX6_steps_77 (lv_at hl 0 rfl) ?_
            refine lv_aload_n hx hb dX6_steps_79 rfl (lv_at hl 2 rfl) ?_
            refine lv_iload hx hb dX6_steps_80 (lv_at hl 1 rfl) ?_
            refine dk_ild (k := 346) hx hb hK (dk_at346 hW) (dkN_in (n := 54) dv32 rfl) dX6_steps_82 ?_
            refine lv_topi (fun v39 ev39 => ?_)
            refine lv_icmp_le (tgt := 95) hx hb dX6_steps_83 (by decide) (fun c40 => ?_) (fun c40 => ?_)
            ·
              refine lv_aload_n hx hb dX6_steps_95 rfl (lv_at hl 2 rfl) ?_
              refine lv_iload hx hb dX6_steps_96 (lv_at hl 1 rfl) ?_
              refine dk_ild (k := 346) hx hb hK (dk_at346 hW) (dkN_in (n := 54) dv32 rfl) dX6_steps_98 ?_
              refine lv_topi (fun v41 ev41 => ?_)
              refine lv_iconst (v := 1) hx hb dX6_steps_99 (by decide) ?_
              refine lv_isub hx hb dX6_steps_100 ?_
              refine lv_topi (fun v42 ev42 => ?_)
              exact C101 I33 _ _ ls v32 v33 v42 hW hS hF hO (dkN_sub dv32 rfl) (dkN_sub d29 rfl) (show dkN [(1, 6)] (I33 346 5) from dkN_sub (by rw [hF33 346 5 rfl]; exact f28) rfl) ((hF33 346 3 rfl).trans w26_0) (lv_sub hl [2, 3, 4, 5, 6, 1, 0] rfl)
            ·
              have d43 : dkN [(-2147483647, -1000001), (-999999, 2147483647)] v33 := dkN_le2 1 (dkN_top v39) d36 (dkc_nle c40) rfl
              have d44 : dkN [(-2147483648, 2147483646)] v39 := dkN_le1 1 (dkN_top v39) d36 (dkc_nle c40) rfl
              refine lv_aload_n hx hb dX6_steps_86 rfl (lv_at hl 2 rfl) ?_
              refine lv_iload hx hb dX6_steps_87 (lv_at hl 1 rfl) ?_
              refine dk_ild (k := 346) hx hb hK (dk_at346 hW) (dkN_in (n := 54) dv32 rfl) dX6_steps_89 ?_
              refine lv_topi (fun v45 ev45 => ?_)
              refine lv_iconst (v := 1) hx hb dX6_steps_90 (by decide) ?_
              refine lv_iadd hx hb dX6_steps_91 ?_
              refine lv_topi (fun v46 ev46 => ?_)
              refine lv_goto (tgt := 101) hx hb dX6_steps_92 (by decide) ?_
              exact C101 I33 _ _ ls v32 v33 v46 hW hS hF hO (dkN_sub dv32 rfl) (dkN_sub d29 rfl) (show dkN [(1, 6)] (I33 346 5) from dkN_sub (by rw [hF33 346 5 rfl]; exact f28) rfl) ((hF33 346 3 rfl).trans w26_0) (lv_sub hl [2, 3, 4, 5, 6, 1, 0] rfl)
          ·
            have d47 : dkN [(-2147483648, -1000001), (-999999, 2147483647)] v37 := dkN_eq1 (dkN_top v37) d36 (congrArg Int32.toInt c38).symm rfl
            exact C70 I33 _ _ ls v32 v33 hW hS hF hO (dkN_sub dv32 rfl) (dkN_sub d29 rfl) (show dkN [(1, 6)] (I33 346 5) from dkN_sub (by rw [hF33 346 5 rfl]; exact f28) rfl) ((hF33 346 3 rfl).trans w26_0) (lv_sub hl [2, 3, 4, 5, 6, 1, 0] rfl)
  have C3 : ∀ (n : Nat), ∀ (I : dkI) (H : Heap) (locs : List Loc) (ls : Array Slot) (x3_4 : Int32), (5 - x3_4.toInt).toNat < n → dkW g z I H → va_S (dkA z) s.heap H locs → dkF [(346, 346, 3, 3), (346, 346, 8, 34), (346, 346, 38, 38), (346, 346, 41, 41), (346, 346, 44, 44), (346, 346, 47, 47), (346, 346, 50, 50), (346, 346, 53, 53)] I0 I → dkOk I → dkN [(0, 5)] x3_4 → I 346 3 = I0 346 3 → lv_has ls 9 [(0, .ref (z + 346)), (1, .int p0), (2, .int p1), (3, .int p2), (4, .int x3_4)] → W p l e (headSpec wsX6_steps (dkR 4)).room s m args below meth c H locs 0 0 (MQ below (dkQv g z (fun I1 => dkF [(346, 346, 3, 3), (346, 346, 8, 34), (346, 346, 38, 38), (346, 346, 41, 41), (346, 346, 44, 44), (346, 346, 47, 47), (346, 346, 50, 50), (346, 346, 53, 53)] I0 I1 ∧ dkOk I1 ∧ I1 346 3 = I0 346 3 + 1 ∧ ((True)))) args s 0 0 (dkA z)) (F0 m 3 ls []) := by
    intro n
    induction n with
    | zero => intro I H locs ls x3_4 hn; exact absurd hn (Nat.not_lt_zero _)
    | succ n ih3 =>
      intro I3_ H locs ls x3_4 hn3 hW hS hF_3 hO k3_0 w3_0 hl
      have hF := hF_3
      refine lv_iload hx hb dX6_steps_3 (lv_at hl 4 rfl) ?_
      refine lv_aload_n hx hb dX6_steps_5 rfl (lv_at hl 0 rfl) ?_
      refine lv_iconst (v := 4) hx hb dX6_steps_6 (by decide) ?_
      refine dk_ild (k := 346) hx hb hK (dk_at346 hW) (dkN_in (n := 54) (dkN_lit (x := 4) (4) rfl) rfl) dX6_steps_7 ?_
      refine lv_topi (fun v48 ev48 => ?_)
      have ev48 : v48 = I3_ 346 4 := ev48
      have dv48 : dkN [(0, 5)] v48 := by rw [ev48]; exact (show dkN [(0, 5)] (I3_ 346 4) from (hO 346 4))
      refine lv_icmp_ge (tgt := 23) hx hb dX6_steps_8 (by decide) (fun c49 => ?_) (fun c49 => ?_)
      ·
        refine lv_iconst (v := 0) hx hb dX6_steps_23 (by decide) ?_
        refine lv_istore (lv' := [(4, .int 0), (0, .ref (z + 346)), (1, .int p0), (2, .int p1), (3, .int p2)]) hx hb dX6_steps_24 hl (by decide) rfl (fun ls hl => ?_)
        exact C26 _ I3_ _ _ ls 0 (Nat.lt_succ_self _) hW hS hF hO (dkN_sub (dkN_lit (x := 0) (0) rfl) rfl) w3_0 (lv_sub hl [1, 2, 3, 4, 0] rfl)
      ·
        have d50 : dkN [(1, 5)] v48 := dkN_le2 1 k3_0 dv48 (dkc_nle c49) rfl
        have f51 : dkN [(1, 5)] (I3_ 346 4) := by rw [← ev48]; exact d50
        have d52 : dkN [(0, 4)] x3_4 := dkN_le1 1 k3_0 dv48 (dkc_nle c49) rfl
        refine lv_aload_n hx hb dX6_steps_11 rfl (lv_at hl 0 rfl) ?_
        refine lv_iload hx hb dX6_steps_12 (lv_at hl 4 rfl) ?_
        refine dk_Sv (As := [.ref (z + 346), .int x3_4]) (rest := []) ⟨hx, hb, hml, hown, hts⟩ (c_X6_goesOut_0 l g z I3_ x3_4 d52 hO) (va_cwS 2 hts gX6_steps_X6_goesOut rfl rfl rfl (by decide +kernel) ⟨Nat.le_of_ble_eq_true rfl, Nat.le_of_ble_eq_true rfl⟩) hK hT hW hS rfl hl.1 rfl (Nat.le_of_ble_eq_true rfl) dX6_steps_14 ⟨Nat.zero_le _, Nat.zero_le _⟩ (fun I53 H53 L53 hp53 hW hS => ?_)
        obtain ⟨hF53, hO, hc53⟩ := hp53
        have hF := dkF_call hF hF53 rfl
        obtain ⟨v54, ev54⟩ : ∃ y : Int32, y = x3_4 + 1 := ⟨_, rfl⟩
        have dv54 : dkN [(1, 5)] v54 := by rw [ev54]; exact dkN_add d52 (dkN_lit (x := 1) (1) rfl) rfl
        refine lv_iinc (v := v54) (lv' := [(4, .int v54), (0, .ref (z + 346)), (1, .int p0), (2, .int p1), (3, .int p2)]) hx hb dX6_steps_17 hl (k := 4) rfl (by rw [ev54]; rfl) (by decide) rfl (fun ls hl => ?_)
        refine lv_goto (tgt := 3) hx hb dX6_steps_20 (by decide) ?_
        exact ih3 I53 _ _ ls v54 (dk_near hn3 (by rw [ev54]; exact dk_inc d52 rfl) (dkN_lt d52 rfl)) hW hS hF hO (dkN_sub dv54 rfl) ((hF53 346 3 rfl).trans w3_0) (lv_sub hl [1, 2, 3, 4, 0] rfl)
  refine lv_iconst (v := 0) hx hb dX6_steps_0 (by decide) ?_
  refine lv_istore (lv' := [(4, .int 0), (0, .ref (z + 346)), (1, .int p0), (2, .int p1), (3, .int p2)]) hx hb dX6_steps_1 hl (by decide) rfl (fun ls hl => ?_)
  exact C3 _ I0 _ _ ls 0 (Nat.lt_succ_self _) hW hS hF hO (dkN_sub (dkN_lit (x := 0) (0) rfl) rfl) rfl (lv_sub hl [1, 2, 3, 4, 0] rfl)
set_option maxHeartbeats 4000000 in
set_option maxRecDepth 100000 in
theorem c_X6_kingOf_0 (l : Launch) (g : dkG) (z : Nat) (I0 : dkI) (p0 : Int32) (dp0 : dkN [(0, 0)] p0)  (hO : dkOk I0) : Met l yX6_kingOf wsX6_kingOf (dkR 2) (dkPc g z [.ref (z + 346), .int p0] I0) (dkQi g z (fun r I1 => dkF [] I0 I1 ∧ dkOk I1 ∧ ((dkN [(-1000000, -1000000), (0, 4)] r ∧ True)))) 0 0 (dkA z) := by
  refine Met.ofW (cc := cX6_kingOf) (maxL := 6) (ret := (some .int)) (by decide) rfl ?_
  intro p e s m args below meth c s₁ B hml hv
  obtain ⟨ha, hW, hK, hT⟩ := hv
  have hx := B.exec
  have hb := B.bytes
  have hr := B.returns
  have hts := atoms_spec (ws := wsX6_kingOf) B.pre
  have hown : s.vm.findClass RX6 = some m.cls := findClass_of_methodNamed B.named
  have hlocks := B.notSynchronized
  have hS : va_S (dkA z) s.heap s.heap [] := va_S.rf
  have hF : dkF [] I0 I0 := dkF_rf _ _
  have hl := lv_entry ([.ref (z + 346), .int p0]) (n := 6) (Nat.le_of_ble_eq_true rfl)
  have hgo : entryFrame m args 6 = entryFrame m ([.ref (z + 346), .int p0] : List Value).toArray 6 := by rw [ha]
  rw [hgo, lg_entry_eq]
  generalize (lg_sl ([.ref (z + 346), .int p0]) ++ List.replicate (6 - (lg_sl ([.ref (z + 346), .int p0])).length) Slot.unset).toArray = ls at hl ⊢
  have hl : lv_has ls 6 [(0, .ref (z + 346)), (1, .int p0)] := hl
  have C8 : ∀ (n : Nat), ∀ (I : dkI) (H : Heap) (locs : List Loc) (ls : Array Slot) (x8_2 : Int32) (x8_3 : Int32) (x8_4 : Int32), (5 - x8_4.toInt).toNat < n → dkW g z I H → va_S (dkA z) s.heap H locs → dkF [] I0 I → dkOk I → dkN [(-1000000, -1000000), (0, 4)] x8_2 → dkN [(0, 2147483647)] x8_3 → dkN [(0, 5)] x8_4 → lv_has ls 6 [(0, .ref (z + 346)), (1, .int p0), (2, .int x8_2), (3, .int x8_3), (4, .int x8_4)] → W p l e (headSpec wsX6_kingOf (dkR 2)).room s m args below meth c H locs 0 0 (MQ below (dkQi g z (fun r I1 => dkF [] I0 I1 ∧ dkOk I1 ∧ ((dkN [(-1000000, -1000000), (0, 4)] r ∧ True)))) args s 0 0 (dkA z)) (F0 m 8 ls []) := by
    intro n
    induction n with
    | zero => intro I H locs ls x8_2 x8_3 x8_4 hn; exact absurd hn (Nat.not_lt_zero _)
    | succ n ih8 =>
      intro I8_ H locs ls x8_2 x8_3 x8_4 hn8 hW hS hF_8 hO k8_0 k8_1 k8_2 hl
      have hF := hF_8
      have C62 : ∀ (I : dkI) (H : Heap) (locs : List Loc) (ls : Array Slot) (x62_2 : Int32) (x62_5 : Int32) (x62_s0 : Int32), dkW g z I H → va_S (dkA z) s.heap H locs → dkF [] I0 I → dkOk I → dkN [(-1000000, -1000000), (0, 4)] x62_2 → dkN [(0, 2147483647)] x62_s0 → dkN [(0, 2147483647)] x8_3 → dkN [(0, 4)] x8_4 → dkN [(1, 5)] (I 346 4) → lv_has ls 6 [(0, .ref (z + 346)), (1, .int p0), (2, .int x62_2), (3, .int x8_3), (4, .int x8_4), (5, .int x62_5)] → W p l e (headSpec wsX6_kingOf (dkR 2)).room s m args below meth c H locs 0 0 (MQ below (dkQi g z (fun r I1 => dkF [] I0 I1 ∧ dkOk I1 ∧ ((dkN [(-1000000, -1000000), (0, 4)] r ∧ True)))) args s 0 0 (dkA z)) (F0 m 62 ls [.int x62_s0]) := by
        intro I62_ H locs ls x62_2 x62_5 x62_s0 hW hS hF_62 hO k62_0 k62_2 r62_0 r62_1 f62_0 hl
        have hF := hF_62
        refine lv_istore_n (lv' := [(3, .int x62_s0), (0, .ref (z + 346)), (1, .int p0), (2, .int x62_2), (4, .int x8_4), (5, .int x62_5)]) hx hb dX6_kingOf_62 rfl hl (by decide) rfl (fun ls hl => ?_)
        obtain ⟨v1, ev1⟩ : ∃ y : Int32, y = x8_4 + 1 := ⟨_, rfl⟩
        have dv1 : dkN [(1, 5)] v1 := by rw [ev1]; exact dkN_add r62_1 (dkN_lit (x := 1) (1) rfl) rfl
        refine lv_iinc (v := v1) (lv' := [(4, .int v1), (3, .int x62_s0), (0, .ref (z + 346)), (1, .int p0), (2, .int x62_2), (5, .int x62_5)]) hx hb dX6_kingOf_63 hl (k := 4) rfl (by rw [ev1]; rfl) (by decide) rfl (fun ls hl => ?_)
        refine lv_goto (tgt := 8) hx hb dX6_kingOf_66 (by decide) ?_
        exact ih8 I62_ _ _ ls x62_2 x62_s0 v1 (dk_near hn8 (by rw [ev1]; exact dk_inc r62_1 rfl) (dkN_lt r62_1 rfl)) hW hS hF hO (dkN_sub k62_0 rfl) (dkN_sub k62_2 rfl) (dkN_sub dv1 rfl) (lv_sub hl [2, 3, 4, 1, 0] rfl)
      have C49 : ∀ (I : dkI) (H : Heap) (locs : List Loc) (ls : Array Slot) (x49_5 : Int32) (x49_s0 : Int32), dkW g z I H → va_S (dkA z) s.heap H locs → dkF [] I0 I → dkOk I → dkN [(-1000000, -1000000), (0, 4)] x49_s0 → dkN [(-1000000, -1000000), (0, 4)] x8_2 → dkN [(0, 2147483647)] x8_3 → dkN [(0, 4)] x8_4 → dkN [(1, 5)] (I 346 4) → lv_has ls 6 [(0, .ref (z + 346)), (1, .int p0), (2, .int x8_2), (3, .int x8_3), (4, .int x8_4), (5, .int x49_5)] → W p l e (headSpec wsX6_kingOf (dkR 2)).room s m args below meth c H locs 0 0 (MQ below (dkQi g z (fun r I1 => dkF [] I0 I1 ∧ dkOk I1 ∧ ((dkN [(-1000000, -1000000), (0, 4)] r ∧ True)))) args s 0 0 (dkA z)) (F0 m 49 ls [.int x49_s0]) := by
        intro I49_ H locs ls x49_5 x49_s0 hW hS hF_49 hO k49_1 r49_0 r49_1 r49_2 f49_0 hl
        have hF := hF_49
        refine lv_istore_n (lv' := [(2, .int x49_s0), (0, .ref (z + 346)), (1, .int p0), (3, .int x8_3), (4, .int x8_4), (5, .int x49_5)]) hx hb dX6_kingOf_49 rfl hl (by decide) rfl (fun ls hl => ?_)
        refine lv_iload hx hb dX6_kingOf_50 (lv_at hl 5 rfl) ?_
        refine lv_iload_n hx hb dX6_kingOf_52 rfl (lv_at hl 3 rfl) ?_
        refine lv_icmp_le (tgt := 61) hx hb dX6_kingOf_53 (by decide) (fun c2 => ?_) (fun c2 => ?_)
        ·
          refine lv_iload_n hx hb dX6_kingOf_61 rfl (lv_at hl 3 rfl) ?_
          exact C62 I49_ _ _ ls x49_s0 x49_5 x8_3 hW hS hF hO (dkN_sub k49_1 rfl) (dkN_sub r49_1 rfl) (dkN_sub r49_1 rfl) (dkN_sub r49_2 rfl) (show dkN [(1, 5)] (I49_ 346 4) from dkN_sub f49_0 rfl) (lv_sub hl [1, 2, 0, 3, 4, 5] rfl)
        ·
          have d3 : dkN [(1, 2147483647)] x49_5 := dkN_le2 1 r49_1 (dkN_top x49_5) (dkc_nle c2) rfl
          have d4 : dkN [(0, 2147483646)] x8_3 := dkN_le1 1 r49_1 (dkN_top x49_5) (dkc_nle c2) rfl
          refine lv_iload hx hb dX6_kingOf_56 (lv_at hl 5 rfl) ?_
          refine lv_goto (tgt := 62) hx hb dX6_kingOf_58 (by decide) ?_
          exact C62 I49_ _ _ ls x49_s0 x49_5 x49_5 hW hS hF hO (dkN_sub k49_1 rfl) (dkN_sub d3 rfl) (dkN_sub d4 rfl) (dkN_sub r49_2 rfl) (show dkN [(1, 5)] (I49_ 346 4) from dkN_sub f49_0 rfl) (lv_sub hl [1, 2, 0, 3, 4, 5] rfl)
      refine lv_iload hx hb dX6_kingOf_8 (lv_at hl 4 rfl) ?_
      refine lv_aload_n hx hb dX6_kingOf_10 rfl (lv_at hl 0 rfl) ?_
      refine lv_iconst (v := 4) hx hb dX6_kingOf_11 (by decide) ?_
      refine dk_ild (k := 346) hx hb hK (dk_at346 hW) (dkN_in (n := 54) (dkN_lit (x := 4) (4) rfl) rfl) dX6_kingOf_12 ?_
      refine lv_topi (fun v5 ev5 => ?_)
      have ev5 : v5 = I8_ 346 4 := ev5
      have dv5 : dkN [(0, 5)] v5 := by rw [ev5]; exact (show dkN [(0, 5)] (I8_ 346 4) from (hO 346 4))
      refine lv_icmp_ge (tgt := 69) hx hb dX6_kingOf_13 (by decide) (fun c6 => ?_) (fun c6 => ?_)
      ·
        refine lv_iload_n hx hb dX6_kingOf_69 rfl (lv_at hl 2 rfl) ?_
        exact W.iret (v := x8_2) hx hb hr (fun t ht hW9 => ⟨⟨x8_2, I8_, rfl, ⟨hF, hO, ⟨dkN_sub k8_0 rfl, trivial⟩⟩, dkW_eq ht hW⟩, hS.F ht⟩) hS.2.2 dX6_kingOf_70
      ·
        have d7 : dkN [(1, 5)] v5 := dkN_le2 1 k8_2 dv5 (dkc_nle c6) rfl
        have f8 : dkN [(1, 5)] (I8_ 346 4) := by rw [← ev5]; exact d7
        have d9 : dkN [(0, 4)] x8_4 := dkN_le1 1 k8_2 dv5 (dkc_nle c6) rfl
        refine lv_aload_n hx hb dX6_kingOf_16 rfl (lv_at hl 0 rfl) ?_
        refine lv_aload_n hx hb dX6_kingOf_17 rfl (lv_at hl 0 rfl) ?_
        refine lv_bipush (v := 6) hx hb dX6_kingOf_18 (by decide) ?_
        refine lv_bipush (v := 6) hx hb dX6_kingOf_20 (by decide) ?_
        refine lv_iload hx hb dX6_kingOf_22 (lv_at hl 4 rfl) ?_
        refine lv_imul hx hb dX6_kingOf_24 ?_
        refine lv_topi (fun v10 ev10 => ?_)
        have dv10 : dkN [(0, 24)] v10 := by rw [ev10]; exact dkN_mulL 6 (by decide) (dkN_lit (x := 6) (6) rfl) d9 rfl
        refine lv_iadd hx hb dX6_kingOf_25 ?_
        refine lv_topi (fun v11 ev11 => ?_)
        have dv11 : dkN [(6, 30)] v11 := by rw [ev11]; exact dkN_add (dkN_lit (x := 6) (6) rfl) dv10 rfl
        refine lv_iconst (v := 4) hx hb dX6_kingOf_26 (by decide) ?_
        refine lv_iadd hx hb dX6_kingOf_27 ?_
        refine lv_topi (fun v12 ev12 => ?_)
        have dv12 : dkN [(10, 34)] v12 := by rw [ev12]; exact dkN_add dv11 (dkN_lit (x := 4) (4) rfl) rfl
        refine dk_ild (k := 346) hx hb hK (dk_at346 hW) (dkN_in (n := 54) dv12 rfl) dX6_kingOf_28 ?_
        refine lv_topi (fun v13 ev13 => ?_)
        refine lv_ldc (v := (-1000000)) hx hb hown (hts (.constant RX6 50 (-1000000)) (List.mem_of_getElem? (i := 1) rfl)) dX6_kingOf_29 ?_
        refine lv_iload_n hx hb dX6_kingOf_31 rfl (lv_at hl 1 rfl) ?_
        refine dk_Si (As := [.ref (z + 346), .int v13, .int ((-1000000)), .int p0]) (rest := []) ⟨hx, hb, hml, hown, hts⟩ (c_X6_othersIn_0 l g z I8_ v13 ((-1000000)) p0 (dkN_sub (dkN_lit (x := (-1000000)) (-1000000) rfl) rfl) hO) (va_cwS 4 hts gX6_kingOf_X6_othersIn rfl rfl rfl (by decide +kernel) ⟨Nat.le_of_ble_eq_true rfl, Nat.le_of_ble_eq_true rfl⟩) hK hT hW hS rfl hl.1 rfl (Nat.le_of_ble_eq_true rfl) dX6_kingOf_32 ⟨Nat.zero_le _, Nat.zero_le _⟩ (fun v14 I14 H14 L14 hp14 hW hS => ?_)
        obtain ⟨hF14, hO, hc14⟩ := hp14
        have hF := dkF_call hF hF14 rfl
        obtain ⟨_, -⟩ := hc14
        refine lv_istore (lv' := [(5, .int v14), (0, .ref (z + 346)), (1, .int p0), (2, .int x8_2), (3, .int x8_3), (4, .int x8_4)]) hx hb dX6_kingOf_35 hl (by decide) rfl (fun ls hl => ?_)
        refine lv_iload hx hb dX6_kingOf_37 (lv_at hl 0 rfl) ?_
        refine lv_iload_n hx hb dX6_kingOf_39 rfl (lv_at hl 4 rfl) ?_
        refine lv_icmp_le (tgt := 48) hx hb dX6_kingOf_40 (by decide) (fun c15 => ?_) (fun c15 => ?_)
        ·
          refine lv_iload_n hx hb dX6_kingOf_48 rfl (lv_at hl 3 rfl) ?_
          exact C49 I14 _ _ ls v14 x8_2 hW hS hF hO (dkN_sub k8_0 rfl) (dkN_sub k8_0 rfl) (dkN_sub k8_1 rfl) (dkN_sub d9 rfl) (show dkN [(1, 5)] (I14 346 4) from dkN_sub (by rw [hF14 346 4 rfl]; exact f8) rfl) (lv_sub hl [1, 2, 3, 4, 5, 0] rfl)
        ·
          have d16 : dkN [(1, 2147483647)] v14 := dkN_le2 1 k8_1 (dkN_top v14) (dkc_nle c15) rfl
          have d17 : dkN [(0, 2147483646)] x8_3 := dkN_le1 1 k8_1 (dkN_top v14) (dkc_nle c15) rfl
          refine lv_iload hx hb dX6_kingOf_43 (lv_at hl 5 rfl) ?_
          refine lv_goto (tgt := 49) hx hb dX6_kingOf_45 (by decide) ?_
          exact C49 I14 _ _ ls v14 x8_4 hW hS hF hO (dkN_sub d9 rfl) (dkN_sub k8_0 rfl) (dkN_sub d17 rfl) (dkN_sub d9 rfl) (show dkN [(1, 5)] (I14 346 4) from dkN_sub (by rw [hF14 346 4 rfl]; exact f8) rfl) (lv_sub hl [1, 2, 3, 4, 5, 0] rfl)
  refine lv_ldc (v := (-1000000)) hx hb hown (hts (.constant RX6 50 (-1000000)) (List.mem_of_getElem? (i := 1) rfl)) dX6_kingOf_0 ?_
  refine lv_istore_n (lv' := [(2, .int ((-1000000))), (0, .ref (z + 346)), (1, .int p0)]) hx hb dX6_kingOf_2 rfl hl (by decide) rfl (fun ls hl => ?_)
  refine lv_iconst (v := 0) hx hb dX6_kingOf_3 (by decide) ?_
  refine lv_istore_n (lv' := [(3, .int 0), (2, .int ((-1000000))), (0, .ref (z + 346)), (1, .int p0)]) hx hb dX6_kingOf_4 rfl hl (by decide) rfl (fun ls hl => ?_)
  refine lv_iconst (v := 0) hx hb dX6_kingOf_5 (by decide) ?_
  refine lv_istore (lv' := [(4, .int 0), (3, .int 0), (2, .int ((-1000000))), (0, .ref (z + 346)), (1, .int p0)]) hx hb dX6_kingOf_6 hl (by decide) rfl (fun ls hl => ?_)
  exact C8 _ I0 _ _ ls ((-1000000)) 0 0 (Nat.lt_succ_self _) hW hS hF hO (dkN_sub (dkN_lit (x := (-1000000)) (-1000000) rfl) rfl) (dkN_sub (dkN_lit (x := 0) (0) rfl) rfl) (dkN_sub (dkN_lit (x := 0) (0) rfl) rfl) (lv_sub hl [3, 4, 2, 1, 0] rfl)
set_option maxHeartbeats 4000000 in
set_option maxRecDepth 100000 in
theorem c_X6_rings_0 (l : Launch) (g : dkG) (z : Nat) (I0 : dkI)  (hO : dkOk I0) : Met l yX6_rings wsX6_rings (dkR 3) (dkPc g z [.ref (z + 346)] I0) (dkQi g z (fun r I1 => dkF [(346, 346, 2, 3), (346, 346, 10, 35), (346, 346, 38, 38), (346, 346, 41, 41), (346, 346, 44, 44), (346, 346, 47, 47), (346, 346, 50, 50), (346, 346, 53, 53)] I0 I1 ∧ dkOk I1 ∧ ((dkN [(-1000000, -1000000), (0, 4)] r ∧ dkN [(0, 0)] (I1 346 3) ∧ True)))) 0 0 (dkA z) := by
  refine Met.ofW (cc := cX6_rings) (maxL := 3) (ret := (some .int)) (by decide) rfl ?_
  intro p e s m args below meth c s₁ B hml hv
  obtain ⟨ha, hW, hK, hT⟩ := hv
  have hx := B.exec
  have hb := B.bytes
  have hr := B.returns
  have hts := atoms_spec (ws := wsX6_rings) B.pre
  have hown : s.vm.findClass RX6 = some m.cls := findClass_of_methodNamed B.named
  have hlocks := B.notSynchronized
  have hS : va_S (dkA z) s.heap s.heap [] := va_S.rf
  have hF : dkF [(346, 346, 2, 3), (346, 346, 10, 35), (346, 346, 38, 38), (346, 346, 41, 41), (346, 346, 44, 44), (346, 346, 47, 47), (346, 346, 50, 50), (346, 346, 53, 53)] I0 I0 := dkF_rf _ _
  have hl := lv_entry ([.ref (z + 346)]) (n := 3) (Nat.le_of_ble_eq_true rfl)
  have hgo : entryFrame m args 3 = entryFrame m ([.ref (z + 346)] : List Value).toArray 3 := by rw [ha]
  rw [hgo, lg_entry_eq]
  generalize (lg_sl ([.ref (z + 346)]) ++ List.replicate (3 - (lg_sl ([.ref (z + 346)])).length) Slot.unset).toArray = ls at hl ⊢
  have hl : lv_has ls 3 [(0, .ref (z + 346))] := hl
  have C85 : ∀ (n : Nat), ∀ (I : dkI) (H : Heap) (locs : List Loc) (ls : Array Slot) (x85_1 : Int32) (x85_2 : Int32), (6 - x85_2.toInt).toNat < n → dkW g z I H → va_S (dkA z) s.heap H locs → dkF [(346, 346, 2, 3), (346, 346, 10, 35), (346, 346, 38, 38), (346, 346, 41, 41), (346, 346, 44, 44), (346, 346, 47, 47), (346, 346, 50, 50), (346, 346, 53, 53)] I0 I → dkOk I → dkN [(-1000000, -1000000), (0, 4)] x85_1 → dkN [(0, 6)] x85_2 → lv_has ls 3 [(0, .ref (z + 346)), (1, .int x85_1), (2, .int x85_2)] → W p l e (headSpec wsX6_rings (dkR 3)).room s m args below meth c H locs 0 0 (MQ below (dkQi g z (fun r I1 => dkF [(346, 346, 2, 3), (346, 346, 10, 35), (346, 346, 38, 38), (346, 346, 41, 41), (346, 346, 44, 44), (346, 346, 47, 47), (346, 346, 50, 50), (346, 346, 53, 53)] I0 I1 ∧ dkOk I1 ∧ ((dkN [(-1000000, -1000000), (0, 4)] r ∧ dkN [(0, 0)] (I1 346 3) ∧ True)))) args s 0 0 (dkA z)) (F0 m 85 ls []) := by
    intro n
    induction n with
    | zero => intro I H locs ls x85_1 x85_2 hn; exact absurd hn (Nat.not_lt_zero _)
    | succ n ih85 =>
      intro I85_ H locs ls x85_1 x85_2 hn85 hW hS hF_85 hO k85_0 k85_1 hl
      have hF := hF_85
      refine lv_iload_n hx hb dX6_rings_85 rfl (lv_at hl 2 rfl) ?_
      refine lv_aload_n hx hb dX6_rings_86 rfl (lv_at hl 0 rfl) ?_
      refine lv_iconst (v := 5) hx hb dX6_rings_87 (by decide) ?_
      refine dk_ild (k := 346) hx hb hK (dk_at346 hW) (dkN_in (n := 54) (dkN_lit (x := 5) (5) rfl) rfl) dX6_rings_88 ?_
      refine lv_topi (fun v1 ev1 => ?_)
      have ev1 : v1 = I85_ 346 5 := ev1
      have dv1 : dkN [(0, 6)] v1 := by rw [ev1]; exact (show dkN [(0, 6)] (I85_ 346 5) from (hO 346 5))
      refine lv_icmp_ge (tgt := 118) hx hb dX6_rings_89 (by decide) (fun c2 => ?_) (fun c2 => ?_)
      ·
        refine lv_aload_n hx hb dX6_rings_118 rfl (lv_at hl 0 rfl) ?_
        refine lv_iconst (v := 3) hx hb dX6_rings_119 (by decide) ?_
        refine lv_iconst (v := 0) hx hb dX6_rings_120 (by decide) ?_
        refine dk_ist (k := 346) hx hb hK hW (fun _ => rfl) (by decide) hS (dkN_in (n := 54) (dkN_lit (x := 3) (3) rfl) rfl) dX6_rings_121 (fun I3 H3 L3 eI3 hW hS => ?_)
        have eI3 : I3 = dkU I85_ 346 3 0 := eI3
        have hO := dkO_set hO eI3 (dkN_sub (dkN_lit (x := 0) (0) rfl) rfl)
        have hF := dkF_set hF eI3 rfl
        refine lv_aload_n hx hb dX6_rings_122 rfl (lv_at hl 0 rfl) ?_
        refine lv_iconst (v := 2) hx hb dX6_rings_123 (by decide) ?_
        refine lv_dup2_11 hx hb dX6_rings_124 rfl rfl ?_
        refine dk_ild (k := 346) hx hb hK (dk_at346 hW) (dkN_in (n := 54) (dkN_lit (x := 2) (2) rfl) rfl) dX6_rings_125 ?_
        refine lv_topi (fun v4 ev4 => ?_)
        have ev4 : v4 = I3 346 2 := ev4
        refine lv_iconst (v := 1) hx hb dX6_rings_126 (by decide) ?_
        refine lv_iadd hx hb dX6_rings_127 ?_
        refine lv_topi (fun v5 ev5 => ?_)
        refine dk_ist (k := 346) hx hb hK hW (fun _ => rfl) (by decide) hS (dkN_in (n := 54) (dkN_lit (x := 2) (2) rfl) rfl) dX6_rings_128 (fun I6 H6 L6 eI6 hW hS => ?_)
        have eI6 : I6 = dkU I3 346 2 v5 := eI6
        have hO := dkO_set hO eI6 (dkN_sub (dkN_top v5) rfl)
        have hF := dkF_set hF eI6 rfl
        refine lv_iload_n hx hb dX6_rings_129 rfl (lv_at hl 1 rfl) ?_
        exact W.iret (v := x85_1) hx hb hr (fun t ht hW9 => ⟨⟨x85_1, I6, rfl, ⟨hF, hO, ⟨dkN_sub k85_0 rfl, (show dkN [(0, 0)] (I6 346 3) from dkN_sub (by rw [eI6, dkU_sn (by decide)]; exact (by rw [eI3, dkU_ss]; exact (dkN_lit (x := 0) (0) rfl))) rfl), trivial⟩⟩, dkW_eq ht hW⟩, hS.F ht⟩) hS.2.2 dX6_rings_130
      ·
        have d7 : dkN [(1, 6)] v1 := dkN_le2 1 k85_1 dv1 (dkc_nle c2) rfl
        have f8 : dkN [(1, 6)] (I85_ 346 5) := by rw [← ev1]; exact d7
        have d9 : dkN [(0, 5)] x85_2 := dkN_le1 1 k85_1 dv1 (dkc_nle c2) rfl
        refine lv_aload_n hx hb dX6_rings_92 rfl (lv_at hl 0 rfl) ?_
        refine lv_bipush (v := 36) hx hb dX6_rings_93 (by decide) ?_
        refine lv_iconst (v := 3) hx hb dX6_rings_95 (by decide) ?_
        refine lv_iload_n hx hb dX6_rings_96 rfl (lv_at hl 2 rfl) ?_
        refine lv_imul hx hb dX6_rings_97 ?_
        refine lv_topi (fun v10 ev10 => ?_)
        have dv10 : dkN [(0, 0), (3, 3), (6, 6), (9, 9), (12, 12), (15, 15)] v10 := by rw [ev10]; exact dkN_mulPt 3 (dkN_lit (x := 3) (3) rfl) d9 rfl
        refine lv_iadd hx hb dX6_rings_98 ?_
        refine lv_topi (fun v11 ev11 => ?_)
        have dv11 : dkN [(36, 36), (39, 39), (42, 42), (45, 45), (48, 48), (51, 51)] v11 := by rw [ev11]; exact dkN_add (dkN_lit (x := 36) (36) rfl) dv10 rfl
        refine lv_iconst (v := 2) hx hb dX6_rings_99 (by decide) ?_
        refine lv_iadd hx hb dX6_rings_100 ?_
        refine lv_topi (fun v12 ev12 => ?_)
        have dv12 : dkN [(38, 38), (41, 41), (44, 44), (47, 47), (50, 50), (53, 53)] v12 := by rw [ev12]; exact dkN_add dv11 (dkN_lit (x := 2) (2) rfl) rfl
        refine lv_aload_n hx hb dX6_rings_101 rfl (lv_at hl 0 rfl) ?_
        refine lv_bipush (v := 36) hx hb dX6_rings_102 (by decide) ?_
        refine lv_iconst (v := 3) hx hb dX6_rings_104 (by decide) ?_
        refine lv_iload_n hx hb dX6_rings_105 rfl (lv_at hl 2 rfl) ?_
        refine lv_imul hx hb dX6_rings_106 ?_
        refine lv_topi (fun v13 ev13 => ?_)
        have dv13 : dkN [(0, 0), (3, 3), (6, 6), (9, 9), (12, 12), (15, 15)] v13 := by rw [ev13]; exact dkN_mulPt 3 (dkN_lit (x := 3) (3) rfl) d9 rfl
        refine lv_iadd hx hb dX6_rings_107 ?_
        refine lv_topi (fun v14 ev14 => ?_)
        have dv14 : dkN [(36, 36), (39, 39), (42, 42), (45, 45), (48, 48), (51, 51)] v14 := by rw [ev14]; exact dkN_add (dkN_lit (x := 36) (36) rfl) dv13 rfl
        refine lv_iconst (v := 1) hx hb dX6_rings_108 (by decide) ?_
        refine lv_iadd hx hb dX6_rings_109 ?_
        refine lv_topi (fun v15 ev15 => ?_)
        have dv15 : dkN [(37, 37), (40, 40), (43, 43), (46, 46), (49, 49), (52, 52)] v15 := by rw [ev15]; exact dkN_add dv14 (dkN_lit (x := 1) (1) rfl) rfl
        refine dk_ild (k := 346) hx hb hK (dk_at346 hW) (dkN_in (n := 54) dv15 rfl) dX6_rings_110 ?_
        refine lv_topi (fun v16 ev16 => ?_)
        refine dk_ist (k := 346) hx hb hK hW (fun _ => rfl) (by decide) hS (dkN_in (n := 54) dv12 rfl) dX6_rings_111 (fun I17 H17 L17 eI17 hW hS => ?_)
        have hO := dkO_set hO eI17 (by rw [dkB_w (k := 346) (B := [(-2147483648, 2147483647)]) (by decide) dv12 rfl]; exact dkN_top _)
        have hF := dkF_set hF eI17 (dkIn_v dv12 rfl)
        obtain ⟨v18, ev18⟩ : ∃ y : Int32, y = x85_2 + 1 := ⟨_, rfl⟩
        have dv18 : dkN [(1, 6)] v18 := by rw [ev18]; exact dkN_add d9 (dkN_lit (x := 1) (1) rfl) rfl
        refine lv_iinc (v := v18) (lv' := [(2, .int v18), (0, .ref (z + 346)), (1, .int x85_1)]) hx hb dX6_rings_112 hl (k := 2) rfl (by rw [ev18]; rfl) (by decide) rfl (fun ls hl => ?_)
        refine lv_goto (tgt := 85) hx hb dX6_rings_115 (by decide) ?_
        exact ih85 I17 _ _ ls x85_1 v18 (dk_near hn85 (by rw [ev18]; exact dk_inc d9 rfl) (dkN_lt d9 rfl)) hW hS hF hO (dkN_sub k85_0 rfl) (dkN_sub dv18 rfl) (lv_sub hl [1, 2, 0] rfl)
  have C50 : ∀ (n : Nat), ∀ (I : dkI) (H : Heap) (locs : List Loc) (ls : Array Slot) (x50_1 : Int32) (x50_2 : Int32), (5 - x50_2.toInt).toNat < n → dkW g z I H → va_S (dkA z) s.heap H locs → dkF [(346, 346, 2, 3), (346, 346, 10, 35), (346, 346, 38, 38), (346, 346, 41, 41), (346, 346, 44, 44), (346, 346, 47, 47), (346, 346, 50, 50), (346, 346, 53, 53)] I0 I → dkOk I → dkN [(-1000000, -1000000), (0, 4)] x50_1 → dkN [(0, 5)] x50_2 → lv_has ls 3 [(0, .ref (z + 346)), (1, .int x50_1), (2, .int x50_2)] → W p l e (headSpec wsX6_rings (dkR 3)).room s m args below meth c H locs 0 0 (MQ below (dkQi g z (fun r I1 => dkF [(346, 346, 2, 3), (346, 346, 10, 35), (346, 346, 38, 38), (346, 346, 41, 41), (346, 346, 44, 44), (346, 346, 47, 47), (346, 346, 50, 50), (346, 346, 53, 53)] I0 I1 ∧ dkOk I1 ∧ ((dkN [(-1000000, -1000000), (0, 4)] r ∧ dkN [(0, 0)] (I1 346 3) ∧ True)))) args s 0 0 (dkA z)) (F0 m 50 ls []) := by
    intro n
    induction n with
    | zero => intro I H locs ls x50_1 x50_2 hn; exact absurd hn (Nat.not_lt_zero _)
    | succ n ih50 =>
      intro I50_ H locs ls x50_1 x50_2 hn50 hW hS hF_50 hO k50_0 k50_1 hl
      have hF := hF_50
      refine lv_iload_n hx hb dX6_rings_50 rfl (lv_at hl 2 rfl) ?_
      refine lv_aload_n hx hb dX6_rings_51 rfl (lv_at hl 0 rfl) ?_
      refine lv_iconst (v := 4) hx hb dX6_rings_52 (by decide) ?_
      refine dk_ild (k := 346) hx hb hK (dk_at346 hW) (dkN_in (n := 54) (dkN_lit (x := 4) (4) rfl) rfl) dX6_rings_53 ?_
      refine lv_topi (fun v19 ev19 => ?_)
      have ev19 : v19 = I50_ 346 4 := ev19
      have dv19 : dkN [(0, 5)] v19 := by rw [ev19]; exact (show dkN [(0, 5)] (I50_ 346 4) from (hO 346 4))
      refine lv_icmp_ge (tgt := 83) hx hb dX6_rings_54 (by decide) (fun c20 => ?_) (fun c20 => ?_)
      ·
        refine lv_iconst (v := 0) hx hb dX6_rings_83 (by decide) ?_
        refine lv_istore_n (lv' := [(2, .int 0), (0, .ref (z + 346)), (1, .int x50_1)]) hx hb dX6_rings_84 rfl hl (by decide) rfl (fun ls hl => ?_)
        exact C85 _ I50_ _ _ ls x50_1 0 (Nat.lt_succ_self _) hW hS hF hO (dkN_sub k50_0 rfl) (dkN_sub (dkN_lit (x := 0) (0) rfl) rfl) (lv_sub hl [1, 2, 0] rfl)
      ·
        have d21 : dkN [(1, 5)] v19 := dkN_le2 1 k50_1 dv19 (dkc_nle c20) rfl
        have f22 : dkN [(1, 5)] (I50_ 346 4) := by rw [← ev19]; exact d21
        have d23 : dkN [(0, 4)] x50_2 := dkN_le1 1 k50_1 dv19 (dkc_nle c20) rfl
        refine lv_aload_n hx hb dX6_rings_57 rfl (lv_at hl 0 rfl) ?_
        refine lv_bipush (v := 6) hx hb dX6_rings_58 (by decide) ?_
        refine lv_bipush (v := 6) hx hb dX6_rings_60 (by decide) ?_
        refine lv_iload_n hx hb dX6_rings_62 rfl (lv_at hl 2 rfl) ?_
        refine lv_imul hx hb dX6_rings_63 ?_
        refine lv_topi (fun v24 ev24 => ?_)
        have dv24 : dkN [(0, 24)] v24 := by rw [ev24]; exact dkN_mulL 6 (by decide) (dkN_lit (x := 6) (6) rfl) d23 rfl
        refine lv_iadd hx hb dX6_rings_64 ?_
        refine lv_topi (fun v25 ev25 => ?_)
        have dv25 : dkN [(6, 30)] v25 := by rw [ev25]; exact dkN_add (dkN_lit (x := 6) (6) rfl) dv24 rfl
        refine lv_iconst (v := 4) hx hb dX6_rings_65 (by decide) ?_
        refine lv_iadd hx hb dX6_rings_66 ?_
        refine lv_topi (fun v26 ev26 => ?_)
        have dv26 : dkN [(10, 34)] v26 := by rw [ev26]; exact dkN_add dv25 (dkN_lit (x := 4) (4) rfl) rfl
        refine lv_aload_n hx hb dX6_rings_67 rfl (lv_at hl 0 rfl) ?_
        refine lv_bipush (v := 6) hx hb dX6_rings_68 (by decide) ?_
        refine lv_bipush (v := 6) hx hb dX6_rings_70 (by decide) ?_
        refine lv_iload_n hx hb dX6_rings_72 rfl (lv_at hl 2 rfl) ?_
        refine lv_imul hx hb dX6_rings_73 ?_
        refine lv_topi (fun v27 ev27 => ?_)
        have dv27 : dkN [(0, 24)] v27 := by rw [ev27]; exact dkN_mulL 6 (by decide) (dkN_lit (x := 6) (6) rfl) d23 rfl
        refine lv_iadd hx hb dX6_rings_74 ?_
        refine lv_topi (fun v28 ev28 => ?_)
        have dv28 : dkN [(6, 30)] v28 := by rw [ev28]; exact dkN_add (dkN_lit (x := 6) (6) rfl) dv27 rfl
        refine dk_ild (k := 346) hx hb hK (dk_at346 hW) (dkN_in (n := 54) dv28 rfl) dX6_rings_75 ?_
        refine lv_topi (fun v29 ev29 => ?_)
        refine dk_ist (k := 346) hx hb hK hW (fun _ => rfl) (by decide) hS (dkN_in (n := 54) dv26 rfl) dX6_rings_76 (fun I30 H30 L30 eI30 hW hS => ?_)
        have hO := dkO_set hO eI30 (by rw [dkB_w (k := 346) (B := [(-2147483648, 2147483647)]) (by decide) dv26 rfl]; exact dkN_top _)
        have hF := dkF_set hF eI30 (dkIn_v dv26 rfl)
        obtain ⟨v31, ev31⟩ : ∃ y : Int32, y = x50_2 + 1 := ⟨_, rfl⟩
        have dv31 : dkN [(1, 5)] v31 := by rw [ev31]; exact dkN_add d23 (dkN_lit (x := 1) (1) rfl) rfl
        refine lv_iinc (v := v31) (lv' := [(2, .int v31), (0, .ref (z + 346)), (1, .int x50_1)]) hx hb dX6_rings_77 hl (k := 2) rfl (by rw [ev31]; rfl) (by decide) rfl (fun ls hl => ?_)
        refine lv_goto (tgt := 50) hx hb dX6_rings_80 (by decide) ?_
        exact ih50 I30 _ _ ls x50_1 v31 (dk_near hn50 (by rw [ev31]; exact dk_inc d23 rfl) (dkN_lt d23 rfl)) hW hS hF hO (dkN_sub k50_0 rfl) (dkN_sub dv31 rfl) (lv_sub hl [1, 2, 0] rfl)
  have C48 : ∀ (I : dkI) (H : Heap) (locs : List Loc) (ls : Array Slot) (x48_1 : Int32), dkW g z I H → va_S (dkA z) s.heap H locs → dkF [(346, 346, 2, 3), (346, 346, 10, 35), (346, 346, 38, 38), (346, 346, 41, 41), (346, 346, 44, 44), (346, 346, 47, 47), (346, 346, 50, 50), (346, 346, 53, 53)] I0 I → dkOk I → dkN [(-1000000, -1000000), (0, 4)] x48_1 → lv_has ls 3 [(0, .ref (z + 346)), (1, .int x48_1)] → W p l e (headSpec wsX6_rings (dkR 3)).room s m args below meth c H locs 0 0 (MQ below (dkQi g z (fun r I1 => dkF [(346, 346, 2, 3), (346, 346, 10, 35), (346, 346, 38, 38), (346, 346, 41, 41), (346, 346, 44, 44), (346, 346, 47, 47), (346, 346, 50, 50), (346, 346, 53, 53)] I0 I1 ∧ dkOk I1 ∧ ((dkN [(-1000000, -1000000), (0, 4)] r ∧ dkN [(0, 0)] (I1 346 3) ∧ True)))) args s 0 0 (dkA z)) (F0 m 48 ls []) := by
    intro I48_ H locs ls x48_1 hW hS hF_48 hO k48_0 hl
    have hF := hF_48
    refine lv_iconst (v := 0) hx hb dX6_rings_48 (by decide) ?_
    refine lv_istore_n (lv' := [(2, .int 0), (0, .ref (z + 346)), (1, .int x48_1)]) hx hb dX6_rings_49 rfl hl (by decide) rfl (fun ls hl => ?_)
    exact C50 _ I48_ _ _ ls x48_1 0 (Nat.lt_succ_self _) hW hS hF hO (dkN_sub k48_0 rfl) (dkN_sub (dkN_lit (x := 0) (0) rfl) rfl) (lv_sub hl [1, 2, 0] rfl)
  have C46 : ∀ (I : dkI) (H : Heap) (locs : List Loc) (ls : Array Slot) (x46_1 : Int32) (x46_s0 : Int32) (x46_s1 : Int32) (x46_s2 : Int32), dkW g z I H → va_S (dkA z) s.heap H locs → dkF [(346, 346, 2, 3), (346, 346, 10, 35), (346, 346, 38, 38), (346, 346, 41, 41), (346, 346, 44, 44), (346, 346, 47, 47), (346, 346, 50, 50), (346, 346, 53, 53)] I0 I → dkOk I → dkN [(0, 4)] x46_1 → dkN [(0, 1)] x46_s0 → dkN [(11, 35)] x46_s2 → lv_has ls 3 [(0, .ref (z + 346)), (1, .int x46_1)] → W p l e (headSpec wsX6_rings (dkR 3)).room s m args below meth c H locs 0 0 (MQ below (dkQi g z (fun r I1 => dkF [(346, 346, 2, 3), (346, 346, 10, 35), (346, 346, 38, 38), (346, 346, 41, 41), (346, 346, 44, 44), (346, 346, 47, 47), (346, 346, 50, 50), (346, 346, 53, 53)] I0 I1 ∧ dkOk I1 ∧ ((dkN [(-1000000, -1000000), (0, 4)] r ∧ dkN [(0, 0)] (I1 346 3) ∧ True)))) args s 0 0 (dkA z)) (F0 m 46 ls [.int x46_s0, .int x46_s1, .int x46_s2, .ref (z + 346)]) := by
    intro I46_ H locs ls x46_1 x46_s0 x46_s1 x46_s2 hW hS hF_46 hO k46_0 k46_1 k46_3 hl
    have hF := hF_46
    refine lv_iadd hx hb dX6_rings_46 ?_
    refine lv_topi (fun v32 ev32 => ?_)
    refine dk_ist (k := 346) hx hb hK hW (fun _ => rfl) (by decide) hS (dkN_in (n := 54) k46_3 rfl) dX6_rings_47 (fun I33 H33 L33 eI33 hW hS => ?_)
    have hO := dkO_set hO eI33 (by rw [dkB_w (k := 346) (B := [(-2147483648, 2147483647)]) (by decide) k46_3 rfl]; exact dkN_top _)
    have hF := dkF_set hF eI33 (dkIn_v k46_3 rfl)
    exact C48 I33 _ _ ls x46_1 hW hS hF hO (dkN_sub k46_0 rfl) (lv_sub hl [0, 1] rfl)
  refine lv_aload_n hx hb dX6_rings_0 rfl (lv_at hl 0 rfl) ?_
  refine lv_iconst (v := 0) hx hb dX6_rings_1 (by decide) ?_
  refine dk_Si (As := [.ref (z + 346), .int 0]) (rest := []) ⟨hx, hb, hml, hown, hts⟩ (c_X6_kingOf_0 l g z I0 0 (dkN_lit (x := 0) (0) rfl) hO) (va_cwS 2 hts gX6_rings_X6_kingOf rfl rfl rfl (by decide +kernel) ⟨Nat.le_of_ble_eq_true rfl, Nat.le_of_ble_eq_true rfl⟩) hK hT hW hS rfl hl.1 rfl (Nat.le_of_ble_eq_true rfl) dX6_rings_2 ⟨Nat.zero_le _, Nat.zero_le _⟩ (fun v34 I34 H34 L34 hp34 hW hS => ?_)
  obtain ⟨hF34, hO, hc34⟩ := hp34
  have hF := dkF_call hF hF34 rfl
  obtain ⟨dv34, -⟩ := hc34
  refine lv_istore_n (lv' := [(1, .int v34), (0, .ref (z + 346))]) hx hb dX6_rings_5 rfl hl (by decide) rfl (fun ls hl => ?_)
  refine lv_iload_n hx hb dX6_rings_6 rfl (lv_at hl 0 rfl) ?_
  refine lv_ldc (v := (-1000000)) hx hb hown (hts (.constant RX6 50 (-1000000)) (List.mem_of_getElem? (i := 1) rfl)) dX6_rings_7 ?_
  refine lv_icmp_eq (tgt := 48) hx hb dX6_rings_9 (by decide) (fun c35 => ?_) (fun c35 => ?_)
  ·
    have d36 : dkN [(-1000000, -1000000)] v34 := dkN_eq1 dv34 (dkN_lit (x := (-1000000)) (-1000000) rfl) (congrArg Int32.toInt c35) rfl
    exact C48 I34 _ _ ls v34 hW hS hF hO (dkN_sub d36 rfl) (lv_sub hl [1, 0] rfl)
  ·
    have d37 : dkN [(0, 4)] v34 := dkN_ne1 (-1000000) dv34 (dkN_lit (x := (-1000000)) (-1000000) rfl) (dk_ne c35) rfl
    refine lv_aload_n hx hb dX6_rings_12 rfl (lv_at hl 1 rfl) ?_
    refine lv_bipush (v := 6) hx hb dX6_rings_13 (by decide) ?_
    refine lv_bipush (v := 6) hx hb dX6_rings_15 (by decide) ?_
    refine lv_iload_n hx hb dX6_rings_17 rfl (lv_at hl 0 rfl) ?_
    refine lv_imul hx hb dX6_rings_18 ?_
    refine lv_topi (fun v38 ev38 => ?_)
    have dv38 : dkN [(0, 24)] v38 := by rw [ev38]; exact dkN_mulL 6 (by decide) (dkN_lit (x := 6) (6) rfl) d37 rfl
    refine lv_iadd hx hb dX6_rings_19 ?_
    refine lv_topi (fun v39 ev39 => ?_)
    have dv39 : dkN [(6, 30)] v39 := by rw [ev39]; exact dkN_add (dkN_lit (x := 6) (6) rfl) dv38 rfl
    refine lv_iconst (v := 5) hx hb dX6_rings_20 (by decide) ?_
    refine lv_iadd hx hb dX6_rings_21 ?_
    refine lv_topi (fun v40 ev40 => ?_)
    have dv40 : dkN [(11, 35)] v40 := by rw [ev40]; exact dkN_add dv39 (dkN_lit (x := 5) (5) rfl) rfl
    refine lv_dup2_11 hx hb dX6_rings_22 rfl rfl ?_
    refine dk_ild (k := 346) hx hb hK (dk_at346 hW) (dkN_in (n := 54) dv40 rfl) dX6_rings_23 ?_
    refine lv_topi (fun v41 ev41 => ?_)
    refine lv_aload_n hx hb dX6_rings_24 rfl (lv_at hl 1 rfl) ?_
    refine lv_bipush (v := 6) hx hb dX6_rings_25 (by decide) ?_
    refine lv_bipush (v := 6) hx hb dX6_rings_27 (by decide) ?_
    refine lv_iload_n hx hb dX6_rings_29 rfl (lv_at hl 0 rfl) ?_
    refine lv_imul hx hb dX6_rings_30 ?_
    refine lv_topi (fun v42 ev42 => ?_)
    have dv42 : dkN [(0, 24)] v42 := by rw [ev42]; exact dkN_mulL 6 (by decide) (dkN_lit (x := 6) (6) rfl) d37 rfl
    refine lv_iadd hx hb dX6_rings_31 ?_
    refine lv_topi (fun v43 ev43 => ?_)
    have dv43 : dkN [(6, 30)] v43 := by rw [ev43]; exact dkN_add (dkN_lit (x := 6) (6) rfl) dv42 rfl
    refine lv_iconst (v := 5) hx hb dX6_rings_32 (by decide) ?_
    refine lv_iadd hx hb dX6_rings_33 ?_
    refine lv_topi (fun v44 ev44 => ?_)
    have dv44 : dkN [(11, 35)] v44 := by rw [ev44]; exact dkN_add dv43 (dkN_lit (x := 5) (5) rfl) rfl
    refine dk_ild (k := 346) hx hb hK (dk_at346 hW) (dkN_in (n := 54) dv44 rfl) dX6_rings_34 ?_
    refine lv_topi (fun v45 ev45 => ?_)
    refine lv_sipush (v := 999) hx hb dX6_rings_35 (by decide) ?_
    refine lv_icmp_ge (tgt := 45) hx hb dX6_rings_38 (by decide) (fun c46 => ?_) (fun c46 => ?_)
    ·
      have d47 : dkN [(999, 2147483647)] v45 := dkN_le2 0 (dkN_lit (x := 999) (999) rfl) (dkN_top v45) (dkc_le c46) rfl
      refine lv_iconst (v := 0) hx hb dX6_rings_45 (by decide) ?_
      exact C46 I34 _ _ ls v34 0 v41 v40 hW hS hF hO (dkN_sub d37 rfl) (dkN_sub (dkN_lit (x := 0) (0) rfl) rfl) (dkN_sub dv40 rfl) (lv_sub hl [1, 0] rfl)
    ·
      have d48 : dkN [(-2147483648, 998)] v45 := dkN_le1 1 (dkN_top v45) (dkN_lit (x := 999) (999) rfl) (dkc_nle c46) rfl
      refine lv_iconst (v := 1) hx hb dX6_rings_41 (by decide) ?_
      refine lv_goto (tgt := 46) hx hb dX6_rings_42 (by decide) ?_
      exact C46 I34 _ _ ls v34 1 v41 v40 hW hS hF hO (dkN_sub d37 rfl) (dkN_sub (dkN_lit (x := 1) (1) rfl) rfl) (dkN_sub dv40 rfl) (lv_sub hl [1, 0] rfl)
set_option maxHeartbeats 4000000 in
set_option maxRecDepth 100000 in
theorem c_X6_passes_0 (l : Launch) (g : dkG) (z : Nat) (I0 : dkI)  (hO : dkOk I0) : Met l yX6_passes wsX6_passes (dkR 5) (dkPc g z [.ref (z + 346)] I0) (dkQv g z (fun I1 => dkF [(346, 346, 2, 3), (346, 346, 8, 35), (346, 346, 38, 38), (346, 346, 41, 41), (346, 346, 44, 44), (346, 346, 47, 47), (346, 346, 50, 50), (346, 346, 53, 53)] I0 I1 ∧ dkOk I1 ∧ ((True)))) 0 0 (dkA z) := by
  refine Met.ofW (cc := cX6_passes) (maxL := 1) (ret := none) (by decide) rfl ?_
  intro p e s m args below meth c s₁ B hml hv
  obtain ⟨ha, hW, hK, hT⟩ := hv
  have hx := B.exec
  have hb := B.bytes
  have hr := B.returns
  have hts := atoms_spec (ws := wsX6_passes) B.pre
  have hown : s.vm.findClass RX6 = some m.cls := findClass_of_methodNamed B.named
  have hlocks := B.notSynchronized
  have hS : va_S (dkA z) s.heap s.heap [] := va_S.rf
  have hF : dkF [(346, 346, 2, 3), (346, 346, 8, 35), (346, 346, 38, 38), (346, 346, 41, 41), (346, 346, 44, 44), (346, 346, 47, 47), (346, 346, 50, 50), (346, 346, 53, 53)] I0 I0 := dkF_rf _ _
  have hl := lv_entry ([.ref (z + 346)]) (n := 1) (Nat.le_of_ble_eq_true rfl)
  have hgo : entryFrame m args 1 = entryFrame m ([.ref (z + 346)] : List Value).toArray 1 := by rw [ha]
  rw [hgo, lg_entry_eq]
  generalize (lg_sl ([.ref (z + 346)]) ++ List.replicate (1 - (lg_sl ([.ref (z + 346)])).length) Slot.unset).toArray = ls at hl ⊢
  have hl : lv_has ls 1 [(0, .ref (z + 346))] := hl
  refine lv_aload_n hx hb dX6_passes_0 rfl (lv_at hl 0 rfl) ?_
  refine lv_iconst (v := 0) hx hb dX6_passes_1 (by decide) ?_
  refine lv_iconst (v := 0) hx hb dX6_passes_2 (by decide) ?_
  refine lv_iconst (v := 0) hx hb dX6_passes_3 (by decide) ?_
  refine dk_Sv (As := [.ref (z + 346), .int 0, .int 0, .int 0]) (rest := []) ⟨hx, hb, hml, hown, hts⟩ (c_X6_steps_0 l g z I0 0 0 0 hO) (va_cwS 4 hts gX6_passes_X6_steps rfl rfl rfl (by decide +kernel) ⟨Nat.le_of_ble_eq_true rfl, Nat.le_of_ble_eq_true rfl⟩) hK hT hW hS rfl hl.1 rfl (Nat.le_of_ble_eq_true rfl) dX6_passes_4 ⟨Nat.zero_le _, Nat.zero_le _⟩ (fun I1 H1 L1 hp1 hW hS => ?_)
  obtain ⟨hF1, hO, hi1_0, hc1⟩ := hp1
  have hF := dkF_call hF hF1 rfl
  refine lv_aload_n hx hb dX6_passes_7 rfl (lv_at hl 0 rfl) ?_
  refine lv_iconst (v := 3) hx hb dX6_passes_8 (by decide) ?_
  refine dk_ild (k := 346) hx hb hK (dk_at346 hW) (dkN_in (n := 54) (dkN_lit (x := 3) (3) rfl) rfl) dX6_passes_9 ?_
  refine lv_topi (fun v2 ev2 => ?_)
  have ev2 : v2 = I1 346 3 := ev2
  refine lv_aload_n hx hb dX6_passes_10 rfl (lv_at hl 0 rfl) ?_
  refine lv_iconst (v := 1) hx hb dX6_passes_11 (by decide) ?_
  refine dk_ild (k := 346) hx hb hK (dk_at346 hW) (dkN_in (n := 54) (dkN_lit (x := 1) (1) rfl) rfl) dX6_passes_12 ?_
  refine lv_topi (fun v3 ev3 => ?_)
  have ev3 : v3 = I1 346 1 := ev3
  have dv3 : dkN [(0, 30)] v3 := by rw [ev3]; exact (show dkN [(0, 30)] (I1 346 1) from (hO 346 1))
  refine lv_icmp_ne (tgt := 21) hx hb dX6_passes_13 (by decide) (fun c4 => ?_) (fun c4 => ?_)
  ·
    exact W.vret hx hb hr (fun t ht hW9 => ⟨⟨I1, rfl, ⟨hF, hO, trivial⟩, dkW_eq ht hW⟩, hS.F ht⟩) hS.2.2 dX6_passes_21
  ·
    have d5 : dkN [(0, 30)] v2 := dkN_eq1 (dkN_top v2) dv3 (congrArg Int32.toInt c4) rfl
    have f6 : dkN [(0, 30)] (I1 346 3) := by rw [← ev2]; exact d5
    refine lv_aload_n hx hb dX6_passes_16 rfl (lv_at hl 0 rfl) ?_
    refine dk_Si (As := [.ref (z + 346)]) (rest := []) ⟨hx, hb, hml, hown, hts⟩ (c_X6_rings_0 l g z I1 hO) (va_cwS 1 hts gX6_passes_X6_rings rfl rfl rfl (by decide +kernel) ⟨Nat.le_of_ble_eq_true rfl, Nat.le_of_ble_eq_true rfl⟩) hK hT hW hS rfl hl.1 rfl (Nat.le_of_ble_eq_true rfl) dX6_passes_17 ⟨Nat.zero_le _, Nat.zero_le _⟩ (fun v7 I7 H7 L7 hp7 hW hS => ?_)
    obtain ⟨hF7, hO, hc7⟩ := hp7
    have hF := dkF_call hF hF7 rfl
    obtain ⟨dv7, f7_346_3, -⟩ := hc7
    refine lv_pop hx hb dX6_passes_20 rfl ?_
    exact W.vret hx hb hr (fun t ht hW9 => ⟨⟨I7, rfl, ⟨hF, hO, trivial⟩, dkW_eq ht hW⟩, hS.F ht⟩) hS.2.2 dX6_passes_21
set_option maxHeartbeats 4000000 in
set_option maxRecDepth 100000 in
theorem c_X6_minutes_0 (l : Launch) (g : dkG) (z : Nat) (I0 : dkI) (p0 : Int32)  (hO : dkOk I0) (hP : dkPP I0) : Met l yX6_minutes wsX6_minutes (dkR 6) (dkPc g z [.ref (z + 340), .int p0] I0) (dkQi g z (fun r I1 => dkF [(340, 340, 17, 17), (346, 346, 2, 3), (346, 346, 8, 35), (346, 346, 38, 38), (346, 346, 41, 41), (346, 346, 44, 44), (346, 346, 47, 47), (346, 346, 50, 50), (346, 346, 53, 53), (349, 349, 0, 1295)] I0 I1 ∧ dkOk I1 ∧ dkPP I1 ∧ ((True ∧ True)))) 0 0 (dkA z) := by
  refine Met.ofW (cc := cX6_minutes) (maxL := 3) (ret := (some .int)) (by decide) rfl ?_
  intro p e s m args below meth c s₁ B hml hv
  obtain ⟨ha, hW, hK, hT⟩ := hv
  have hx := B.exec
  have hb := B.bytes
  have hr := B.returns
  have hts := atoms_spec (ws := wsX6_minutes) B.pre
  have hown : s.vm.findClass RX6 = some m.cls := findClass_of_methodNamed B.named
  have hlocks := B.notSynchronized
  have hS : va_S (dkA z) s.heap s.heap [] := va_S.rf
  have hF : dkF [(340, 340, 17, 17), (346, 346, 2, 3), (346, 346, 8, 35), (346, 346, 38, 38), (346, 346, 41, 41), (346, 346, 44, 44), (346, 346, 47, 47), (346, 346, 50, 50), (346, 346, 53, 53), (349, 349, 0, 1295)] I0 I0 := dkF_rf _ _
  have hl := lv_entry ([.ref (z + 340), .int p0]) (n := 3) (Nat.le_of_ble_eq_true rfl)
  have hgo : entryFrame m args 3 = entryFrame m ([.ref (z + 340), .int p0] : List Value).toArray 3 := by rw [ha]
  rw [hgo, lg_entry_eq]
  generalize (lg_sl ([.ref (z + 340), .int p0]) ++ List.replicate (3 - (lg_sl ([.ref (z + 340), .int p0])).length) Slot.unset).toArray = ls at hl ⊢
  have hl : lv_has ls 3 [(0, .ref (z + 340)), (1, .int p0)] := hl
  have C40 : ∀ (n : Nat), ∀ (I : dkI) (H : Heap) (locs : List Loc) (ls : Array Slot) (x40_2 : Int32), (24 - x40_2.toInt).toNat < n → dkW g z I H → va_S (dkA z) s.heap H locs → dkF [(340, 340, 17, 17), (346, 346, 2, 3), (346, 346, 8, 35), (346, 346, 38, 38), (346, 346, 41, 41), (346, 346, 44, 44), (346, 346, 47, 47), (346, 346, 50, 50), (346, 346, 53, 53), (349, 349, 0, 1295)] I0 I → dkOk I → dkPP I → dkN [(0, 24)] x40_2 → dkN [(1, 24)] p0 → dkN [(1, 9)] (I 346 0) → lv_has ls 3 [(0, .ref (z + 340)), (1, .int p0), (2, .int x40_2)] → W p l e (headSpec wsX6_minutes (dkR 6)).room s m args below meth c H locs 0 0 (MQ below (dkQi g z (fun r I1 => dkF [(340, 340, 17, 17), (346, 346, 2, 3), (346, 346, 8, 35), (346, 346, 38, 38), (346, 346, 41, 41), (346, 346, 44, 44), (346, 346, 47, 47), (346, 346, 50, 50), (346, 346, 53, 53), (349, 349, 0, 1295)] I0 I1 ∧ dkOk I1 ∧ dkPP I1 ∧ ((True ∧ True)))) args s 0 0 (dkA z)) (F0 m 40 ls []) := by
    intro n
    induction n with
    | zero => intro I H locs ls x40_2 hn; exact absurd hn (Nat.not_lt_zero _)
    | succ n ih40 =>
      intro I40_ H locs ls x40_2 hn40 hW hS hF_40 hO hP k40_0 r40_0 f40_0 hl
      have hF := hF_40
      refine lv_iload_n hx hb dX6_minutes_40 rfl (lv_at hl 2 rfl) ?_
      refine lv_iload_n hx hb dX6_minutes_41 rfl (lv_at hl 1 rfl) ?_
      refine lv_icmp_ge (tgt := 62) hx hb dX6_minutes_42 (by decide) (fun c1 => ?_) (fun c1 => ?_)
      ·
        have d2 : dkN [(1, 24)] x40_2 := dkN_le2 0 r40_0 k40_0 (dkc_le c1) rfl
        refine lv_aload_n hx hb dX6_minutes_62 rfl (lv_at hl 0 rfl) ?_
        refine dk_get (k := 340) hx hb hts iX6_minutes_6 hown hK (dk_at340 hW) rfl 13 (by decide) (hts (.fieldLink RX6 25 "DogKingsModel" "now" "[I") (List.mem_of_getElem? (i := 3) rfl)) rfl dX6_minutes_63 ?_
        refine lv_iconst (v := 2) hx hb dX6_minutes_66 (by decide) ?_
        refine dk_ild (k := 346) hx hb hK (dk_at346 hW) (dkN_in (n := 54) (dkN_lit (x := 2) (2) rfl) rfl) dX6_minutes_67 ?_
        refine lv_topi (fun v3 ev3 => ?_)
        have ev3 : v3 = I40_ 346 2 := ev3
        exact W.iret (v := v3) hx hb hr (fun t ht hW9 => ⟨⟨v3, I40_, rfl, ⟨hF, hO, hP, ⟨trivial, trivial⟩⟩, dkW_eq ht hW⟩, hS.F ht⟩) hS.2.2 dX6_minutes_68
      ·
        have d4 : dkN [(0, 23)] x40_2 := dkN_le1 1 k40_0 r40_0 (dkc_nle c1) rfl
        refine lv_aload_n hx hb dX6_minutes_45 rfl (lv_at hl 0 rfl) ?_
        refine dk_Vv (As := []) (rest := []) ⟨hx, hb, hml, hown, hts⟩ (c_X6_notes l g z I40_ hO hP) (cwV 0 hts gX6_minutes_X6_notes rfl rfl rfl (by decide +kernel) ⟨Nat.le_of_ble_eq_true rfl, Nat.le_of_ble_eq_true rfl⟩) (dk_at340 hW) rfl hK hT hW hS rfl hl.1 rfl (Nat.le_of_ble_eq_true rfl) dX6_minutes_46 ⟨Nat.zero_le _, Nat.zero_le _⟩ (fun I5 H5 L5 hp5 hW hS => ?_)
        obtain ⟨hF5, hO, hP, hc5⟩ := hp5
        have hF := dkF_call hF hF5 rfl
        obtain ⟨f5_340_17, -⟩ := hc5
        refine lv_aload_n hx hb dX6_minutes_49 rfl (lv_at hl 0 rfl) ?_
        refine dk_get (k := 340) hx hb hts iX6_minutes_6 hown hK (dk_at340 hW) rfl 13 (by decide) (hts (.fieldLink RX6 25 "DogKingsModel" "now" "[I") (List.mem_of_getElem? (i := 3) rfl)) rfl dX6_minutes_50 ?_
        refine dk_Sv (As := [.ref (z + 346)]) (rest := []) ⟨hx, hb, hml, hown, hts⟩ (c_X6_passes_0 l g z I5 hO) (va_cwS 1 hts gX6_minutes_X6_passes rfl rfl rfl (by decide +kernel) ⟨Nat.le_of_ble_eq_true rfl, Nat.le_of_ble_eq_true rfl⟩) hK hT hW hS rfl hl.1 rfl (Nat.le_of_ble_eq_true rfl) dX6_minutes_53 ⟨Nat.zero_le _, Nat.zero_le _⟩ (fun I6 H6 L6 hp6 hW hS => ?_)
        obtain ⟨hF6, hO, hc6⟩ := hp6
        have hF := dkF_call hF hF6 rfl
        have hP := dkPP_F hP hF6 rfl
        obtain ⟨v7, ev7⟩ : ∃ y : Int32, y = x40_2 + 1 := ⟨_, rfl⟩
        have dv7 : dkN [(1, 24)] v7 := by rw [ev7]; exact dkN_add d4 (dkN_lit (x := 1) (1) rfl) rfl
        refine lv_iinc (v := v7) (lv' := [(2, .int v7), (0, .ref (z + 340)), (1, .int p0)]) hx hb dX6_minutes_56 hl (k := 2) rfl (by rw [ev7]; rfl) (by decide) rfl (fun ls hl => ?_)
        refine lv_goto (tgt := 40) hx hb dX6_minutes_59 (by decide) ?_
        exact ih40 I6 _ _ ls v7 (dk_near hn40 (by rw [ev7]; exact dk_inc d4 rfl) (dkN_lt d4 rfl)) hW hS hF hO hP (dkN_sub dv7 rfl) (dkN_sub r40_0 rfl) (show dkN [(1, 9)] (I6 346 0) from dkN_sub (by rw [hF6 346 0 rfl]; exact (by rw [hF5 346 0 rfl]; exact f40_0)) rfl) (lv_sub hl [1, 2, 0] rfl)
  refine lv_aload_n hx hb dX6_minutes_0 rfl (lv_at hl 0 rfl) ?_
  refine dk_Vi (As := []) (rest := []) ⟨hx, hb, hml, hown, hts⟩ (c_X6_isTown_0 l g z I0 hO) (cwV 0 hts gX6_minutes_X6_isTown rfl rfl rfl (by decide +kernel) ⟨Nat.le_of_ble_eq_true rfl, Nat.le_of_ble_eq_true rfl⟩) (dk_at340 hW) rfl hK hT hW hS rfl hl.1 rfl (Nat.le_of_ble_eq_true rfl) dX6_minutes_1 ⟨Nat.zero_le _, Nat.zero_le _⟩ (fun v8 I8 H8 L8 hp8 hW hS => ?_)
  obtain ⟨hF8, hO, hc8⟩ := hp8
  have hF := dkF_call hF hF8 rfl
  have hP := dkPP_F hP hF8 rfl
  rcases hc8 with ⟨dv8, f8_346_0, -⟩ | hc8
  ·
    refine lv_if_ne (tgt := 10) hx hb dX6_minutes_4 (by decide) (fun c9 => ?_) (fun c9 => ?_)
    ·
      exact (dkN_nil (show dkN [] v8 from dkN_ne1 (0) dv8 (dkN_lit (x := 0) (0) rfl) (dk_ne c9) rfl)).elim
    ·
      refine lv_ldc (v := (-1000002)) hx hb hown (hts (.constant RX6 185 (-1000002)) (List.mem_of_getElem? (i := 1) rfl)) dX6_minutes_7 ?_
      exact W.iret (v := (-1000002)) hx hb hr (fun t ht hW9 => ⟨⟨(-1000002), I8, rfl, ⟨hF, hO, hP, ⟨trivial, trivial⟩⟩, dkW_eq ht hW⟩, hS.F ht⟩) hS.2.2 dX6_minutes_9
  ·
    obtain ⟨dv8, f8_346_0, -⟩ := hc8
    refine lv_if_ne (tgt := 10) hx hb dX6_minutes_4 (by decide) (fun c10 => ?_) (fun c10 => ?_)
    ·
      refine lv_iload_n hx hb dX6_minutes_10 rfl (lv_at hl 1 rfl) ?_
      refine lv_iconst (v := 1) hx hb dX6_minutes_11 (by decide) ?_
      refine lv_bipush (v := 24) hx hb dX6_minutes_12 (by decide) ?_
      refine dk_Si (As := [.int p0, .int 1, .int 24]) (rest := []) ⟨hx, hb, hml, hown, hts⟩ (c_X6_in_11 l g z I8 p0 1 24 (dkN_lit (x := 1) (1) rfl) (dkN_lit (x := 24) (24) rfl) hO) (va_cwS 3 hts gX6_minutes_X6_in rfl rfl rfl (by decide +kernel) ⟨Nat.le_of_ble_eq_true rfl, Nat.le_of_ble_eq_true rfl⟩) hK hT hW hS rfl hl.1 rfl (Nat.le_of_ble_eq_true rfl) dX6_minutes_14 ⟨Nat.zero_le _, Nat.zero_le _⟩ (fun v11 I11 H11 L11 hp11 hW hS => ?_)
      obtain ⟨hF11, hO, hc11⟩ := hp11
      have hF := dkF_call hF hF11 rfl
      have hP := dkPP_F hP hF11 rfl
      rcases hc11 with ⟨dv11, a11_0, -⟩ | hc11
      ·
        have d12 : dkN [(-2147483648, 0), (25, 2147483647)] p0 := dkN_eq1 (dkN_top p0) a11_0 rfl rfl
        refine lv_if_ne (tgt := 23) hx hb dX6_minutes_17 (by decide) (fun c13 => ?_) (fun c13 => ?_)
        ·
          exact (dkN_nil (show dkN [] v11 from dkN_ne1 (0) dv11 (dkN_lit (x := 0) (0) rfl) (dk_ne c13) rfl)).elim
        ·
          refine lv_ldc (v := (-1000001)) hx hb hown (hts (.constant RX6 64 (-1000001)) (List.mem_of_getElem? (i := 2) rfl)) dX6_minutes_20 ?_
          exact W.iret (v := (-1000001)) hx hb hr (fun t ht hW9 => ⟨⟨(-1000001), I11, rfl, ⟨hF, hO, hP, ⟨trivial, trivial⟩⟩, dkW_eq ht hW⟩, hS.F ht⟩) hS.2.2 dX6_minutes_22
      ·
        obtain ⟨dv11, a11_0, -⟩ := hc11
        have d14 : dkN [(1, 24)] p0 := dkN_eq1 (dkN_top p0) a11_0 rfl rfl
        refine lv_if_ne (tgt := 23) hx hb dX6_minutes_17 (by decide) (fun c15 => ?_) (fun c15 => ?_)
        ·
          refine lv_aload_n hx hb dX6_minutes_23 rfl (lv_at hl 0 rfl) ?_
          refine dk_get (k := 340) hx hb hts iX6_minutes_6 hown hK (dk_at340 hW) rfl 13 (by decide) (hts (.fieldLink RX6 25 "DogKingsModel" "now" "[I") (List.mem_of_getElem? (i := 3) rfl)) rfl dX6_minutes_24 ?_
          refine lv_iconst (v := 2) hx hb dX6_minutes_27 (by decide) ?_
          refine dk_ild (k := 346) hx hb hK (dk_at346 hW) (dkN_in (n := 54) (dkN_lit (x := 2) (2) rfl) rfl) dX6_minutes_28 ?_
          refine lv_topi (fun v16 ev16 => ?_)
          have ev16 : v16 = I11 346 2 := ev16
          refine lv_sipush (v := 999) hx hb dX6_minutes_29 (by decide) ?_
          refine lv_icmp_lt (tgt := 38) hx hb dX6_minutes_32 (by decide) (fun c17 => ?_) (fun c17 => ?_)
          ·
            have d18 : dkN [(-2147483648, 998)] v16 := dkN_le1 1 (dkN_top v16) (dkN_lit (x := 999) (999) rfl) (dkc_lt c17) rfl
            have f19 : dkN [(-2147483648, 998)] (I11 346 2) := by rw [← ev16]; exact d18
            refine lv_iconst (v := 0) hx hb dX6_minutes_38 (by decide) ?_
            refine lv_istore_n (lv' := [(2, .int 0), (0, .ref (z + 340)), (1, .int p0)]) hx hb dX6_minutes_39 rfl hl (by decide) rfl (fun ls hl => ?_)
            exact C40 _ I11 _ _ ls 0 (Nat.lt_succ_self _) hW hS hF hO hP (dkN_sub (dkN_lit (x := 0) (0) rfl) rfl) (dkN_sub d14 rfl) (show dkN [(1, 9)] (I11 346 0) from dkN_sub (by rw [hF11 346 0 rfl]; exact f8_346_0) rfl) (lv_sub hl [1, 2, 0] rfl)
          ·
            have d20 : dkN [(999, 2147483647)] v16 := dkN_le2 0 (dkN_lit (x := 999) (999) rfl) (dkN_top v16) (dkc_nlt c17) rfl
            have f21 : dkN [(999, 2147483647)] (I11 346 2) := by rw [← ev16]; exact d20
            refine lv_ldc (v := (-1000003)) hx hb hown (hts (.constant RX6 85 (-1000003)) (List.mem_of_getElem? (i := 4) rfl)) dX6_minutes_35 ?_
            exact W.iret (v := (-1000003)) hx hb hr (fun t ht hW9 => ⟨⟨(-1000003), I11, rfl, ⟨hF, hO, hP, ⟨trivial, trivial⟩⟩, dkW_eq ht hW⟩, hS.F ht⟩) hS.2.2 dX6_minutes_37
        ·
          exact (dkN_nil (show dkN [] v11 from dkN_eq1 dv11 (dkN_lit (x := 0) (0) rfl) (congrArg Int32.toInt c15) rfl)).elim
    ·
      exact (dkN_nil (show dkN [] v8 from dkN_eq1 dv8 (dkN_lit (x := 0) (0) rfl) (congrArg Int32.toInt c10) rfl)).elim
set_option maxHeartbeats 4000000 in
set_option maxRecDepth 100000 in
theorem c_X5_isPerson_0 (l : Launch) (g : dkG) (z : Nat) (I0 : dkI) (p0 : Int32)  (hO : dkOk I0) : Met l yX5_isPerson wsX5_isPerson (dkR 0) (dkPc g z [.ref (z + 0), .int p0] I0) (dkQi g z (fun r I1 => dkF [] I0 I1 ∧ dkOk I1 ∧ ((dkN [(0, 0)] r ∧ True) ∨ (dkN [(1, 1)] r ∧ dkN [(0, 4)] p0 ∧ dkN [(1, 5)] (I1 25 4) ∧ True)))) 0 0 (dkA z) := by
  refine Met.ofW (cc := cX5_isPerson) (maxL := 2) (ret := (some .boolean)) (by decide) rfl ?_
  intro p e s m args below meth c s₁ B hml hv
  obtain ⟨ha, hW, hK, hT⟩ := hv
  have hx := B.exec
  have hb := B.bytes
  have hr := B.returns
  have hts := atoms_spec (ws := wsX5_isPerson) B.pre
  have hown : s.vm.findClass RX5 = some m.cls := findClass_of_methodNamed B.named
  have hlocks := B.notSynchronized
  have hS : va_S (dkA z) s.heap s.heap [] := va_S.rf
  have hF : dkF [] I0 I0 := dkF_rf _ _
  have hl := lv_entry ([.ref (z + 0), .int p0]) (n := 2) (Nat.le_of_ble_eq_true rfl)
  have hgo : entryFrame m args 2 = entryFrame m ([.ref (z + 0), .int p0] : List Value).toArray 2 := by rw [ha]
  rw [hgo, lg_entry_eq]
  generalize (lg_sl ([.ref (z + 0), .int p0]) ++ List.replicate (2 - (lg_sl ([.ref (z + 0), .int p0])).length) Slot.unset).toArray = ls at hl ⊢
  have hl : lv_has ls 2 [(0, .ref (z + 0)), (1, .int p0)] := hl
  refine lv_iload_n hx hb dX5_isPerson_0 rfl (lv_at hl 1 rfl) ?_
  refine lv_if_lt (tgt := 19) hx hb dX5_isPerson_1 (by decide) (fun c1 => ?_) (fun c1 => ?_)
  ·
    have d2 : dkN [(-2147483648, -1)] p0 := dkN_le1 1 (dkN_top p0) (dkN_lit (x := 0) (0) rfl) (dkc_lt c1) rfl
    refine lv_iconst (v := 0) hx hb dX5_isPerson_19 (by decide) ?_
    exact W.zret (v := 0) (ty := .boolean) hx hb hr rfl (fun t ht hW9 => ⟨⟨0, I0, rfl, ⟨hF, hO, Or.inl ⟨dkN_sub (dkN_lit (x := 0) (0) rfl) rfl, trivial⟩⟩, dkW_eq ht hW⟩, hS.F ht⟩) hS.2.2 dX5_isPerson_20
  ·
    have d3 : dkN [(0, 2147483647)] p0 := dkN_le2 0 (dkN_lit (x := 0) (0) rfl) (dkN_top p0) (dkc_nlt c1) rfl
    refine lv_iload_n hx hb dX5_isPerson_4 rfl (lv_at hl 1 rfl) ?_
    refine lv_aload_n hx hb dX5_isPerson_5 rfl (lv_at hl 0 rfl) ?_
    refine dk_get (k := 0) hx hb hts iX5_isPerson_5 hown hK (dk_at0 hW) rfl 5 (by decide) (hts (.fieldLink RX5 31 "DogKings" "now" "LDogKings$Town;") (List.mem_of_getElem? (i := 1) rfl)) rfl dX5_isPerson_6 ?_
    refine dk_get (k := 25) hx hb hts iX5_isPerson_4 hown hK (dk_at25 hW) rfl 4 (by decide) (hts (.fieldLink RX5 277 "DogKings$Town" "people" "I") (List.mem_of_getElem? (i := 2) rfl)) rfl dX5_isPerson_9 ?_
    refine lv_topi (fun v4 ev4 => ?_)
    have dv4 : dkN [(0, 5)] v4 := by rw [ev4]; exact (hO 25 4)
    refine lv_icmp_ge (tgt := 19) hx hb dX5_isPerson_12 (by decide) (fun c5 => ?_) (fun c5 => ?_)
    ·
      refine lv_iconst (v := 0) hx hb dX5_isPerson_19 (by decide) ?_
      exact W.zret (v := 0) (ty := .boolean) hx hb hr rfl (fun t ht hW9 => ⟨⟨0, I0, rfl, ⟨hF, hO, Or.inl ⟨dkN_sub (dkN_lit (x := 0) (0) rfl) rfl, trivial⟩⟩, dkW_eq ht hW⟩, hS.F ht⟩) hS.2.2 dX5_isPerson_20
    ·
      have d6 : dkN [(1, 5)] v4 := dkN_le2 1 d3 dv4 (dkc_nle c5) rfl
      have f7 : dkN [(1, 5)] (I0 25 4) := by rw [← ev4]; exact d6
      have d8 : dkN [(0, 4)] p0 := dkN_le1 1 d3 dv4 (dkc_nle c5) rfl
      refine lv_iconst (v := 1) hx hb dX5_isPerson_15 (by decide) ?_
      refine lv_goto (tgt := 20) hx hb dX5_isPerson_16 (by decide) ?_
      exact W.zret (v := 1) (ty := .boolean) hx hb hr rfl (fun t ht hW9 => ⟨⟨1, I0, rfl, ⟨hF, hO, Or.inr (⟨dkN_sub (dkN_lit (x := 1) (1) rfl) rfl, dkN_sub d8 rfl, (show dkN [(1, 5)] (I0 25 4) from dkN_sub f7 rfl), trivial⟩)⟩, dkW_eq ht hW⟩, hS.F ht⟩) hS.2.2 dX5_isPerson_20
set_option maxHeartbeats 4000000 in
set_option maxRecDepth 100000 in
theorem c_X5_isUpTo_3 (l : Launch) (g : dkG) (z : Nat) (I0 : dkI) (p0 : Int32) (p1 : Int32) (dp1 : dkN [(9, 9)] p1)  (hO : dkOk I0) : Met l yX5_isUpTo wsX5_isUpTo (dkR 0) (dkPc g z [.int p0, .int p1] I0) (dkQi g z (fun r I1 => dkF [] I0 I1 ∧ dkOk I1 ∧ ((dkN [(0, 0)] r ∧ dkN [(-2147483648, -1), (10, 2147483647)] p0 ∧ True) ∨ (dkN [(1, 1)] r ∧ dkN [(0, 9)] p0 ∧ True)))) 0 0 (dkA z) := by
  refine Met.ofW (cc := cX5_isUpTo) (maxL := 2) (ret := (some .boolean)) (by decide) rfl ?_
  intro p e s m args below meth c s₁ B hml hv
  obtain ⟨ha, hW, hK, hT⟩ := hv
  have hx := B.exec
  have hb := B.bytes
  have hr := B.returns
  have hts := atoms_spec (ws := wsX5_isUpTo) B.pre
  have hown : s.vm.findClass RX5 = some m.cls := findClass_of_methodNamed B.named
  have hlocks := B.notSynchronized
  have hS : va_S (dkA z) s.heap s.heap [] := va_S.rf
  have hF : dkF [] I0 I0 := dkF_rf _ _
  have hl := lv_entry ([.int p0, .int p1]) (n := 2) (Nat.le_of_ble_eq_true rfl)
  have hgo : entryFrame m args 2 = entryFrame m ([.int p0, .int p1] : List Value).toArray 2 := by rw [ha]
  rw [hgo, lg_entry_eq]
  generalize (lg_sl ([.int p0, .int p1]) ++ List.replicate (2 - (lg_sl ([.int p0, .int p1])).length) Slot.unset).toArray = ls at hl ⊢
  have hl : lv_has ls 2 [(0, .int p0), (1, .int p1)] := hl
  refine lv_iload_n hx hb dX5_isUpTo_0 rfl (lv_at hl 0 rfl) ?_
  refine lv_if_lt (tgt := 13) hx hb dX5_isUpTo_1 (by decide) (fun c1 => ?_) (fun c1 => ?_)
  ·
    have d2 : dkN [(-2147483648, -1)] p0 := dkN_le1 1 (dkN_top p0) (dkN_lit (x := 0) (0) rfl) (dkc_lt c1) rfl
    refine lv_iconst (v := 0) hx hb dX5_isUpTo_13 (by decide) ?_
    exact W.zret (v := 0) (ty := .boolean) hx hb hr rfl (fun t ht hW9 => ⟨⟨0, I0, rfl, ⟨hF, hO, Or.inl ⟨dkN_sub (dkN_lit (x := 0) (0) rfl) rfl, dkN_sub d2 rfl, trivial⟩⟩, dkW_eq ht hW⟩, hS.F ht⟩) hS.2.2 dX5_isUpTo_14
  ·
    have d3 : dkN [(0, 2147483647)] p0 := dkN_le2 0 (dkN_lit (x := 0) (0) rfl) (dkN_top p0) (dkc_nlt c1) rfl
    refine lv_iload_n hx hb dX5_isUpTo_4 rfl (lv_at hl 0 rfl) ?_
    refine lv_iload_n hx hb dX5_isUpTo_5 rfl (lv_at hl 1 rfl) ?_
    refine lv_icmp_gt (tgt := 13) hx hb dX5_isUpTo_6 (by decide) (fun c4 => ?_) (fun c4 => ?_)
    ·
      have d5 : dkN [(10, 2147483647)] p0 := dkN_le2 1 dp1 d3 (dkc_lt c4) rfl
      refine lv_iconst (v := 0) hx hb dX5_isUpTo_13 (by decide) ?_
      exact W.zret (v := 0) (ty := .boolean) hx hb hr rfl (fun t ht hW9 => ⟨⟨0, I0, rfl, ⟨hF, hO, Or.inl ⟨dkN_sub (dkN_lit (x := 0) (0) rfl) rfl, dkN_sub d5 rfl, trivial⟩⟩, dkW_eq ht hW⟩, hS.F ht⟩) hS.2.2 dX5_isUpTo_14
    ·
      have d6 : dkN [(0, 9)] p0 := dkN_le1 0 d3 dp1 (dkc_nlt c4) rfl
      refine lv_iconst (v := 1) hx hb dX5_isUpTo_9 (by decide) ?_
      refine lv_goto (tgt := 14) hx hb dX5_isUpTo_10 (by decide) ?_
      exact W.zret (v := 1) (ty := .boolean) hx hb hr rfl (fun t ht hW9 => ⟨⟨1, I0, rfl, ⟨hF, hO, Or.inr (⟨dkN_sub (dkN_lit (x := 1) (1) rfl) rfl, dkN_sub d6 rfl, trivial⟩)⟩, dkW_eq ht hW⟩, hS.F ht⟩) hS.2.2 dX5_isUpTo_14
set_option maxHeartbeats 4000000 in
set_option maxRecDepth 100000 in
theorem c_X6_in_12 (l : Launch) (g : dkG) (z : Nat) (I0 : dkI) (p0 : Int32) (p1 : Int32) (p2 : Int32) (dp1 : dkN [(0, 0)] p1) (dp2 : dkN [(-1, 4)] p2)  (hO : dkOk I0) : Met l yX6_in wsX6_in (dkR 0) (dkPc g z [.int p0, .int p1, .int p2] I0) (dkQi g z (fun r I1 => dkF [] I0 I1 ∧ dkOk I1 ∧ ((dkN [(0, 0)] r ∧ True) ∨ (dkN [(1, 1)] r ∧ dkN [(0, 4)] p0 ∧ dkN [(0, 4)] p2 ∧ True)))) 0 0 (dkA z) := by
  refine Met.ofW (cc := cX6_in) (maxL := 3) (ret := (some .boolean)) (by decide) rfl ?_
  intro p e s m args below meth c s₁ B hml hv
  obtain ⟨ha, hW, hK, hT⟩ := hv
  have hx := B.exec
  have hb := B.bytes
  have hr := B.returns
  have hts := atoms_spec (ws := wsX6_in) B.pre
  have hown : s.vm.findClass RX6 = some m.cls := findClass_of_methodNamed B.named
  have hlocks := B.notSynchronized
  have hS : va_S (dkA z) s.heap s.heap [] := va_S.rf
  have hF : dkF [] I0 I0 := dkF_rf _ _
  have hl := lv_entry ([.int p0, .int p1, .int p2]) (n := 3) (Nat.le_of_ble_eq_true rfl)
  have hgo : entryFrame m args 3 = entryFrame m ([.int p0, .int p1, .int p2] : List Value).toArray 3 := by rw [ha]
  rw [hgo, lg_entry_eq]
  generalize (lg_sl ([.int p0, .int p1, .int p2]) ++ List.replicate (3 - (lg_sl ([.int p0, .int p1, .int p2])).length) Slot.unset).toArray = ls at hl ⊢
  have hl : lv_has ls 3 [(0, .int p0), (1, .int p1), (2, .int p2)] := hl
  refine lv_iload_n hx hb dX6_in_0 rfl (lv_at hl 0 rfl) ?_
  refine lv_iload_n hx hb dX6_in_1 rfl (lv_at hl 1 rfl) ?_
  refine lv_icmp_lt (tgt := 14) hx hb dX6_in_2 (by decide) (fun c1 => ?_) (fun c1 => ?_)
  ·
    have d2 : dkN [(-2147483648, -1)] p0 := dkN_le1 1 (dkN_top p0) dp1 (dkc_lt c1) rfl
    refine lv_iconst (v := 0) hx hb dX6_in_14 (by decide) ?_
    exact W.zret (v := 0) (ty := .boolean) hx hb hr rfl (fun t ht hW9 => ⟨⟨0, I0, rfl, ⟨hF, hO, Or.inl ⟨dkN_sub (dkN_lit (x := 0) (0) rfl) rfl, trivial⟩⟩, dkW_eq ht hW⟩, hS.F ht⟩) hS.2.2 dX6_in_15
  ·
    have d3 : dkN [(0, 2147483647)] p0 := dkN_le2 0 dp1 (dkN_top p0) (dkc_nlt c1) rfl
    refine lv_iload_n hx hb dX6_in_5 rfl (lv_at hl 0 rfl) ?_
    refine lv_iload_n hx hb dX6_in_6 rfl (lv_at hl 2 rfl) ?_
    refine lv_icmp_gt (tgt := 14) hx hb dX6_in_7 (by decide) (fun c4 => ?_) (fun c4 => ?_)
    ·
      refine lv_iconst (v := 0) hx hb dX6_in_14 (by decide) ?_
      exact W.zret (v := 0) (ty := .boolean) hx hb hr rfl (fun t ht hW9 => ⟨⟨0, I0, rfl, ⟨hF, hO, Or.inl ⟨dkN_sub (dkN_lit (x := 0) (0) rfl) rfl, trivial⟩⟩, dkW_eq ht hW⟩, hS.F ht⟩) hS.2.2 dX6_in_15
    ·
      have d5 : dkN [(0, 4)] p2 := dkN_le2 0 d3 dp2 (dkc_nlt c4) rfl
      have d6 : dkN [(0, 4)] p0 := dkN_le1 0 d3 dp2 (dkc_nlt c4) rfl
      refine lv_iconst (v := 1) hx hb dX6_in_10 (by decide) ?_
      refine lv_goto (tgt := 15) hx hb dX6_in_11 (by decide) ?_
      exact W.zret (v := 1) (ty := .boolean) hx hb hr rfl (fun t ht hW9 => ⟨⟨1, I0, rfl, ⟨hF, hO, Or.inr (⟨dkN_sub (dkN_lit (x := 1) (1) rfl) rfl, dkN_sub d6 rfl, dkN_sub d5 rfl, trivial⟩)⟩, dkW_eq ht hW⟩, hS.F ht⟩) hS.2.2 dX6_in_15
set_option maxHeartbeats 4000000 in
set_option maxRecDepth 100000 in
theorem c_X6_isPerson_0 (l : Launch) (g : dkG) (z : Nat) (I0 : dkI) (p0 : Int32)  (hO : dkOk I0) : Met l yX6_isPerson wsX6_isPerson (dkR 1) (dkPc g z [.ref (z + 340), .int p0] I0) (dkQi g z (fun r I1 => dkF [] I0 I1 ∧ dkOk I1 ∧ ((dkN [(0, 0)] r ∧ True) ∨ (dkN [(1, 1)] r ∧ dkN [(0, 4)] p0 ∧ True)))) 0 0 (dkA z) := by
  refine Met.ofW (cc := cX6_isPerson) (maxL := 2) (ret := (some .boolean)) (by decide) rfl ?_
  intro p e s m args below meth c s₁ B hml hv
  obtain ⟨ha, hW, hK, hT⟩ := hv
  have hx := B.exec
  have hb := B.bytes
  have hr := B.returns
  have hts := atoms_spec (ws := wsX6_isPerson) B.pre
  have hown : s.vm.findClass RX6 = some m.cls := findClass_of_methodNamed B.named
  have hlocks := B.notSynchronized
  have hS : va_S (dkA z) s.heap s.heap [] := va_S.rf
  have hF : dkF [] I0 I0 := dkF_rf _ _
  have hl := lv_entry ([.ref (z + 340), .int p0]) (n := 2) (Nat.le_of_ble_eq_true rfl)
  have hgo : entryFrame m args 2 = entryFrame m ([.ref (z + 340), .int p0] : List Value).toArray 2 := by rw [ha]
  rw [hgo, lg_entry_eq]
  generalize (lg_sl ([.ref (z + 340), .int p0]) ++ List.replicate (2 - (lg_sl ([.ref (z + 340), .int p0])).length) Slot.unset).toArray = ls at hl ⊢
  have hl : lv_has ls 2 [(0, .ref (z + 340)), (1, .int p0)] := hl
  refine lv_iload_n hx hb dX6_isPerson_0 rfl (lv_at hl 1 rfl) ?_
  refine lv_iconst (v := 0) hx hb dX6_isPerson_1 (by decide) ?_
  refine lv_aload_n hx hb dX6_isPerson_2 rfl (lv_at hl 0 rfl) ?_
  refine dk_get (k := 340) hx hb hts iX6_isPerson_6 hown hK (dk_at340 hW) rfl 13 (by decide) (hts (.fieldLink RX6 25 "DogKingsModel" "now" "[I") (List.mem_of_getElem? (i := 1) rfl)) rfl dX6_isPerson_3 ?_
  refine lv_iconst (v := 4) hx hb dX6_isPerson_6 (by decide) ?_
  refine dk_ild (k := 346) hx hb hK (dk_at346 hW) (dkN_in (n := 54) (dkN_lit (x := 4) (4) rfl) rfl) dX6_isPerson_7 ?_
  refine lv_topi (fun v1 ev1 => ?_)
  have ev1 : v1 = I0 346 4 := ev1
  have dv1 : dkN [(0, 5)] v1 := by rw [ev1]; exact (show dkN [(0, 5)] (I0 346 4) from (hO 346 4))
  refine lv_iconst (v := 1) hx hb dX6_isPerson_8 (by decide) ?_
  refine lv_isub hx hb dX6_isPerson_9 ?_
  refine lv_topi (fun v2 ev2 => ?_)
  have dv2 : dkN [(-1, 4)] v2 := by rw [ev2]; exact dkN_subt dv1 (dkN_lit (x := 1) (1) rfl) rfl
  refine dk_Si (As := [.int p0, .int 0, .int v2]) (rest := []) ⟨hx, hb, hml, hown, hts⟩ (c_X6_in_12 l g z I0 p0 0 v2 (dkN_lit (x := 0) (0) rfl) dv2 hO) (va_cwS 3 hts gX6_isPerson_X6_in rfl rfl rfl (by decide +kernel) ⟨Nat.le_of_ble_eq_true rfl, Nat.le_of_ble_eq_true rfl⟩) hK hT hW hS rfl hl.1 rfl (Nat.le_of_ble_eq_true rfl) dX6_isPerson_10 ⟨Nat.zero_le _, Nat.zero_le _⟩ (fun v3 I3 H3 L3 hp3 hW hS => ?_)
  obtain ⟨hF3, hO, hc3⟩ := hp3
  have hF := dkF_call hF hF3 rfl
  rcases hc3 with ⟨dv3, -⟩ | hc3
  ·
    exact W.zret (v := v3) (ty := .boolean) hx hb hr (dkN_zr dv3 rfl) (fun t ht hW9 => ⟨⟨v3, I3, rfl, ⟨hF, hO, Or.inl ⟨dkN_sub dv3 rfl, trivial⟩⟩, dkW_eq ht hW⟩, hS.F ht⟩) hS.2.2 dX6_isPerson_13
  ·
    obtain ⟨dv3, a3_0, a3_2, -⟩ := hc3
    have d4 : dkN [(0, 4)] p0 := dkN_eq1 (dkN_top p0) a3_0 rfl rfl
    have d5 : dkN [(0, 4)] v2 := dkN_eq1 dv2 a3_2 rfl rfl
    exact W.zret (v := v3) (ty := .boolean) hx hb hr (dkN_zr dv3 rfl) (fun t ht hW9 => ⟨⟨v3, I3, rfl, ⟨hF, hO, Or.inr (⟨dkN_sub dv3 rfl, dkN_sub d4 rfl, trivial⟩)⟩, dkW_eq ht hW⟩, hS.F ht⟩) hS.2.2 dX6_isPerson_13
set_option maxHeartbeats 4000000 in
set_option maxRecDepth 100000 in
theorem c_X6_bones_0 (l : Launch) (g : dkG) (z : Nat) (I0 : dkI) (p0 : Int32) (p1 : Int32)  (hO : dkOk I0) (hP : dkPP I0) : Met l yX6_bones wsX6_bones (dkR 2) (dkPc g z [.ref (z + 340), .int p0, .int p1] I0) (dkQi g z (fun r I1 => dkF [(340, 340, 17, 17), (346, 346, 9, 33), (349, 349, 0, 1295)] I0 I1 ∧ dkOk I1 ∧ dkPP I1 ∧ ((True ∧ True)))) 0 0 (dkA z) := by
  refine Met.ofW (cc := cX6_bones) (maxL := 4) (ret := (some .int)) (by decide) rfl ?_
  intro p e s m args below meth c s₁ B hml hv
  obtain ⟨ha, hW, hK, hT⟩ := hv
  have hx := B.exec
  have hb := B.bytes
  have hr := B.returns
  have hts := atoms_spec (ws := wsX6_bones) B.pre
  have hown : s.vm.findClass RX6 = some m.cls := findClass_of_methodNamed B.named
  have hlocks := B.notSynchronized
  have hS : va_S (dkA z) s.heap s.heap [] := va_S.rf
  have hF : dkF [(340, 340, 17, 17), (346, 346, 9, 33), (349, 349, 0, 1295)] I0 I0 := dkF_rf _ _
  have hl := lv_entry ([.ref (z + 340), .int p0, .int p1]) (n := 4) (Nat.le_of_ble_eq_true rfl)
  have hgo : entryFrame m args 4 = entryFrame m ([.ref (z + 340), .int p0, .int p1] : List Value).toArray 4 := by rw [ha]
  rw [hgo, lg_entry_eq]
  generalize (lg_sl ([.ref (z + 340), .int p0, .int p1]) ++ List.replicate (4 - (lg_sl ([.ref (z + 340), .int p0, .int p1])).length) Slot.unset).toArray = ls at hl ⊢
  have hl : lv_has ls 4 [(0, .ref (z + 340)), (1, .int p0), (2, .int p1)] := hl
  refine lv_aload_n hx hb dX6_bones_0 rfl (lv_at hl 0 rfl) ?_
  refine lv_iload_n hx hb dX6_bones_1 rfl (lv_at hl 1 rfl) ?_
  refine dk_Vi (As := [.int p0]) (rest := []) ⟨hx, hb, hml, hown, hts⟩ (c_X6_isPerson_0 l g z I0 p0 hO) (cwV 1 hts gX6_bones_X6_isPerson rfl rfl rfl (by decide +kernel) ⟨Nat.le_of_ble_eq_true rfl, Nat.le_of_ble_eq_true rfl⟩) (dk_at340 hW) rfl hK hT hW hS rfl hl.1 rfl (Nat.le_of_ble_eq_true rfl) dX6_bones_2 ⟨Nat.zero_le _, Nat.zero_le _⟩ (fun v1 I1 H1 L1 hp1 hW hS => ?_)
  obtain ⟨hF1, hO, hc1⟩ := hp1
  have hF := dkF_call hF hF1 rfl
  have hP := dkPP_F hP hF1 rfl
  rcases hc1 with ⟨dv1, -⟩ | hc1
  ·
    refine lv_if_eq (tgt := 18) hx hb dX6_bones_5 (by decide) (fun c2 => ?_) (fun c2 => ?_)
    ·
      refine lv_ldc (v := (-1000001)) hx hb hown (hts (.constant RX6 64 (-1000001)) (List.mem_of_getElem? (i := 1) rfl)) dX6_bones_18 ?_
      exact W.iret (v := (-1000001)) hx hb hr (fun t ht hW9 => ⟨⟨(-1000001), I1, rfl, ⟨hF, hO, hP, ⟨trivial, trivial⟩⟩, dkW_eq ht hW⟩, hS.F ht⟩) hS.2.2 dX6_bones_20
    ·
      exact (dkN_nil (show dkN [] v1 from dkN_ne1 (0) dv1 (dkN_lit (x := 0) (0) rfl) (dk_ne c2) rfl)).elim
  ·
    obtain ⟨dv1, a1_0, -⟩ := hc1
    have d3 : dkN [(0, 4)] p0 := dkN_eq1 (dkN_top p0) a1_0 rfl rfl
    refine lv_if_eq (tgt := 18) hx hb dX6_bones_5 (by decide) (fun c4 => ?_) (fun c4 => ?_)
    ·
      exact (dkN_nil (show dkN [] v1 from dkN_eq1 dv1 (dkN_lit (x := 0) (0) rfl) (congrArg Int32.toInt c4) rfl)).elim
    ·
      refine lv_iload_n hx hb dX6_bones_8 rfl (lv_at hl 2 rfl) ?_
      refine lv_iconst (v := 0) hx hb dX6_bones_9 (by decide) ?_
      refine lv_bipush (v := 9) hx hb dX6_bones_10 (by decide) ?_
      refine dk_Si (As := [.int p1, .int 0, .int 9]) (rest := []) ⟨hx, hb, hml, hown, hts⟩ (c_X6_in_10 l g z I1 p1 0 9 (dkN_lit (x := 0) (0) rfl) (dkN_lit (x := 9) (9) rfl) hO) (va_cwS 3 hts gX6_bones_X6_in rfl rfl rfl (by decide +kernel) ⟨Nat.le_of_ble_eq_true rfl, Nat.le_of_ble_eq_true rfl⟩) hK hT hW hS rfl hl.1 rfl (Nat.le_of_ble_eq_true rfl) dX6_bones_12 ⟨Nat.zero_le _, Nat.zero_le _⟩ (fun v5 I5 H5 L5 hp5 hW hS => ?_)
      obtain ⟨hF5, hO, hc5⟩ := hp5
      have hF := dkF_call hF hF5 rfl
      have hP := dkPP_F hP hF5 rfl
      rcases hc5 with ⟨dv5, a5_0, -⟩ | hc5
      ·
        have d6 : dkN [(-2147483648, -1), (10, 2147483647)] p1 := dkN_eq1 (dkN_top p1) a5_0 rfl rfl
        refine lv_if_ne (tgt := 21) hx hb dX6_bones_15 (by decide) (fun c7 => ?_) (fun c7 => ?_)
        ·
          exact (dkN_nil (show dkN [] v5 from dkN_ne1 (0) dv5 (dkN_lit (x := 0) (0) rfl) (dk_ne c7) rfl)).elim
        ·
          refine lv_ldc (v := (-1000001)) hx hb hown (hts (.constant RX6 64 (-1000001)) (List.mem_of_getElem? (i := 1) rfl)) dX6_bones_18 ?_
          exact W.iret (v := (-1000001)) hx hb hr (fun t ht hW9 => ⟨⟨(-1000001), I5, rfl, ⟨hF, hO, hP, ⟨trivial, trivial⟩⟩, dkW_eq ht hW⟩, hS.F ht⟩) hS.2.2 dX6_bones_20
      ·
        obtain ⟨dv5, a5_0, -⟩ := hc5
        have d8 : dkN [(0, 9)] p1 := dkN_eq1 (dkN_top p1) a5_0 rfl rfl
        refine lv_if_ne (tgt := 21) hx hb dX6_bones_15 (by decide) (fun c9 => ?_) (fun c9 => ?_)
        ·
          refine lv_aload_n hx hb dX6_bones_21 rfl (lv_at hl 0 rfl) ?_
          refine dk_Vv (As := []) (rest := []) ⟨hx, hb, hml, hown, hts⟩ (c_X6_notes l g z I5 hO hP) (cwV 0 hts gX6_bones_X6_notes rfl rfl rfl (by decide +kernel) ⟨Nat.le_of_ble_eq_true rfl, Nat.le_of_ble_eq_true rfl⟩) (dk_at340 hW) rfl hK hT hW hS rfl hl.1 rfl (Nat.le_of_ble_eq_true rfl) dX6_bones_22 ⟨Nat.zero_le _, Nat.zero_le _⟩ (fun I10 H10 L10 hp10 hW hS => ?_)
          obtain ⟨hF10, hO, hP, hc10⟩ := hp10
          have hF := dkF_call hF hF10 rfl
          obtain ⟨f10_340_17, -⟩ := hc10
          refine lv_aload_n hx hb dX6_bones_25 rfl (lv_at hl 0 rfl) ?_
          refine dk_get (k := 340) hx hb hts iX6_bones_6 hown hK (dk_at340 hW) rfl 13 (by decide) (hts (.fieldLink RX6 25 "DogKingsModel" "now" "[I") (List.mem_of_getElem? (i := 2) rfl)) rfl dX6_bones_26 ?_
          refine lv_bipush (v := 6) hx hb dX6_bones_29 (by decide) ?_
          refine lv_bipush (v := 6) hx hb dX6_bones_31 (by decide) ?_
          refine lv_iload_n hx hb dX6_bones_33 rfl (lv_at hl 1 rfl) ?_
          refine lv_imul hx hb dX6_bones_34 ?_
          refine lv_topi (fun v11 ev11 => ?_)
          have dv11 : dkN [(0, 24)] v11 := by rw [ev11]; exact dkN_mulL 6 (by decide) (dkN_lit (x := 6) (6) rfl) d3 rfl
          refine lv_iadd hx hb dX6_bones_35 ?_
          refine lv_topi (fun v12 ev12 => ?_)
          have dv12 : dkN [(6, 30)] v12 := by rw [ev12]; exact dkN_add (dkN_lit (x := 6) (6) rfl) dv11 rfl
          refine lv_iconst (v := 3) hx hb dX6_bones_36 (by decide) ?_
          refine lv_iadd hx hb dX6_bones_37 ?_
          refine lv_topi (fun v13 ev13 => ?_)
          have dv13 : dkN [(9, 33)] v13 := by rw [ev13]; exact dkN_add dv12 (dkN_lit (x := 3) (3) rfl) rfl
          refine dk_ild (k := 346) hx hb hK (dk_at346 hW) (dkN_in (n := 54) dv13 rfl) dX6_bones_38 ?_
          refine lv_topi (fun v14 ev14 => ?_)
          refine lv_istore_n (lv' := [(3, .int v14), (0, .ref (z + 340)), (1, .int p0), (2, .int p1)]) hx hb dX6_bones_39 rfl hl (by decide) rfl (fun ls hl => ?_)
          refine lv_aload_n hx hb dX6_bones_40 rfl (lv_at hl 1 rfl) ?_
          refine dk_get (k := 340) hx hb hts iX6_bones_6 hown hK (dk_at340 hW) rfl 13 (by decide) (hts (.fieldLink RX6 25 "DogKingsModel" "now" "[I") (List.mem_of_getElem? (i := 2) rfl)) rfl dX6_bones_41 ?_
          refine lv_bipush (v := 6) hx hb dX6_bones_44 (by decide) ?_
          refine lv_bipush (v := 6) hx hb dX6_bones_46 (by decide) ?_
          refine lv_iload_n hx hb dX6_bones_48 rfl (lv_at hl 2 rfl) ?_
          refine lv_imul hx hb dX6_bones_49 ?_
          refine lv_topi (fun v15 ev15 => ?_)
          have dv15 : dkN [(0, 24)] v15 := by rw [ev15]; exact dkN_mulL 6 (by decide) (dkN_lit (x := 6) (6) rfl) d3 rfl
          refine lv_iadd hx hb dX6_bones_50 ?_
          refine lv_topi (fun v16 ev16 => ?_)
          have dv16 : dkN [(6, 30)] v16 := by rw [ev16]; exact dkN_add (dkN_lit (x := 6) (6) rfl) dv15 rfl
          refine lv_iconst (v := 3) hx hb dX6_bones_51 (by decide) ?_
          refine lv_iadd hx hb dX6_bones_52 ?_
          refine lv_topi (fun v17 ev17 => ?_)
          have dv17 : dkN [(9, 33)] v17 := by rw [ev17]; exact dkN_add dv16 (dkN_lit (x := 3) (3) rfl) rfl
          refine lv_iload_n hx hb dX6_bones_53 rfl (lv_at hl 3 rfl) ?_
          refine dk_ist (k := 346) hx hb hK hW (fun _ => rfl) (by decide) hS (dkN_in (n := 54) dv17 rfl) dX6_bones_54 (fun I18 H18 L18 eI18 hW hS => ?_)
          have hO := dkO_set hO eI18 (by rw [dkB_w (k := 346) (B := [(-2147483648, 2147483647)]) (by decide) dv17 rfl]; exact dkN_top _)
          have hF := dkF_set hF eI18 (dkIn_v dv17 rfl)
          have hP := dkPP_set hP eI18 (dkPPb_v dv17 rfl)
          refine lv_iload_n hx hb dX6_bones_55 rfl (lv_at hl 0 rfl) ?_
          exact W.iret (v := v14) hx hb hr (fun t ht hW9 => ⟨⟨v14, I18, rfl, ⟨hF, hO, hP, ⟨trivial, trivial⟩⟩, dkW_eq ht hW⟩, hS.F ht⟩) hS.2.2 dX6_bones_56
        ·
          exact (dkN_nil (show dkN [] v5 from dkN_eq1 dv5 (dkN_lit (x := 0) (0) rfl) (congrArg Int32.toInt c9) rfl)).elim
set_option maxHeartbeats 4000000 in
set_option maxRecDepth 100000 in
theorem c_X6_walk_0 (l : Launch) (g : dkG) (z : Nat) (I0 : dkI) (p0 : Int32) (p1 : Int32)  (hO : dkOk I0) (hP : dkPP I0) : Met l yX6_walk wsX6_walk (dkR 2) (dkPc g z [.ref (z + 340), .int p0, .int p1] I0) (dkQi g z (fun r I1 => dkF [(340, 340, 17, 17), (346, 346, 8, 32), (349, 349, 0, 1295)] I0 I1 ∧ dkOk I1 ∧ dkPP I1 ∧ ((True ∧ True)))) 0 0 (dkA z) := by
  refine Met.ofW (cc := cX6_walk) (maxL := 4) (ret := (some .int)) (by decide) rfl ?_
  intro p e s m args below meth c s₁ B hml hv
  obtain ⟨ha, hW, hK, hT⟩ := hv
  have hx := B.exec
  have hb := B.bytes
  have hr := B.returns
  have hts := atoms_spec (ws := wsX6_walk) B.pre
  have hown : s.vm.findClass RX6 = some m.cls := findClass_of_methodNamed B.named
  have hlocks := B.notSynchronized
  have hS : va_S (dkA z) s.heap s.heap [] := va_S.rf
  have hF : dkF [(340, 340, 17, 17), (346, 346, 8, 32), (349, 349, 0, 1295)] I0 I0 := dkF_rf _ _
  have hl := lv_entry ([.ref (z + 340), .int p0, .int p1]) (n := 4) (Nat.le_of_ble_eq_true rfl)
  have hgo : entryFrame m args 4 = entryFrame m ([.ref (z + 340), .int p0, .int p1] : List Value).toArray 4 := by rw [ha]
  rw [hgo, lg_entry_eq]
  generalize (lg_sl ([.ref (z + 340), .int p0, .int p1]) ++ List.replicate (4 - (lg_sl ([.ref (z + 340), .int p0, .int p1])).length) Slot.unset).toArray = ls at hl ⊢
  have hl : lv_has ls 4 [(0, .ref (z + 340)), (1, .int p0), (2, .int p1)] := hl
  refine lv_aload_n hx hb dX6_walk_0 rfl (lv_at hl 0 rfl) ?_
  refine lv_iload_n hx hb dX6_walk_1 rfl (lv_at hl 1 rfl) ?_
  refine dk_Vi (As := [.int p0]) (rest := []) ⟨hx, hb, hml, hown, hts⟩ (c_X6_isPerson_0 l g z I0 p0 hO) (cwV 1 hts gX6_walk_X6_isPerson rfl rfl rfl (by decide +kernel) ⟨Nat.le_of_ble_eq_true rfl, Nat.le_of_ble_eq_true rfl⟩) (dk_at340 hW) rfl hK hT hW hS rfl hl.1 rfl (Nat.le_of_ble_eq_true rfl) dX6_walk_2 ⟨Nat.zero_le _, Nat.zero_le _⟩ (fun v1 I1 H1 L1 hp1 hW hS => ?_)
  obtain ⟨hF1, hO, hc1⟩ := hp1
  have hF := dkF_call hF hF1 rfl
  have hP := dkPP_F hP hF1 rfl
  rcases hc1 with ⟨dv1, -⟩ | hc1
  ·
    refine lv_if_eq (tgt := 17) hx hb dX6_walk_5 (by decide) (fun c2 => ?_) (fun c2 => ?_)
    ·
      refine lv_ldc (v := (-1000001)) hx hb hown (hts (.constant RX6 64 (-1000001)) (List.mem_of_getElem? (i := 1) rfl)) dX6_walk_17 ?_
      exact W.iret (v := (-1000001)) hx hb hr (fun t ht hW9 => ⟨⟨(-1000001), I1, rfl, ⟨hF, hO, hP, ⟨trivial, trivial⟩⟩, dkW_eq ht hW⟩, hS.F ht⟩) hS.2.2 dX6_walk_19
    ·
      exact (dkN_nil (show dkN [] v1 from dkN_ne1 (0) dv1 (dkN_lit (x := 0) (0) rfl) (dk_ne c2) rfl)).elim
  ·
    obtain ⟨dv1, a1_0, -⟩ := hc1
    have d3 : dkN [(0, 4)] p0 := dkN_eq1 (dkN_top p0) a1_0 rfl rfl
    refine lv_if_eq (tgt := 17) hx hb dX6_walk_5 (by decide) (fun c4 => ?_) (fun c4 => ?_)
    ·
      exact (dkN_nil (show dkN [] v1 from dkN_eq1 dv1 (dkN_lit (x := 0) (0) rfl) (congrArg Int32.toInt c4) rfl)).elim
    ·
      refine lv_iload_n hx hb dX6_walk_8 rfl (lv_at hl 2 rfl) ?_
      refine lv_iconst (v := 0) hx hb dX6_walk_9 (by decide) ?_
      refine lv_iconst (v := 2) hx hb dX6_walk_10 (by decide) ?_
      refine dk_Si (As := [.int p1, .int 0, .int 2]) (rest := []) ⟨hx, hb, hml, hown, hts⟩ (c_X6_in_1 l g z I1 p1 0 2 (dkN_lit (x := 0) (0) rfl) (dkN_lit (x := 2) (2) rfl) hO) (va_cwS 3 hts gX6_walk_X6_in rfl rfl rfl (by decide +kernel) ⟨Nat.le_of_ble_eq_true rfl, Nat.le_of_ble_eq_true rfl⟩) hK hT hW hS rfl hl.1 rfl (Nat.le_of_ble_eq_true rfl) dX6_walk_11 ⟨Nat.zero_le _, Nat.zero_le _⟩ (fun v5 I5 H5 L5 hp5 hW hS => ?_)
      obtain ⟨hF5, hO, hc5⟩ := hp5
      have hF := dkF_call hF hF5 rfl
      have hP := dkPP_F hP hF5 rfl
      rcases hc5 with ⟨dv5, a5_0, -⟩ | hc5
      ·
        have d6 : dkN [(-2147483648, -1), (3, 2147483647)] p1 := dkN_eq1 (dkN_top p1) a5_0 rfl rfl
        refine lv_if_ne (tgt := 20) hx hb dX6_walk_14 (by decide) (fun c7 => ?_) (fun c7 => ?_)
        ·
          exact (dkN_nil (show dkN [] v5 from dkN_ne1 (0) dv5 (dkN_lit (x := 0) (0) rfl) (dk_ne c7) rfl)).elim
        ·
          refine lv_ldc (v := (-1000001)) hx hb hown (hts (.constant RX6 64 (-1000001)) (List.mem_of_getElem? (i := 1) rfl)) dX6_walk_17 ?_
          exact W.iret (v := (-1000001)) hx hb hr (fun t ht hW9 => ⟨⟨(-1000001), I5, rfl, ⟨hF, hO, hP, ⟨trivial, trivial⟩⟩, dkW_eq ht hW⟩, hS.F ht⟩) hS.2.2 dX6_walk_19
      ·
        obtain ⟨dv5, a5_0, -⟩ := hc5
        have d8 : dkN [(0, 2)] p1 := dkN_eq1 (dkN_top p1) a5_0 rfl rfl
        refine lv_if_ne (tgt := 20) hx hb dX6_walk_14 (by decide) (fun c9 => ?_) (fun c9 => ?_)
        ·
          refine lv_aload_n hx hb dX6_walk_20 rfl (lv_at hl 0 rfl) ?_
          refine dk_Vv (As := []) (rest := []) ⟨hx, hb, hml, hown, hts⟩ (c_X6_notes l g z I5 hO hP) (cwV 0 hts gX6_walk_X6_notes rfl rfl rfl (by decide +kernel) ⟨Nat.le_of_ble_eq_true rfl, Nat.le_of_ble_eq_true rfl⟩) (dk_at340 hW) rfl hK hT hW hS rfl hl.1 rfl (Nat.le_of_ble_eq_true rfl) dX6_walk_21 ⟨Nat.zero_le _, Nat.zero_le _⟩ (fun I10 H10 L10 hp10 hW hS => ?_)
          obtain ⟨hF10, hO, hP, hc10⟩ := hp10
          have hF := dkF_call hF hF10 rfl
          obtain ⟨f10_340_17, -⟩ := hc10
          refine lv_aload_n hx hb dX6_walk_24 rfl (lv_at hl 0 rfl) ?_
          refine dk_get (k := 340) hx hb hts iX6_walk_6 hown hK (dk_at340 hW) rfl 13 (by decide) (hts (.fieldLink RX6 25 "DogKingsModel" "now" "[I") (List.mem_of_getElem? (i := 2) rfl)) rfl dX6_walk_25 ?_
          refine lv_bipush (v := 6) hx hb dX6_walk_28 (by decide) ?_
          refine lv_bipush (v := 6) hx hb dX6_walk_30 (by decide) ?_
          refine lv_iload_n hx hb dX6_walk_32 rfl (lv_at hl 1 rfl) ?_
          refine lv_imul hx hb dX6_walk_33 ?_
          refine lv_topi (fun v11 ev11 => ?_)
          have dv11 : dkN [(0, 24)] v11 := by rw [ev11]; exact dkN_mulL 6 (by decide) (dkN_lit (x := 6) (6) rfl) d3 rfl
          refine lv_iadd hx hb dX6_walk_34 ?_
          refine lv_topi (fun v12 ev12 => ?_)
          have dv12 : dkN [(6, 30)] v12 := by rw [ev12]; exact dkN_add (dkN_lit (x := 6) (6) rfl) dv11 rfl
          refine lv_iconst (v := 2) hx hb dX6_walk_35 (by decide) ?_
          refine lv_iadd hx hb dX6_walk_36 ?_
          refine lv_topi (fun v13 ev13 => ?_)
          have dv13 : dkN [(8, 32)] v13 := by rw [ev13]; exact dkN_add dv12 (dkN_lit (x := 2) (2) rfl) rfl
          refine dk_ild (k := 346) hx hb hK (dk_at346 hW) (dkN_in (n := 54) dv13 rfl) dX6_walk_37 ?_
          refine lv_topi (fun v14 ev14 => ?_)
          refine lv_istore_n (lv' := [(3, .int v14), (0, .ref (z + 340)), (1, .int p0), (2, .int p1)]) hx hb dX6_walk_38 rfl hl (by decide) rfl (fun ls hl => ?_)
          refine lv_aload_n hx hb dX6_walk_39 rfl (lv_at hl 1 rfl) ?_
          refine dk_get (k := 340) hx hb hts iX6_walk_6 hown hK (dk_at340 hW) rfl 13 (by decide) (hts (.fieldLink RX6 25 "DogKingsModel" "now" "[I") (List.mem_of_getElem? (i := 2) rfl)) rfl dX6_walk_40 ?_
          refine lv_bipush (v := 6) hx hb dX6_walk_43 (by decide) ?_
          refine lv_bipush (v := 6) hx hb dX6_walk_45 (by decide) ?_
          refine lv_iload_n hx hb dX6_walk_47 rfl (lv_at hl 2 rfl) ?_
          refine lv_imul hx hb dX6_walk_48 ?_
          refine lv_topi (fun v15 ev15 => ?_)
          have dv15 : dkN [(0, 24)] v15 := by rw [ev15]; exact dkN_mulL 6 (by decide) (dkN_lit (x := 6) (6) rfl) d3 rfl
          refine lv_iadd hx hb dX6_walk_49 ?_
          refine lv_topi (fun v16 ev16 => ?_)
          have dv16 : dkN [(6, 30)] v16 := by rw [ev16]; exact dkN_add (dkN_lit (x := 6) (6) rfl) dv15 rfl
          refine lv_iconst (v := 2) hx hb dX6_walk_50 (by decide) ?_
          refine lv_iadd hx hb dX6_walk_51 ?_
          refine lv_topi (fun v17 ev17 => ?_)
          have dv17 : dkN [(8, 32)] v17 := by rw [ev17]; exact dkN_add dv16 (dkN_lit (x := 2) (2) rfl) rfl
          refine lv_iload_n hx hb dX6_walk_52 rfl (lv_at hl 3 rfl) ?_
          refine dk_ist (k := 346) hx hb hK hW (fun _ => rfl) (by decide) hS (dkN_in (n := 54) dv17 rfl) dX6_walk_53 (fun I18 H18 L18 eI18 hW hS => ?_)
          have hO := dkO_set hO eI18 (by rw [dkB_w (k := 346) (B := [(-2147483648, 2147483647)]) (by decide) dv17 rfl]; exact dkN_top _)
          have hF := dkF_set hF eI18 (dkIn_v dv17 rfl)
          have hP := dkPP_set hP eI18 (dkPPb_v dv17 rfl)
          refine lv_iload_n hx hb dX6_walk_54 rfl (lv_at hl 0 rfl) ?_
          exact W.iret (v := v14) hx hb hr (fun t ht hW9 => ⟨⟨v14, I18, rfl, ⟨hF, hO, hP, ⟨trivial, trivial⟩⟩, dkW_eq ht hW⟩, hS.F ht⟩) hS.2.2 dX6_walk_55
        ·
          exact (dkN_nil (show dkN [] v5 from dkN_eq1 dv5 (dkN_lit (x := 0) (0) rfl) (congrArg Int32.toInt c9) rfl)).elim
set_option maxHeartbeats 4000000 in
set_option maxRecDepth 100000 in
theorem c_X5_isDog_0 (l : Launch) (g : dkG) (z : Nat) (I0 : dkI) (p0 : Int32)  (hO : dkOk I0) : Met l yX5_isDog wsX5_isDog (dkR 0) (dkPc g z [.ref (z + 0), .int p0] I0) (dkQi g z (fun r I1 => dkF [] I0 I1 ∧ dkOk I1 ∧ ((dkN [(0, 0)] r ∧ True) ∨ (dkN [(1, 1)] r ∧ dkN [(0, 5)] p0 ∧ dkN [(1, 6)] (I1 25 11) ∧ True)))) 0 0 (dkA z) := by
  refine Met.ofW (cc := cX5_isDog) (maxL := 2) (ret := (some .boolean)) (by decide) rfl ?_
  intro p e s m args below meth c s₁ B hml hv
  obtain ⟨ha, hW, hK, hT⟩ := hv
  have hx := B.exec
  have hb := B.bytes
  have hr := B.returns
  have hts := atoms_spec (ws := wsX5_isDog) B.pre
  have hown : s.vm.findClass RX5 = some m.cls := findClass_of_methodNamed B.named
  have hlocks := B.notSynchronized
  have hS : va_S (dkA z) s.heap s.heap [] := va_S.rf
  have hF : dkF [] I0 I0 := dkF_rf _ _
  have hl := lv_entry ([.ref (z + 0), .int p0]) (n := 2) (Nat.le_of_ble_eq_true rfl)
  have hgo : entryFrame m args 2 = entryFrame m ([.ref (z + 0), .int p0] : List Value).toArray 2 := by rw [ha]
  rw [hgo, lg_entry_eq]
  generalize (lg_sl ([.ref (z + 0), .int p0]) ++ List.replicate (2 - (lg_sl ([.ref (z + 0), .int p0])).length) Slot.unset).toArray = ls at hl ⊢
  have hl : lv_has ls 2 [(0, .ref (z + 0)), (1, .int p0)] := hl
  refine lv_iload_n hx hb dX5_isDog_0 rfl (lv_at hl 1 rfl) ?_
  refine lv_if_lt (tgt := 19) hx hb dX5_isDog_1 (by decide) (fun c1 => ?_) (fun c1 => ?_)
  ·
    have d2 : dkN [(-2147483648, -1)] p0 := dkN_le1 1 (dkN_top p0) (dkN_lit (x := 0) (0) rfl) (dkc_lt c1) rfl
    refine lv_iconst (v := 0) hx hb dX5_isDog_19 (by decide) ?_
    exact W.zret (v := 0) (ty := .boolean) hx hb hr rfl (fun t ht hW9 => ⟨⟨0, I0, rfl, ⟨hF, hO, Or.inl ⟨dkN_sub (dkN_lit (x := 0) (0) rfl) rfl, trivial⟩⟩, dkW_eq ht hW⟩, hS.F ht⟩) hS.2.2 dX5_isDog_20
  ·
    have d3 : dkN [(0, 2147483647)] p0 := dkN_le2 0 (dkN_lit (x := 0) (0) rfl) (dkN_top p0) (dkc_nlt c1) rfl
    refine lv_iload_n hx hb dX5_isDog_4 rfl (lv_at hl 1 rfl) ?_
    refine lv_aload_n hx hb dX5_isDog_5 rfl (lv_at hl 0 rfl) ?_
    refine dk_get (k := 0) hx hb hts iX5_isDog_5 hown hK (dk_at0 hW) rfl 5 (by decide) (hts (.fieldLink RX5 31 "DogKings" "now" "LDogKings$Town;") (List.mem_of_getElem? (i := 1) rfl)) rfl dX5_isDog_6 ?_
    refine dk_get (k := 25) hx hb hts iX5_isDog_4 hown hK (dk_at25 hW) rfl 11 (by decide) (hts (.fieldLink RX5 120 "DogKings$Town" "dogs" "I") (List.mem_of_getElem? (i := 2) rfl)) rfl dX5_isDog_9 ?_
    refine lv_topi (fun v4 ev4 => ?_)
    have dv4 : dkN [(0, 6)] v4 := by rw [ev4]; exact (hO 25 11)
    refine lv_icmp_ge (tgt := 19) hx hb dX5_isDog_12 (by decide) (fun c5 => ?_) (fun c5 => ?_)
    ·
      refine lv_iconst (v := 0) hx hb dX5_isDog_19 (by decide) ?_
      exact W.zret (v := 0) (ty := .boolean) hx hb hr rfl (fun t ht hW9 => ⟨⟨0, I0, rfl, ⟨hF, hO, Or.inl ⟨dkN_sub (dkN_lit (x := 0) (0) rfl) rfl, trivial⟩⟩, dkW_eq ht hW⟩, hS.F ht⟩) hS.2.2 dX5_isDog_20
    ·
      have d6 : dkN [(1, 6)] v4 := dkN_le2 1 d3 dv4 (dkc_nle c5) rfl
      have f7 : dkN [(1, 6)] (I0 25 11) := by rw [← ev4]; exact d6
      have d8 : dkN [(0, 5)] p0 := dkN_le1 1 d3 dv4 (dkc_nle c5) rfl
      refine lv_iconst (v := 1) hx hb dX5_isDog_15 (by decide) ?_
      refine lv_goto (tgt := 20) hx hb dX5_isDog_16 (by decide) ?_
      exact W.zret (v := 1) (ty := .boolean) hx hb hr rfl (fun t ht hW9 => ⟨⟨1, I0, rfl, ⟨hF, hO, Or.inr (⟨dkN_sub (dkN_lit (x := 1) (1) rfl) rfl, dkN_sub d8 rfl, (show dkN [(1, 6)] (I0 25 11) from dkN_sub f7 rfl), trivial⟩)⟩, dkW_eq ht hW⟩, hS.F ht⟩) hS.2.2 dX5_isDog_20
set_option maxHeartbeats 4000000 in
set_option maxRecDepth 100000 in
theorem c_X5_isPlace_0 (l : Launch) (g : dkG) (z : Nat) (I0 : dkI) (p0 : Int32)  (hO : dkOk I0) : Met l yX5_isPlace wsX5_isPlace (dkR 0) (dkPc g z [.ref (z + 0), .int p0] I0) (dkQi g z (fun r I1 => dkF [] I0 I1 ∧ dkOk I1 ∧ ((dkN [(0, 0)] r ∧ True) ∨ (dkN [(1, 1)] r ∧ dkN [(0, 8)] p0 ∧ dkN [(1, 9)] (I1 25 0) ∧ True)))) 0 0 (dkA z) := by
  refine Met.ofW (cc := cX5_isPlace) (maxL := 2) (ret := (some .boolean)) (by decide) rfl ?_
  intro p e s m args below meth c s₁ B hml hv
  obtain ⟨ha, hW, hK, hT⟩ := hv
  have hx := B.exec
  have hb := B.bytes
  have hr := B.returns
  have hts := atoms_spec (ws := wsX5_isPlace) B.pre
  have hown : s.vm.findClass RX5 = some m.cls := findClass_of_methodNamed B.named
  have hlocks := B.notSynchronized
  have hS : va_S (dkA z) s.heap s.heap [] := va_S.rf
  have hF : dkF [] I0 I0 := dkF_rf _ _
  have hl := lv_entry ([.ref (z + 0), .int p0]) (n := 2) (Nat.le_of_ble_eq_true rfl)
  have hgo : entryFrame m args 2 = entryFrame m ([.ref (z + 0), .int p0] : List Value).toArray 2 := by rw [ha]
  rw [hgo, lg_entry_eq]
  generalize (lg_sl ([.ref (z + 0), .int p0]) ++ List.replicate (2 - (lg_sl ([.ref (z + 0), .int p0])).length) Slot.unset).toArray = ls at hl ⊢
  have hl : lv_has ls 2 [(0, .ref (z + 0)), (1, .int p0)] := hl
  refine lv_iload_n hx hb dX5_isPlace_0 rfl (lv_at hl 1 rfl) ?_
  refine lv_if_lt (tgt := 19) hx hb dX5_isPlace_1 (by decide) (fun c1 => ?_) (fun c1 => ?_)
  ·
    have d2 : dkN [(-2147483648, -1)] p0 := dkN_le1 1 (dkN_top p0) (dkN_lit (x := 0) (0) rfl) (dkc_lt c1) rfl
    refine lv_iconst (v := 0) hx hb dX5_isPlace_19 (by decide) ?_
    exact W.zret (v := 0) (ty := .boolean) hx hb hr rfl (fun t ht hW9 => ⟨⟨0, I0, rfl, ⟨hF, hO, Or.inl ⟨dkN_sub (dkN_lit (x := 0) (0) rfl) rfl, trivial⟩⟩, dkW_eq ht hW⟩, hS.F ht⟩) hS.2.2 dX5_isPlace_20
  ·
    have d3 : dkN [(0, 2147483647)] p0 := dkN_le2 0 (dkN_lit (x := 0) (0) rfl) (dkN_top p0) (dkc_nlt c1) rfl
    refine lv_iload_n hx hb dX5_isPlace_4 rfl (lv_at hl 1 rfl) ?_
    refine lv_aload_n hx hb dX5_isPlace_5 rfl (lv_at hl 0 rfl) ?_
    refine dk_get (k := 0) hx hb hts iX5_isPlace_5 hown hK (dk_at0 hW) rfl 5 (by decide) (hts (.fieldLink RX5 31 "DogKings" "now" "LDogKings$Town;") (List.mem_of_getElem? (i := 1) rfl)) rfl dX5_isPlace_6 ?_
    refine dk_get (k := 25) hx hb hts iX5_isPlace_4 hown hK (dk_at25 hW) rfl 0 (by decide) (hts (.fieldLink RX5 274 "DogKings$Town" "places" "I") (List.mem_of_getElem? (i := 2) rfl)) rfl dX5_isPlace_9 ?_
    refine lv_topi (fun v4 ev4 => ?_)
    have dv4 : dkN [(0, 9)] v4 := by rw [ev4]; exact (hO 25 0)
    refine lv_icmp_ge (tgt := 19) hx hb dX5_isPlace_12 (by decide) (fun c5 => ?_) (fun c5 => ?_)
    ·
      refine lv_iconst (v := 0) hx hb dX5_isPlace_19 (by decide) ?_
      exact W.zret (v := 0) (ty := .boolean) hx hb hr rfl (fun t ht hW9 => ⟨⟨0, I0, rfl, ⟨hF, hO, Or.inl ⟨dkN_sub (dkN_lit (x := 0) (0) rfl) rfl, trivial⟩⟩, dkW_eq ht hW⟩, hS.F ht⟩) hS.2.2 dX5_isPlace_20
    ·
      have d6 : dkN [(1, 9)] v4 := dkN_le2 1 d3 dv4 (dkc_nle c5) rfl
      have f7 : dkN [(1, 9)] (I0 25 0) := by rw [← ev4]; exact d6
      have d8 : dkN [(0, 8)] p0 := dkN_le1 1 d3 dv4 (dkc_nle c5) rfl
      refine lv_iconst (v := 1) hx hb dX5_isPlace_15 (by decide) ?_
      refine lv_goto (tgt := 20) hx hb dX5_isPlace_16 (by decide) ?_
      exact W.zret (v := 1) (ty := .boolean) hx hb hr rfl (fun t ht hW9 => ⟨⟨1, I0, rfl, ⟨hF, hO, Or.inr (⟨dkN_sub (dkN_lit (x := 1) (1) rfl) rfl, dkN_sub d8 rfl, (show dkN [(1, 9)] (I0 25 0) from dkN_sub f7 rfl), trivial⟩)⟩, dkW_eq ht hW⟩, hS.F ht⟩) hS.2.2 dX5_isPlace_20
set_option maxHeartbeats 4000000 in
set_option maxRecDepth 100000 in
theorem c_X6_in_13 (l : Launch) (g : dkG) (z : Nat) (I0 : dkI) (p0 : Int32) (p1 : Int32) (p2 : Int32) (dp1 : dkN [(0, 0)] p1) (dp2 : dkN [(-1, 5)] p2)  (hO : dkOk I0) : Met l yX6_in wsX6_in (dkR 0) (dkPc g z [.int p0, .int p1, .int p2] I0) (dkQi g z (fun r I1 => dkF [] I0 I1 ∧ dkOk I1 ∧ ((dkN [(0, 0)] r ∧ True) ∨ (dkN [(1, 1)] r ∧ dkN [(0, 5)] p0 ∧ dkN [(0, 5)] p2 ∧ True)))) 0 0 (dkA z) := by
  refine Met.ofW (cc := cX6_in) (maxL := 3) (ret := (some .boolean)) (by decide) rfl ?_
  intro p e s m args below meth c s₁ B hml hv
  obtain ⟨ha, hW, hK, hT⟩ := hv
  have hx := B.exec
  have hb := B.bytes
  have hr := B.returns
  have hts := atoms_spec (ws := wsX6_in) B.pre
  have hown : s.vm.findClass RX6 = some m.cls := findClass_of_methodNamed B.named
  have hlocks := B.notSynchronized
  have hS : va_S (dkA z) s.heap s.heap [] := va_S.rf
  have hF : dkF [] I0 I0 := dkF_rf _ _
  have hl := lv_entry ([.int p0, .int p1, .int p2]) (n := 3) (Nat.le_of_ble_eq_true rfl)
  have hgo : entryFrame m args 3 = entryFrame m ([.int p0, .int p1, .int p2] : List Value).toArray 3 := by rw [ha]
  rw [hgo, lg_entry_eq]
  generalize (lg_sl ([.int p0, .int p1, .int p2]) ++ List.replicate (3 - (lg_sl ([.int p0, .int p1, .int p2])).length) Slot.unset).toArray = ls at hl ⊢
  have hl : lv_has ls 3 [(0, .int p0), (1, .int p1), (2, .int p2)] := hl
  refine lv_iload_n hx hb dX6_in_0 rfl (lv_at hl 0 rfl) ?_
  refine lv_iload_n hx hb dX6_in_1 rfl (lv_at hl 1 rfl) ?_
  refine lv_icmp_lt (tgt := 14) hx hb dX6_in_2 (by decide) (fun c1 => ?_) (fun c1 => ?_)
  ·
    have d2 : dkN [(-2147483648, -1)] p0 := dkN_le1 1 (dkN_top p0) dp1 (dkc_lt c1) rfl
    refine lv_iconst (v := 0) hx hb dX6_in_14 (by decide) ?_
    exact W.zret (v := 0) (ty := .boolean) hx hb hr rfl (fun t ht hW9 => ⟨⟨0, I0, rfl, ⟨hF, hO, Or.inl ⟨dkN_sub (dkN_lit (x := 0) (0) rfl) rfl, trivial⟩⟩, dkW_eq ht hW⟩, hS.F ht⟩) hS.2.2 dX6_in_15
  ·
    have d3 : dkN [(0, 2147483647)] p0 := dkN_le2 0 dp1 (dkN_top p0) (dkc_nlt c1) rfl
    refine lv_iload_n hx hb dX6_in_5 rfl (lv_at hl 0 rfl) ?_
    refine lv_iload_n hx hb dX6_in_6 rfl (lv_at hl 2 rfl) ?_
    refine lv_icmp_gt (tgt := 14) hx hb dX6_in_7 (by decide) (fun c4 => ?_) (fun c4 => ?_)
    ·
      refine lv_iconst (v := 0) hx hb dX6_in_14 (by decide) ?_
      exact W.zret (v := 0) (ty := .boolean) hx hb hr rfl (fun t ht hW9 => ⟨⟨0, I0, rfl, ⟨hF, hO, Or.inl ⟨dkN_sub (dkN_lit (x := 0) (0) rfl) rfl, trivial⟩⟩, dkW_eq ht hW⟩, hS.F ht⟩) hS.2.2 dX6_in_15
    ·
      have d5 : dkN [(0, 5)] p2 := dkN_le2 0 d3 dp2 (dkc_nlt c4) rfl
      have d6 : dkN [(0, 5)] p0 := dkN_le1 0 d3 dp2 (dkc_nlt c4) rfl
      refine lv_iconst (v := 1) hx hb dX6_in_10 (by decide) ?_
      refine lv_goto (tgt := 15) hx hb dX6_in_11 (by decide) ?_
      exact W.zret (v := 1) (ty := .boolean) hx hb hr rfl (fun t ht hW9 => ⟨⟨1, I0, rfl, ⟨hF, hO, Or.inr (⟨dkN_sub (dkN_lit (x := 1) (1) rfl) rfl, dkN_sub d6 rfl, dkN_sub d5 rfl, trivial⟩)⟩, dkW_eq ht hW⟩, hS.F ht⟩) hS.2.2 dX6_in_15
