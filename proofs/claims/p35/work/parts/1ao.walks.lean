set_option maxHeartbeats 4000000 in
set_option maxRecDepth 100000 in
theorem c_X3_drawYears_0 (l : Launch) (g : dkG) (z : Nat) (I0 : dkI) (p0 : Int32) (p1 : Int32) (dp0 : dkN [(0, 9)] p0) (dp1 : dkN [(1, 999999)] p1)  (hO : dkOk I0) : Met l yX3_drawYears wsX3_drawYears (dkR 5) (dkPc g z [.ref (z + 325), .int p0, .int p1] I0) (dkQv g z (fun I1 => dkF [(325, 325, 2, 2), (326, 326, 0, 4), (326, 326, 11, 11), (326, 326, 15, 17), (327, 327, 0, 4), (328, 328, 0, 4), (329, 329, 0, 4), (330, 330, 0, 4), (331, 331, 0, 4), (332, 332, 0, 4), (333, 333, 0, 5), (334, 334, 0, 5), (335, 335, 0, 5), (336, 336, 0, 8), (337, 337, 0, 4)] I0 I1 ∧ dkOk I1 ∧ ((True)))) 0 0 (dkA z) := by
  refine Met.ofW (cc := cX3_drawYears) (maxL := 7) (ret := none) (by decide) rfl ?_
  intro p e s m args below meth c s₁ B hml hv
  obtain ⟨ha, hW, hK, hT⟩ := hv
  have hx := B.exec
  have hb := B.bytes
  have hr := B.returns
  have hts := atoms_spec (ws := wsX3_drawYears) B.pre
  have hown : s.vm.findClass RX3 = some m.cls := findClass_of_methodNamed B.named
  have hlocks := B.notSynchronized
  have hS : va_S (dkA z) s.heap s.heap [] := va_S.rf
  have hF : dkF [(325, 325, 2, 2), (326, 326, 0, 4), (326, 326, 11, 11), (326, 326, 15, 17), (327, 327, 0, 4), (328, 328, 0, 4), (329, 329, 0, 4), (330, 330, 0, 4), (331, 331, 0, 4), (332, 332, 0, 4), (333, 333, 0, 5), (334, 334, 0, 5), (335, 335, 0, 5), (336, 336, 0, 8), (337, 337, 0, 4)] I0 I0 := dkF_rf _ _
  have hl := lv_entry ([.ref (z + 325), .int p0, .int p1]) (n := 7) (Nat.le_of_ble_eq_true rfl)
  have hgo : entryFrame m args 7 = entryFrame m ([.ref (z + 325), .int p0, .int p1] : List Value).toArray 7 := by rw [ha]
  rw [hgo, lg_entry_eq]
  generalize (lg_sl ([.ref (z + 325), .int p0, .int p1]) ++ List.replicate (7 - (lg_sl ([.ref (z + 325), .int p0, .int p1])).length) Slot.unset).toArray = ls at hl ⊢
  have hl : lv_has ls 7 [(0, .ref (z + 325)), (1, .int p0), (2, .int p1)] := hl
  have C42 : ∀ (n : Nat), ∀ (I : dkI) (H : Heap) (locs : List Loc) (ls : Array Slot) (x42_3 : Int64) (x42_5 : Int32), (9 - x42_5.toInt).toNat < n → dkW g z I H → va_S (dkA z) s.heap H locs → dkF [(325, 325, 2, 2), (326, 326, 0, 4), (326, 326, 11, 11), (326, 326, 15, 17), (327, 327, 0, 4), (328, 328, 0, 4), (329, 329, 0, 4), (330, 330, 0, 4), (331, 331, 0, 4), (332, 332, 0, 4), (333, 333, 0, 5), (334, 334, 0, 5), (335, 335, 0, 5), (336, 336, 0, 8), (337, 337, 0, 4)] I0 I → dkOk I → dkL [(0, 2147483646)] x42_3 → dkN [(0, 9)] x42_5 → lv_has ls 7 [(0, .ref (z + 325)), (1, .int p0), (2, .int p1), (3, .long x42_3), (5, .int x42_5)] → W p l e (headSpec wsX3_drawYears (dkR 5)).room s m args below meth c H locs 0 0 (MQ below (dkQv g z (fun I1 => dkF [(325, 325, 2, 2), (326, 326, 0, 4), (326, 326, 11, 11), (326, 326, 15, 17), (327, 327, 0, 4), (328, 328, 0, 4), (329, 329, 0, 4), (330, 330, 0, 4), (331, 331, 0, 4), (332, 332, 0, 4), (333, 333, 0, 5), (334, 334, 0, 5), (335, 335, 0, 5), (336, 336, 0, 8), (337, 337, 0, 4)] I0 I1 ∧ dkOk I1 ∧ ((True)))) args s 0 0 (dkA z)) (F0 m 42 ls []) := by
    intro n
    induction n with
    | zero => intro I H locs ls x42_3 x42_5 hn; exact absurd hn (Nat.not_lt_zero _)
    | succ n ih42 =>
      intro I42_ H locs ls x42_3 x42_5 hn42 hW hS hF_42 hO k42_0 k42_1 hl
      have hF := hF_42
      have C102 : ∀ (I : dkI) (H : Heap) (locs : List Loc) (ls : Array Slot) (x102_3 : Int64) (x102_6 : Int32), dkW g z I H → va_S (dkA z) s.heap H locs → dkF [(325, 325, 2, 2), (326, 326, 0, 4), (326, 326, 11, 11), (326, 326, 15, 17), (327, 327, 0, 4), (328, 328, 0, 4), (329, 329, 0, 4), (330, 330, 0, 4), (331, 331, 0, 4), (332, 332, 0, 4), (333, 333, 0, 5), (334, 334, 0, 5), (335, 335, 0, 5), (336, 336, 0, 8), (337, 337, 0, 4)] I0 I → dkOk I → dkL [(0, 2147483646)] x102_3 → dkN [(-1000000, -1000000), (0, 4)] x102_6 → dkN [(1, 9)] p0 → dkN [(0, 8)] x42_5 → dkN [(0, 0)] (I 326 3) → lv_has ls 7 [(0, .ref (z + 325)), (1, .int p0), (2, .int p1), (3, .long x102_3), (5, .int x42_5), (6, .int x102_6)] → W p l e (headSpec wsX3_drawYears (dkR 5)).room s m args below meth c H locs 0 0 (MQ below (dkQv g z (fun I1 => dkF [(325, 325, 2, 2), (326, 326, 0, 4), (326, 326, 11, 11), (326, 326, 15, 17), (327, 327, 0, 4), (328, 328, 0, 4), (329, 329, 0, 4), (330, 330, 0, 4), (331, 331, 0, 4), (332, 332, 0, 4), (333, 333, 0, 5), (334, 334, 0, 5), (335, 335, 0, 5), (336, 336, 0, 8), (337, 337, 0, 4)] I0 I1 ∧ dkOk I1 ∧ ((True)))) args s 0 0 (dkA z)) (F0 m 102 ls []) := by
        intro I102_ H locs ls x102_3 x102_6 hW hS hF_102 hO k102_0 k102_1 r102_0 r102_1 f102_0 hl
        have hF := hF_102
        obtain ⟨v1, ev1⟩ : ∃ y : Int32, y = x42_5 + 1 := ⟨_, rfl⟩
        have dv1 : dkN [(1, 9)] v1 := by rw [ev1]; exact dkN_add r102_1 (dkN_lit (x := 1) (1) rfl) rfl
        refine lv_iinc (v := v1) (lv' := [(5, .int v1), (0, .ref (z + 325)), (1, .int p0), (2, .int p1), (3, .long x102_3), (6, .int x102_6)]) hx hb dX3_drawYears_102 hl (k := 4) rfl (by rw [ev1]; rfl) (by decide) rfl (fun ls hl => ?_)
        refine lv_goto (tgt := 42) hx hb dX3_drawYears_105 (by decide) ?_
        exact ih42 I102_ _ _ ls x102_3 v1 (dk_near hn42 (by rw [ev1]; exact dk_inc r102_1 rfl) (dkN_lt r102_1 rfl)) hW hS hF hO (dkL_sub k102_0 rfl) (dkN_sub dv1 rfl) (lv_sub hl [1, 2, 3, 4, 0] rfl)
      have C92 : ∀ (I : dkI) (H : Heap) (locs : List Loc) (ls : Array Slot) (x92_3 : Int64) (x92_6 : Int32), dkW g z I H → va_S (dkA z) s.heap H locs → dkF [(325, 325, 2, 2), (326, 326, 0, 4), (326, 326, 11, 11), (326, 326, 15, 17), (327, 327, 0, 4), (328, 328, 0, 4), (329, 329, 0, 4), (330, 330, 0, 4), (331, 331, 0, 4), (332, 332, 0, 4), (333, 333, 0, 5), (334, 334, 0, 5), (335, 335, 0, 5), (336, 336, 0, 8), (337, 337, 0, 4)] I0 I → dkOk I → dkL [(0, 2147483646)] x92_3 → dkN [(-1000000, -1000000)] x92_6 → dkN [(1, 9)] p0 → dkN [(0, 8)] x42_5 → dkN [(0, 0)] (I 326 3) → lv_has ls 7 [(0, .ref (z + 325)), (1, .int p0), (2, .int p1), (3, .long x92_3), (5, .int x42_5), (6, .int x92_6)] → W p l e (headSpec wsX3_drawYears (dkR 5)).room s m args below meth c H locs 0 0 (MQ below (dkQv g z (fun I1 => dkF [(325, 325, 2, 2), (326, 326, 0, 4), (326, 326, 11, 11), (326, 326, 15, 17), (327, 327, 0, 4), (328, 328, 0, 4), (329, 329, 0, 4), (330, 330, 0, 4), (331, 331, 0, 4), (332, 332, 0, 4), (333, 333, 0, 5), (334, 334, 0, 5), (335, 335, 0, 5), (336, 336, 0, 8), (337, 337, 0, 4)] I0 I1 ∧ dkOk I1 ∧ ((True)))) args s 0 0 (dkA z)) (F0 m 92 ls []) := by
        intro I92_ H locs ls x92_3 x92_6 hW hS hF_92 hO k92_0 k92_1 r92_0 r92_1 f92_0 hl
        have hF := hF_92
        refine lv_aload_n hx hb dX3_drawYears_92 rfl (lv_at hl 0 rfl) ?_
        refine lv_dup hx hb dX3_drawYears_93 rfl ?_
        refine dk_get (k := 325) hx hb hts iX3_drawYears_3 hown hK (dk_at325 hW) rfl 2 (by decide) (hts (.fieldLink RX3 135 "DogKings$Seer" "kingless" "I") (List.mem_of_getElem? (i := 1) rfl)) rfl dX3_drawYears_94 ?_
        refine lv_topi (fun v2 ev2 => ?_)
        refine lv_iconst (v := 1) hx hb dX3_drawYears_97 (by decide) ?_
        refine lv_iadd hx hb dX3_drawYears_98 ?_
        refine lv_topi (fun v3 ev3 => ?_)
        refine dk_put (k := 325) hx hb hts iX3_drawYears_3 tyX3 tyX3_ok nmX3 hown hK hW (dk_at325 hW) hS rfl 2 (by decide) (hts (.fieldLink RX3 135 "DogKings$Seer" "kingless" "I") (List.mem_of_getElem? (i := 1) rfl)) rfl rfl (Nat.le_of_ble_eq_true rfl) rfl dX3_drawYears_99 (fun I4 H4 L4 eI4 hW hS => ?_)
        have eI4 : I4 = dkU I92_ 325 2 v3 := eI4
        have hO := dkO_set hO eI4 (dkN_sub (dkN_top v3) rfl)
        have hF := dkF_set hF eI4 rfl
        exact C102 I4 _ _ ls x92_3 x92_6 hW hS hF hO (dkL_sub k92_0 rfl) (dkN_sub k92_1 rfl) (dkN_sub r92_0 rfl) (dkN_sub r92_1 rfl) (show dkN [(0, 0)] (I4 326 3) from dkN_sub (by rw [eI4, dkU_n (by decide)]; exact f92_0) rfl) (lv_sub hl [0, 1, 2, 3, 4, 5] rfl)
      refine lv_iload hx hb dX3_drawYears_42 (lv_at hl 4 rfl) ?_
      refine lv_iload_n hx hb dX3_drawYears_44 rfl (lv_at hl 1 rfl) ?_
      refine lv_icmp_ge (tgt := 108) hx hb dX3_drawYears_45 (by decide) (fun c5 => ?_) (fun c5 => ?_)
      ·
        exact W.vret hx hb hr (fun t ht hW9 => ⟨⟨I42_, rfl, ⟨hF, hO, trivial⟩, dkW_eq ht hW⟩, hS.F ht⟩) hS.2.2 dX3_drawYears_108
      ·
        have d6 : dkN [(1, 9)] p0 := dkN_le2 1 k42_1 dp0 (dkc_nle c5) rfl
        have d7 : dkN [(0, 8)] x42_5 := dkN_le1 1 k42_1 dp0 (dkc_nle c5) rfl
        refine lv_aload_n hx hb dX3_drawYears_48 rfl (lv_at hl 0 rfl) ?_
        refine lv_lload_n hx hb dX3_drawYears_49 rfl (lv_at hl 3 rfl) ?_
        refine dk_Vl (As := [.long x42_3]) (rest := []) ⟨hx, hb, hml, hown, hts⟩ (c_X3_drawFriday_1 l g z I42_ x42_3 (dkL_sub k42_0 rfl) hO) (cwV 1 hts gX3_drawYears_X3_drawFriday rfl rfl rfl (by decide +kernel) ⟨Nat.le_of_ble_eq_true rfl, Nat.le_of_ble_eq_true rfl⟩) (dk_at325 hW) rfl hK hT hW hS rfl hl.1 rfl (Nat.le_of_ble_eq_true rfl) dX3_drawYears_50 ⟨Nat.zero_le _, Nat.zero_le _⟩ (fun v8 I8 H8 L8 hp8 hW hS => ?_)
        obtain ⟨hF8, hO, hc8⟩ := hp8
        have hF := dkF_call hF hF8 rfl
        refine lv_lstore_n (lv' := [(3, .long v8), (0, .ref (z + 325)), (1, .int p0), (2, .int p1), (5, .int x42_5)]) hx hb dX3_drawYears_53 rfl hl (by decide) rfl (fun ls hl => ?_)
        refine lv_aload_n hx hb dX3_drawYears_54 rfl (lv_at hl 1 rfl) ?_
        refine dk_get (k := 325) hx hb hts iX3_drawYears_3 hown hK (dk_at325 hW) rfl 1 (by decide) (hts (.fieldLink RX3 12 "DogKings$Seer" "then" "LDogKings$Town;") (List.mem_of_getElem? (i := 3) rfl)) rfl dX3_drawYears_55 ?_
        refine dk_Vi (As := []) (rest := []) ⟨hx, hb, hml, hown, hts⟩ (c_X4_ring_0 l g z I8 (326) (by unfold dkT; omega) hO) (cwV 0 hts gX3_drawYears_X4_ring rfl rfl rfl (by decide +kernel) ⟨Nat.le_of_ble_eq_true rfl, Nat.le_of_ble_eq_true rfl⟩) (dk_at326 hW) rfl hK hT hW hS rfl hl.1 rfl (Nat.le_of_ble_eq_true rfl) dX3_drawYears_58 ⟨Nat.zero_le _, Nat.zero_le _⟩ (fun v9 I9 H9 L9 hp9 hW hS => ?_)
        obtain ⟨hF9, hO, hc9⟩ := hp9
        have hF := dkF_call hF hF9 rfl
        obtain ⟨dv9, f9_326_3, -⟩ := hc9
        refine lv_istore (lv' := [(6, .int v9), (3, .long v8), (0, .ref (z + 325)), (1, .int p0), (2, .int p1), (5, .int x42_5)]) hx hb dX3_drawYears_61 hl (by decide) rfl (fun ls hl => ?_)
        refine lv_iload hx hb dX3_drawYears_63 (lv_at hl 0 rfl) ?_
        refine lv_if_lt (tgt := 92) hx hb dX3_drawYears_65 (by decide) (fun c10 => ?_) (fun c10 => ?_)
        ·
          have d11 : dkN [(-1000000, -1000000)] v9 := dkN_le1 1 dv9 (dkN_lit (x := 0) (0) rfl) (dkc_lt c10) rfl
          exact C92 I9 _ _ ls v8 v9 hW hS hF hO (dkL_sub hc8.1 rfl) (dkN_sub d11 rfl) (dkN_sub d6 rfl) (dkN_sub d7 rfl) (show dkN [(0, 0)] (I9 326 3) from dkN_sub f9_326_3 rfl) (lv_sub hl [2, 3, 4, 1, 5, 0] rfl)
        ·
          have d12 : dkN [(0, 4)] v9 := dkN_le2 0 (dkN_lit (x := 0) (0) rfl) dv9 (dkc_nlt c10) rfl
          refine lv_iload hx hb dX3_drawYears_68 (lv_at hl 0 rfl) ?_
          refine lv_aload_n hx hb dX3_drawYears_70 rfl (lv_at hl 2 rfl) ?_
          refine dk_get (k := 325) hx hb hts iX3_drawYears_3 hown hK (dk_at325 hW) rfl 3 (by decide) (hts (.fieldLink RX3 18 "DogKings$Seer" "crowns" "[I") (List.mem_of_getElem? (i := 2) rfl)) rfl dX3_drawYears_71 ?_
          refine dk_alen (k := 337) hx hb hK (dk_at337 hW) (v := 5) rfl dX3_drawYears_74 ?_
          refine lv_icmp_ge (tgt := 92) hx hb dX3_drawYears_75 (by decide) (fun c13 => ?_) (fun c13 => ?_)
          ·
            exact (dkN_nil (show dkN [] 5 from dkN_le1 0 (dkN_lit (x := 5) (5) rfl) d12 (dkc_le c13) rfl)).elim
          ·
            refine lv_aload_n hx hb dX3_drawYears_78 rfl (lv_at hl 2 rfl) ?_
            refine dk_get (k := 325) hx hb hts iX3_drawYears_3 hown hK (dk_at325 hW) rfl 3 (by decide) (hts (.fieldLink RX3 18 "DogKings$Seer" "crowns" "[I") (List.mem_of_getElem? (i := 2) rfl)) rfl dX3_drawYears_79 ?_
            refine lv_iload hx hb dX3_drawYears_82 (lv_at hl 0 rfl) ?_
            refine lv_dup2_11 hx hb dX3_drawYears_84 rfl rfl ?_
            refine dk_ild (k := 337) hx hb hK (dk_at337 hW) (dkN_in (n := 5) d12 rfl) dX3_drawYears_85 ?_
            refine lv_topi (fun v14 ev14 => ?_)
            refine lv_iconst (v := 1) hx hb dX3_drawYears_86 (by decide) ?_
            refine lv_iadd hx hb dX3_drawYears_87 ?_
            refine lv_topi (fun v15 ev15 => ?_)
            refine dk_ist (k := 337) hx hb hK hW (fun _ => rfl) (by decide) hS (dkN_in (n := 5) d12 rfl) dX3_drawYears_88 (fun I16 H16 L16 eI16 hW hS => ?_)
            have hO := dkO_set hO eI16 (dkN_sub (dkN_top v15) rfl)
            have hF := dkF_set hF eI16 (dkIn_v d12 rfl)
            refine lv_goto (tgt := 102) hx hb dX3_drawYears_89 (by decide) ?_
            exact C102 I16 _ _ ls v8 v9 hW hS hF hO (dkL_sub hc8.1 rfl) (dkN_sub d12 rfl) (dkN_sub d6 rfl) (dkN_sub d7 rfl) (show dkN [(0, 0)] (I16 326 3) from dkN_sub (by rw [eI16, dkU_n (by decide)]; exact f9_326_3) rfl) (lv_sub hl [2, 3, 4, 1, 5, 0] rfl)
  have C7 : ∀ (n : Nat), ∀ (I : dkI) (H : Heap) (locs : List Loc) (ls : Array Slot) (x7_3 : Int32), (5 - x7_3.toInt).toNat < n → dkW g z I H → va_S (dkA z) s.heap H locs → dkF [(325, 325, 2, 2), (326, 326, 0, 4), (326, 326, 11, 11), (326, 326, 15, 17), (327, 327, 0, 4), (328, 328, 0, 4), (329, 329, 0, 4), (330, 330, 0, 4), (331, 331, 0, 4), (332, 332, 0, 4), (333, 333, 0, 5), (334, 334, 0, 5), (335, 335, 0, 5), (336, 336, 0, 8), (337, 337, 0, 4)] I0 I → dkOk I → dkN [(0, 5)] x7_3 → dkN [(0, 0)] (I 325 2) → lv_has ls 7 [(0, .ref (z + 325)), (1, .int p0), (2, .int p1), (3, .int x7_3)] → W p l e (headSpec wsX3_drawYears (dkR 5)).room s m args below meth c H locs 0 0 (MQ below (dkQv g z (fun I1 => dkF [(325, 325, 2, 2), (326, 326, 0, 4), (326, 326, 11, 11), (326, 326, 15, 17), (327, 327, 0, 4), (328, 328, 0, 4), (329, 329, 0, 4), (330, 330, 0, 4), (331, 331, 0, 4), (332, 332, 0, 4), (333, 333, 0, 5), (334, 334, 0, 5), (335, 335, 0, 5), (336, 336, 0, 8), (337, 337, 0, 4)] I0 I1 ∧ dkOk I1 ∧ ((True)))) args s 0 0 (dkA z)) (F0 m 7 ls []) := by
    intro n
    induction n with
    | zero => intro I H locs ls x7_3 hn; exact absurd hn (Nat.not_lt_zero _)
    | succ n ih7 =>
      intro I7_ H locs ls x7_3 hn7 hW hS hF_7 hO k7_0 f7_0 hl
      have hF := hF_7
      refine lv_iload_n hx hb dX3_drawYears_7 rfl (lv_at hl 3 rfl) ?_
      refine lv_iconst (v := 5) hx hb dX3_drawYears_8 (by decide) ?_
      refine lv_icmp_ge (tgt := 25) hx hb dX3_drawYears_9 (by decide) (fun c17 => ?_) (fun c17 => ?_)
      ·
        have d18 : dkN [(5, 5)] x7_3 := dkN_le2 0 (dkN_lit (x := 5) (5) rfl) k7_0 (dkc_le c17) rfl
        refine lv_aload_n hx hb dX3_drawYears_25 rfl (lv_at hl 0 rfl) ?_
        refine dk_get (k := 325) hx hb hts iX3_drawYears_3 hown hK (dk_at325 hW) rfl 1 (by decide) (hts (.fieldLink RX3 12 "DogKings$Seer" "then" "LDogKings$Town;") (List.mem_of_getElem? (i := 3) rfl)) rfl dX3_drawYears_26 ?_
        refine lv_aload_n hx hb dX3_drawYears_29 rfl (lv_at hl 0 rfl) ?_
        refine dk_get (k := 325) hx hb hts iX3_drawYears_3 hown hK (dk_at325 hW) rfl 0 (by decide) (hts (.fieldLink RX3 22 "DogKings$Seer" "now" "LDogKings$Town;") (List.mem_of_getElem? (i := 4) rfl)) rfl dX3_drawYears_30 ?_
        refine dk_Vv (As := [.ref (z + 25)]) (rest := []) ⟨hx, hb, hml, hown, hts⟩ (c_X4_become_0 l g z I7_ (326) (by unfold dkT; omega) (25) (by unfold dkT; omega) hO) (cwV 1 hts gX3_drawYears_X4_become rfl rfl rfl (by decide +kernel) ⟨Nat.le_of_ble_eq_true rfl, Nat.le_of_ble_eq_true rfl⟩) (dk_at326 hW) rfl hK hT hW hS rfl hl.1 rfl (Nat.le_of_ble_eq_true rfl) dX3_drawYears_33 ⟨Nat.zero_le _, Nat.zero_le _⟩ (fun I19 H19 L19 hp19 hW hS => ?_)
        obtain ⟨hF19, hO, hc19⟩ := hp19
        have hF := dkF_call hF hF19 rfl
        refine lv_iload_n hx hb dX3_drawYears_36 rfl (lv_at hl 2 rfl) ?_
        refine lv_i2l hx hb dX3_drawYears_37 rfl ?_
        refine lv_topl (fun v20 ev20 => ?_)
        have dv20 : dkL [(1, 999999)] v20 := by rw [ev20]; exact dkL_of dp1
        refine lv_lstore_n (lv' := [(3, .long v20), (0, .ref (z + 325)), (1, .int p0), (2, .int p1)]) hx hb dX3_drawYears_38 rfl hl (by decide) rfl (fun ls hl => ?_)
        refine lv_iconst (v := 0) hx hb dX3_drawYears_39 (by decide) ?_
        refine lv_istore (lv' := [(5, .int 0), (3, .long v20), (0, .ref (z + 325)), (1, .int p0), (2, .int p1)]) hx hb dX3_drawYears_40 hl (by decide) rfl (fun ls hl => ?_)
        exact C42 _ I19 _ _ ls v20 0 (Nat.lt_succ_self _) hW hS hF hO (dkL_sub dv20 rfl) (dkN_sub (dkN_lit (x := 0) (0) rfl) rfl) (lv_sub hl [2, 3, 4, 1, 0] rfl)
      ·
        have d21 : dkN [(0, 4)] x7_3 := dkN_le1 1 k7_0 (dkN_lit (x := 5) (5) rfl) (dkc_nle c17) rfl
        refine lv_aload_n hx hb dX3_drawYears_12 rfl (lv_at hl 0 rfl) ?_
        refine dk_get (k := 325) hx hb hts iX3_drawYears_3 hown hK (dk_at325 hW) rfl 3 (by decide) (hts (.fieldLink RX3 18 "DogKings$Seer" "crowns" "[I") (List.mem_of_getElem? (i := 2) rfl)) rfl dX3_drawYears_13 ?_
        refine lv_iload_n hx hb dX3_drawYears_16 rfl (lv_at hl 3 rfl) ?_
        refine lv_iconst (v := 0) hx hb dX3_drawYears_17 (by decide) ?_
        refine dk_ist (k := 337) hx hb hK hW (fun _ => rfl) (by decide) hS (dkN_in (n := 5) d21 rfl) dX3_drawYears_18 (fun I22 H22 L22 eI22 hW hS => ?_)
        have hO := dkO_set hO eI22 (dkN_sub (dkN_lit (x := 0) (0) rfl) rfl)
        have hF := dkF_set hF eI22 (dkIn_v d21 rfl)
        obtain ⟨v23, ev23⟩ : ∃ y : Int32, y = x7_3 + 1 := ⟨_, rfl⟩
        have dv23 : dkN [(1, 5)] v23 := by rw [ev23]; exact dkN_add d21 (dkN_lit (x := 1) (1) rfl) rfl
        refine lv_iinc (v := v23) (lv' := [(3, .int v23), (0, .ref (z + 325)), (1, .int p0), (2, .int p1)]) hx hb dX3_drawYears_19 hl (k := 3) rfl (by rw [ev23]; rfl) (by decide) rfl (fun ls hl => ?_)
        refine lv_goto (tgt := 7) hx hb dX3_drawYears_22 (by decide) ?_
        exact ih7 I22 _ _ ls v23 (dk_near hn7 (by rw [ev23]; exact dk_inc d21 rfl) (dkN_lt d21 rfl)) hW hS hF hO (dkN_sub dv23 rfl) (show dkN [(0, 0)] (I22 325 2) from dkN_sub (by rw [eI22, dkU_n (by decide)]; exact f7_0) rfl) (lv_sub hl [1, 2, 3, 0] rfl)
  refine lv_aload_n hx hb dX3_drawYears_0 rfl (lv_at hl 0 rfl) ?_
  refine lv_iconst (v := 0) hx hb dX3_drawYears_1 (by decide) ?_
  refine dk_put (k := 325) hx hb hts iX3_drawYears_3 tyX3 tyX3_ok nmX3 hown hK hW (dk_at325 hW) hS rfl 2 (by decide) (hts (.fieldLink RX3 135 "DogKings$Seer" "kingless" "I") (List.mem_of_getElem? (i := 1) rfl)) rfl rfl (Nat.le_of_ble_eq_true rfl) rfl dX3_drawYears_2 (fun I24 H24 L24 eI24 hW hS => ?_)
  have eI24 : I24 = dkU I0 325 2 0 := eI24
  have hO := dkO_set hO eI24 (dkN_sub (dkN_lit (x := 0) (0) rfl) rfl)
  have hF := dkF_set hF eI24 rfl
  refine lv_iconst (v := 0) hx hb dX3_drawYears_5 (by decide) ?_
  refine lv_istore_n (lv' := [(3, .int 0), (0, .ref (z + 325)), (1, .int p0), (2, .int p1)]) hx hb dX3_drawYears_6 rfl hl (by decide) rfl (fun ls hl => ?_)
  exact C7 _ I24 _ _ ls 0 (Nat.lt_succ_self _) hW hS hF hO (dkN_sub (dkN_lit (x := 0) (0) rfl) rfl) (show dkN [(0, 0)] (I24 325 2) from dkN_sub (by rw [eI24, dkU_ss]; exact (dkN_lit (x := 0) (0) rfl)) rfl) (lv_sub hl [1, 2, 3, 0] rfl)
set_option maxHeartbeats 4000000 in
set_option maxRecDepth 100000 in
theorem c_X3_kingMostOften_0 (l : Launch) (g : dkG) (z : Nat) (I0 : dkI)  (hO : dkOk I0) : Met l yX3_kingMostOften wsX3_kingMostOften (dkR 0) (dkPc g z [.ref (z + 325)] I0) (dkQi g z (fun r I1 => dkF [] I0 I1 ∧ dkOk I1 ∧ ((dkN [(-1000000, -1000000), (0, 4)] r ∧ True)))) 0 0 (dkA z) := by
  refine Met.ofW (cc := cX3_kingMostOften) (maxL := 4) (ret := (some .int)) (by decide) rfl ?_
  intro p e s m args below meth c s₁ B hml hv
  obtain ⟨ha, hW, hK, hT⟩ := hv
  have hx := B.exec
  have hb := B.bytes
  have hr := B.returns
  have hts := atoms_spec (ws := wsX3_kingMostOften) B.pre
  have hown : s.vm.findClass RX3 = some m.cls := findClass_of_methodNamed B.named
  have hlocks := B.notSynchronized
  have hS : va_S (dkA z) s.heap s.heap [] := va_S.rf
  have hF : dkF [] I0 I0 := dkF_rf _ _
  have hl := lv_entry ([.ref (z + 325)]) (n := 4) (Nat.le_of_ble_eq_true rfl)
  have hgo : entryFrame m args 4 = entryFrame m ([.ref (z + 325)] : List Value).toArray 4 := by rw [ha]
  rw [hgo, lg_entry_eq]
  generalize (lg_sl ([.ref (z + 325)]) ++ List.replicate (4 - (lg_sl ([.ref (z + 325)])).length) Slot.unset).toArray = ls at hl ⊢
  have hl : lv_has ls 4 [(0, .ref (z + 325))] := hl
  have C7 : ∀ (n : Nat), ∀ (I : dkI) (H : Heap) (locs : List Loc) (ls : Array Slot) (x7_1 : Int32) (x7_2 : Int32) (x7_3 : Int32), (5 - x7_3.toInt).toNat < n → dkW g z I H → va_S (dkA z) s.heap H locs → dkF [] I0 I → dkOk I → dkN [(-1000000, -1000000), (0, 4)] x7_1 → dkN [(0, 5)] x7_3 → lv_has ls 4 [(0, .ref (z + 325)), (1, .int x7_1), (2, .int x7_2), (3, .int x7_3)] → W p l e (headSpec wsX3_kingMostOften (dkR 0)).room s m args below meth c H locs 0 0 (MQ below (dkQi g z (fun r I1 => dkF [] I0 I1 ∧ dkOk I1 ∧ ((dkN [(-1000000, -1000000), (0, 4)] r ∧ True)))) args s 0 0 (dkA z)) (F0 m 7 ls []) := by
    intro n
    induction n with
    | zero => intro I H locs ls x7_1 x7_2 x7_3 hn; exact absurd hn (Nat.not_lt_zero _)
    | succ n ih7 =>
      intro I7_ H locs ls x7_1 x7_2 x7_3 hn7 hW hS hF_7 hO k7_0 k7_2 hl
      have hF := hF_7
      have C37 : ∀ (I : dkI) (H : Heap) (locs : List Loc) (ls : Array Slot) (x37_1 : Int32) (x37_2 : Int32), dkW g z I H → va_S (dkA z) s.heap H locs → dkF [] I0 I → dkOk I → dkN [(-1000000, -1000000), (0, 4)] x37_1 → dkN [(0, 4)] x7_3 → dkN [(1, 5)] (I 326 4) → lv_has ls 4 [(0, .ref (z + 325)), (1, .int x37_1), (2, .int x37_2), (3, .int x7_3)] → W p l e (headSpec wsX3_kingMostOften (dkR 0)).room s m args below meth c H locs 0 0 (MQ below (dkQi g z (fun r I1 => dkF [] I0 I1 ∧ dkOk I1 ∧ ((dkN [(-1000000, -1000000), (0, 4)] r ∧ True)))) args s 0 0 (dkA z)) (F0 m 37 ls []) := by
        intro I37_ H locs ls x37_1 x37_2 hW hS hF_37 hO k37_0 r37_0 f37_0 hl
        have hF := hF_37
        obtain ⟨v1, ev1⟩ : ∃ y : Int32, y = x7_3 + 1 := ⟨_, rfl⟩
        have dv1 : dkN [(1, 5)] v1 := by rw [ev1]; exact dkN_add r37_0 (dkN_lit (x := 1) (1) rfl) rfl
        refine lv_iinc (v := v1) (lv' := [(3, .int v1), (0, .ref (z + 325)), (1, .int x37_1), (2, .int x37_2)]) hx hb dX3_kingMostOften_37 hl (k := 3) rfl (by rw [ev1]; rfl) (by decide) rfl (fun ls hl => ?_)
        refine lv_goto (tgt := 7) hx hb dX3_kingMostOften_40 (by decide) ?_
        exact ih7 I37_ _ _ ls x37_1 x37_2 v1 (dk_near hn7 (by rw [ev1]; exact dk_inc r37_0 rfl) (dkN_lt r37_0 rfl)) hW hS hF hO (dkN_sub k37_0 rfl) (dkN_sub dv1 rfl) (lv_sub hl [1, 2, 3, 0] rfl)
      refine lv_iload_n hx hb dX3_kingMostOften_7 rfl (lv_at hl 3 rfl) ?_
      refine lv_aload_n hx hb dX3_kingMostOften_8 rfl (lv_at hl 0 rfl) ?_
      refine dk_get (k := 325) hx hb hts iX3_kingMostOften_3 hown hK (dk_at325 hW) rfl 1 (by decide) (hts (.fieldLink RX3 12 "DogKings$Seer" "then" "LDogKings$Town;") (List.mem_of_getElem? (i := 2) rfl)) rfl dX3_kingMostOften_9 ?_
      refine dk_get (k := 326) hx hb hts iX3_kingMostOften_4 hown hK (dk_at326 hW) rfl 4 (by decide) (hts (.fieldLink RX3 148 "DogKings$Town" "people" "I") (List.mem_of_getElem? (i := 3) rfl)) rfl dX3_kingMostOften_12 ?_
      refine lv_topi (fun v2 ev2 => ?_)
      have dv2 : dkN [(0, 5)] v2 := by rw [ev2]; exact (hO 326 4)
      refine lv_icmp_ge (tgt := 43) hx hb dX3_kingMostOften_15 (by decide) (fun c3 => ?_) (fun c3 => ?_)
      ·
        refine lv_iload_n hx hb dX3_kingMostOften_43 rfl (lv_at hl 1 rfl) ?_
        exact W.iret (v := x7_1) hx hb hr (fun t ht hW9 => ⟨⟨x7_1, I7_, rfl, ⟨hF, hO, ⟨dkN_sub k7_0 rfl, trivial⟩⟩, dkW_eq ht hW⟩, hS.F ht⟩) hS.2.2 dX3_kingMostOften_44
      ·
        have d4 : dkN [(1, 5)] v2 := dkN_le2 1 k7_2 dv2 (dkc_nle c3) rfl
        have f5 : dkN [(1, 5)] (I7_ 326 4) := by rw [← ev2]; exact d4
        have d6 : dkN [(0, 4)] x7_3 := dkN_le1 1 k7_2 dv2 (dkc_nle c3) rfl
        refine lv_aload_n hx hb dX3_kingMostOften_18 rfl (lv_at hl 0 rfl) ?_
        refine dk_get (k := 325) hx hb hts iX3_kingMostOften_3 hown hK (dk_at325 hW) rfl 3 (by decide) (hts (.fieldLink RX3 18 "DogKings$Seer" "crowns" "[I") (List.mem_of_getElem? (i := 4) rfl)) rfl dX3_kingMostOften_19 ?_
        refine lv_iload_n hx hb dX3_kingMostOften_22 rfl (lv_at hl 3 rfl) ?_
        refine dk_ild (k := 337) hx hb hK (dk_at337 hW) (dkN_in (n := 5) d6 rfl) dX3_kingMostOften_23 ?_
        refine lv_topi (fun v7 ev7 => ?_)
        refine lv_iload_n hx hb dX3_kingMostOften_24 rfl (lv_at hl 2 rfl) ?_
        refine lv_icmp_le (tgt := 37) hx hb dX3_kingMostOften_25 (by decide) (fun c8 => ?_) (fun c8 => ?_)
        ·
          exact C37 I7_ _ _ ls x7_1 x7_2 hW hS hF hO (dkN_sub k7_0 rfl) (dkN_sub d6 rfl) (show dkN [(1, 5)] (I7_ 326 4) from dkN_sub f5 rfl) (lv_sub hl [0, 1, 2, 3] rfl)
        ·
          have d9 : dkN [(-2147483647, 2147483647)] v7 := dkN_le2 1 (dkN_top x7_2) (dkN_top v7) (dkc_nle c8) rfl
          have d10 : dkN [(-2147483648, 2147483646)] x7_2 := dkN_le1 1 (dkN_top x7_2) (dkN_top v7) (dkc_nle c8) rfl
          refine lv_aload_n hx hb dX3_kingMostOften_28 rfl (lv_at hl 0 rfl) ?_
          refine dk_get (k := 325) hx hb hts iX3_kingMostOften_3 hown hK (dk_at325 hW) rfl 3 (by decide) (hts (.fieldLink RX3 18 "DogKings$Seer" "crowns" "[I") (List.mem_of_getElem? (i := 4) rfl)) rfl dX3_kingMostOften_29 ?_
          refine lv_iload_n hx hb dX3_kingMostOften_32 rfl (lv_at hl 3 rfl) ?_
          refine dk_ild (k := 337) hx hb hK (dk_at337 hW) (dkN_in (n := 5) d6 rfl) dX3_kingMostOften_33 ?_
          refine lv_topi (fun v11 ev11 => ?_)
          refine lv_istore_n (lv' := [(2, .int v11), (0, .ref (z + 325)), (1, .int x7_1), (3, .int x7_3)]) hx hb dX3_kingMostOften_34 rfl hl (by decide) rfl (fun ls hl => ?_)
          refine lv_iload_n hx hb dX3_kingMostOften_35 rfl (lv_at hl 3 rfl) ?_
          refine lv_istore_n (lv' := [(1, .int x7_3), (2, .int v11), (0, .ref (z + 325)), (3, .int x7_3)]) hx hb dX3_kingMostOften_36 rfl hl (by decide) rfl (fun ls hl => ?_)
          exact C37 I7_ _ _ ls x7_3 v11 hW hS hF hO (dkN_sub d6 rfl) (dkN_sub d6 rfl) (show dkN [(1, 5)] (I7_ 326 4) from dkN_sub f5 rfl) (lv_sub hl [2, 0, 1, 3] rfl)
  refine lv_ldc (v := (-1000000)) hx hb hown (hts (.constant RX3 43 (-1000000)) (List.mem_of_getElem? (i := 1) rfl)) dX3_kingMostOften_0 ?_
  refine lv_istore_n (lv' := [(1, .int ((-1000000))), (0, .ref (z + 325))]) hx hb dX3_kingMostOften_2 rfl hl (by decide) rfl (fun ls hl => ?_)
  refine lv_iconst (v := 0) hx hb dX3_kingMostOften_3 (by decide) ?_
  refine lv_istore_n (lv' := [(2, .int 0), (1, .int ((-1000000))), (0, .ref (z + 325))]) hx hb dX3_kingMostOften_4 rfl hl (by decide) rfl (fun ls hl => ?_)
  refine lv_iconst (v := 0) hx hb dX3_kingMostOften_5 (by decide) ?_
  refine lv_istore_n (lv' := [(3, .int 0), (2, .int 0), (1, .int ((-1000000))), (0, .ref (z + 325))]) hx hb dX3_kingMostOften_6 rfl hl (by decide) rfl (fun ls hl => ?_)
  exact C7 _ I0 _ _ ls ((-1000000)) 0 0 (Nat.lt_succ_self _) hW hS hF hO (dkN_sub (dkN_lit (x := (-1000000)) (-1000000) rfl) rfl) (dkN_sub (dkN_lit (x := 0) (0) rfl) rfl) (lv_sub hl [3, 2, 1, 0] rfl)
set_option maxHeartbeats 4000000 in
set_option maxRecDepth 100000 in
theorem c_X5_drawn_0 (l : Launch) (g : dkG) (z : Nat) (I0 : dkI) (p0 : Int32) (p1 : Int32) (p2 : Int32)  (hO : dkOk I0) : Met l yX5_drawn wsX5_drawn (dkR 6) (dkPc g z [.ref (z + 0), .int p0, .int p1, .int p2] I0) (dkQi g z (fun r I1 => dkF [(325, 325, 2, 2), (326, 326, 0, 4), (326, 326, 11, 11), (326, 326, 15, 17), (327, 327, 0, 4), (328, 328, 0, 4), (329, 329, 0, 4), (330, 330, 0, 4), (331, 331, 0, 4), (332, 332, 0, 4), (333, 333, 0, 5), (334, 334, 0, 5), (335, 335, 0, 5), (336, 336, 0, 8), (337, 337, 0, 4)] I0 I1 ∧ dkOk I1 ∧ ((True ∧ True)))) 0 0 (dkA z) := by
  refine Met.ofW (cc := cX5_drawn) (maxL := 4) (ret := (some .int)) (by decide) rfl ?_
  intro p e s m args below meth c s₁ B hml hv
  obtain ⟨ha, hW, hK, hT⟩ := hv
  have hx := B.exec
  have hb := B.bytes
  have hr := B.returns
  have hts := atoms_spec (ws := wsX5_drawn) B.pre
  have hown : s.vm.findClass RX5 = some m.cls := findClass_of_methodNamed B.named
  have hlocks := B.notSynchronized
  have hS : va_S (dkA z) s.heap s.heap [] := va_S.rf
  have hF : dkF [(325, 325, 2, 2), (326, 326, 0, 4), (326, 326, 11, 11), (326, 326, 15, 17), (327, 327, 0, 4), (328, 328, 0, 4), (329, 329, 0, 4), (330, 330, 0, 4), (331, 331, 0, 4), (332, 332, 0, 4), (333, 333, 0, 5), (334, 334, 0, 5), (335, 335, 0, 5), (336, 336, 0, 8), (337, 337, 0, 4)] I0 I0 := dkF_rf _ _
  have hl := lv_entry ([.ref (z + 0), .int p0, .int p1, .int p2]) (n := 4) (Nat.le_of_ble_eq_true rfl)
  have hgo : entryFrame m args 4 = entryFrame m ([.ref (z + 0), .int p0, .int p1, .int p2] : List Value).toArray 4 := by rw [ha]
  rw [hgo, lg_entry_eq]
  generalize (lg_sl ([.ref (z + 0), .int p0, .int p1, .int p2]) ++ List.replicate (4 - (lg_sl ([.ref (z + 0), .int p0, .int p1, .int p2])).length) Slot.unset).toArray = ls at hl ⊢
  have hl : lv_has ls 4 [(0, .ref (z + 0)), (1, .int p0), (2, .int p1), (3, .int p2)] := hl
  refine lv_aload_n hx hb dX5_drawn_0 rfl (lv_at hl 0 rfl) ?_
  refine dk_get (k := 0) hx hb hts iX5_drawn_5 hown hK (dk_at0 hW) rfl 5 (by decide) (hts (.fieldLink RX5 31 "DogKings" "now" "LDogKings$Town;") (List.mem_of_getElem? (i := 1) rfl)) rfl dX5_drawn_1 ?_
  refine dk_Vi (As := []) (rest := []) ⟨hx, hb, hml, hown, hts⟩ (c_X4_stands_0 l g z I0 (25) (by unfold dkT; omega) hO) (cwV 0 hts gX5_drawn_X4_stands rfl rfl rfl (by decide +kernel) ⟨Nat.le_of_ble_eq_true rfl, Nat.le_of_ble_eq_true rfl⟩) (dk_at25 hW) rfl hK hT hW hS rfl hl.1 rfl (Nat.le_of_ble_eq_true rfl) dX5_drawn_4 ⟨Nat.zero_le _, Nat.zero_le _⟩ (fun v1 I1 H1 L1 hp1 hW hS => ?_)
  obtain ⟨hF1, hO, hc1⟩ := hp1
  have hF := dkF_call hF hF1 rfl
  rcases hc1 with ⟨dv1, f1_25_0, -⟩ | hc1
  ·
    refine lv_if_ne (tgt := 13) hx hb dX5_drawn_7 (by decide) (fun c2 => ?_) (fun c2 => ?_)
    ·
      exact (dkN_nil (show dkN [] v1 from dkN_ne1 (0) dv1 (dkN_lit (x := 0) (0) rfl) (dk_ne c2) rfl)).elim
    ·
      refine lv_ldc (v := (-1000002)) hx hb hown (hts (.constant RX5 129 (-1000002)) (List.mem_of_getElem? (i := 2) rfl)) dX5_drawn_10 ?_
      exact W.iret (v := (-1000002)) hx hb hr (fun t ht hW9 => ⟨⟨(-1000002), I1, rfl, ⟨hF, hO, ⟨trivial, trivial⟩⟩, dkW_eq ht hW⟩, hS.F ht⟩) hS.2.2 dX5_drawn_12
  ·
    obtain ⟨dv1, f1_25_0, -⟩ := hc1
    refine lv_if_ne (tgt := 13) hx hb dX5_drawn_7 (by decide) (fun c3 => ?_) (fun c3 => ?_)
    ·
      refine lv_iload_n hx hb dX5_drawn_13 rfl (lv_at hl 1 rfl) ?_
      refine lv_bipush (v := 9) hx hb dX5_drawn_14 (by decide) ?_
      refine dk_Si (As := [.int p0, .int 9]) (rest := []) ⟨hx, hb, hml, hown, hts⟩ (c_X5_isUpTo_3 l g z I1 p0 9 (dkN_lit (x := 9) (9) rfl) hO) (va_cwS 2 hts gX5_drawn_X5_isUpTo rfl rfl rfl (by decide +kernel) ⟨Nat.le_of_ble_eq_true rfl, Nat.le_of_ble_eq_true rfl⟩) hK hT hW hS rfl hl.1 rfl (Nat.le_of_ble_eq_true rfl) dX5_drawn_16 ⟨Nat.zero_le _, Nat.zero_le _⟩ (fun v4 I4 H4 L4 hp4 hW hS => ?_)
      obtain ⟨hF4, hO, hc4⟩ := hp4
      have hF := dkF_call hF hF4 rfl
      rcases hc4 with ⟨dv4, a4_0, -⟩ | hc4
      ·
        have d5 : dkN [(-2147483648, -1), (10, 2147483647)] p0 := dkN_eq1 (dkN_top p0) a4_0 rfl rfl
        refine lv_if_eq (tgt := 41) hx hb dX5_drawn_19 (by decide) (fun c6 => ?_) (fun c6 => ?_)
        ·
          refine lv_ldc (v := (-1000001)) hx hb hown (hts (.constant RX5 70 (-1000001)) (List.mem_of_getElem? (i := 4) rfl)) dX5_drawn_41 ?_
          exact W.iret (v := (-1000001)) hx hb hr (fun t ht hW9 => ⟨⟨(-1000001), I4, rfl, ⟨hF, hO, ⟨trivial, trivial⟩⟩, dkW_eq ht hW⟩, hS.F ht⟩) hS.2.2 dX5_drawn_43
        ·
          exact (dkN_nil (show dkN [] v4 from dkN_ne1 (0) dv4 (dkN_lit (x := 0) (0) rfl) (dk_ne c6) rfl)).elim
      ·
        obtain ⟨dv4, a4_0, -⟩ := hc4
        have d7 : dkN [(0, 9)] p0 := dkN_eq1 (dkN_top p0) a4_0 rfl rfl
        refine lv_if_eq (tgt := 41) hx hb dX5_drawn_19 (by decide) (fun c8 => ?_) (fun c8 => ?_)
        ·
          exact (dkN_nil (show dkN [] v4 from dkN_eq1 dv4 (dkN_lit (x := 0) (0) rfl) (congrArg Int32.toInt c8) rfl)).elim
        ·
          refine lv_iload_n hx hb dX5_drawn_22 rfl (lv_at hl 2 rfl) ?_
          refine lv_iconst (v := 1) hx hb dX5_drawn_23 (by decide) ?_
          refine lv_icmp_lt (tgt := 41) hx hb dX5_drawn_24 (by decide) (fun c9 => ?_) (fun c9 => ?_)
          ·
            have d10 : dkN [(-2147483648, 0)] p1 := dkN_le1 1 (dkN_top p1) (dkN_lit (x := 1) (1) rfl) (dkc_lt c9) rfl
            refine lv_ldc (v := (-1000001)) hx hb hown (hts (.constant RX5 70 (-1000001)) (List.mem_of_getElem? (i := 4) rfl)) dX5_drawn_41 ?_
            exact W.iret (v := (-1000001)) hx hb hr (fun t ht hW9 => ⟨⟨(-1000001), I4, rfl, ⟨hF, hO, ⟨trivial, trivial⟩⟩, dkW_eq ht hW⟩, hS.F ht⟩) hS.2.2 dX5_drawn_43
          ·
            have d11 : dkN [(1, 2147483647)] p1 := dkN_le2 0 (dkN_lit (x := 1) (1) rfl) (dkN_top p1) (dkc_nlt c9) rfl
            refine lv_iload_n hx hb dX5_drawn_27 rfl (lv_at hl 2 rfl) ?_
            refine lv_ldc (v := 999999) hx hb hown (hts (.constant RX5 248 (999999)) (List.mem_of_getElem? (i := 3) rfl)) dX5_drawn_28 ?_
            refine lv_icmp_gt (tgt := 41) hx hb dX5_drawn_30 (by decide) (fun c12 => ?_) (fun c12 => ?_)
            ·
              have d13 : dkN [(1000000, 2147483647)] p1 := dkN_le2 1 (dkN_lit (x := 999999) (999999) rfl) d11 (dkc_lt c12) rfl
              refine lv_ldc (v := (-1000001)) hx hb hown (hts (.constant RX5 70 (-1000001)) (List.mem_of_getElem? (i := 4) rfl)) dX5_drawn_41 ?_
              exact W.iret (v := (-1000001)) hx hb hr (fun t ht hW9 => ⟨⟨(-1000001), I4, rfl, ⟨hF, hO, ⟨trivial, trivial⟩⟩, dkW_eq ht hW⟩, hS.F ht⟩) hS.2.2 dX5_drawn_43
            ·
              have d14 : dkN [(1, 999999)] p1 := dkN_le1 0 d11 (dkN_lit (x := 999999) (999999) rfl) (dkc_nlt c12) rfl
              refine lv_iload_n hx hb dX5_drawn_33 rfl (lv_at hl 3 rfl) ?_
              refine lv_iconst (v := 1) hx hb dX5_drawn_34 (by decide) ?_
              refine dk_Si (As := [.int p2, .int 1]) (rest := []) ⟨hx, hb, hml, hown, hts⟩ (c_X5_isUpTo_5 l g z I4 p2 1 (dkN_lit (x := 1) (1) rfl) hO) (va_cwS 2 hts gX5_drawn_X5_isUpTo rfl rfl rfl (by decide +kernel) ⟨Nat.le_of_ble_eq_true rfl, Nat.le_of_ble_eq_true rfl⟩) hK hT hW hS rfl hl.1 rfl (Nat.le_of_ble_eq_true rfl) dX5_drawn_35 ⟨Nat.zero_le _, Nat.zero_le _⟩ (fun v15 I15 H15 L15 hp15 hW hS => ?_)
              obtain ⟨hF15, hO, hc15⟩ := hp15
              have hF := dkF_call hF hF15 rfl
              rcases hc15 with ⟨dv15, a15_0, -⟩ | hc15
              ·
                have d16 : dkN [(-2147483648, -1), (2, 2147483647)] p2 := dkN_eq1 (dkN_top p2) a15_0 rfl rfl
                refine lv_if_ne (tgt := 44) hx hb dX5_drawn_38 (by decide) (fun c17 => ?_) (fun c17 => ?_)
                ·
                  exact (dkN_nil (show dkN [] v15 from dkN_ne1 (0) dv15 (dkN_lit (x := 0) (0) rfl) (dk_ne c17) rfl)).elim
                ·
                  refine lv_ldc (v := (-1000001)) hx hb hown (hts (.constant RX5 70 (-1000001)) (List.mem_of_getElem? (i := 4) rfl)) dX5_drawn_41 ?_
                  exact W.iret (v := (-1000001)) hx hb hr (fun t ht hW9 => ⟨⟨(-1000001), I15, rfl, ⟨hF, hO, ⟨trivial, trivial⟩⟩, dkW_eq ht hW⟩, hS.F ht⟩) hS.2.2 dX5_drawn_43
              ·
                obtain ⟨dv15, a15_0, -⟩ := hc15
                have d18 : dkN [(0, 1)] p2 := dkN_eq1 (dkN_top p2) a15_0 rfl rfl
                refine lv_if_ne (tgt := 44) hx hb dX5_drawn_38 (by decide) (fun c19 => ?_) (fun c19 => ?_)
                ·
                  refine lv_aload_n hx hb dX5_drawn_44 rfl (lv_at hl 0 rfl) ?_
                  refine dk_get (k := 0) hx hb hts iX5_drawn_5 hown hK (dk_at0 hW) rfl 8 (by decide) (hts (.fieldLink RX5 51 "DogKings" "seer" "LDogKings$Seer;") (List.mem_of_getElem? (i := 5) rfl)) rfl dX5_drawn_45 ?_
                  refine lv_iload_n hx hb dX5_drawn_48 rfl (lv_at hl 1 rfl) ?_
                  refine lv_iload_n hx hb dX5_drawn_49 rfl (lv_at hl 2 rfl) ?_
                  refine dk_Vv (As := [.int p0, .int p1]) (rest := []) ⟨hx, hb, hml, hown, hts⟩ (c_X3_drawYears_0 l g z I15 p0 p1 d7 d14 hO) (cwV 2 hts gX5_drawn_X3_drawYears rfl rfl rfl (by decide +kernel) ⟨Nat.le_of_ble_eq_true rfl, Nat.le_of_ble_eq_true rfl⟩) (dk_at325 hW) rfl hK hT hW hS rfl hl.1 rfl (Nat.le_of_ble_eq_true rfl) dX5_drawn_50 ⟨Nat.zero_le _, Nat.zero_le _⟩ (fun I20 H20 L20 hp20 hW hS => ?_)
                  obtain ⟨hF20, hO, hc20⟩ := hp20
                  have hF := dkF_call hF hF20 rfl
                  refine lv_iload_n hx hb dX5_drawn_53 rfl (lv_at hl 3 rfl) ?_
                  refine lv_if_ne (tgt := 67) hx hb dX5_drawn_54 (by decide) (fun c21 => ?_) (fun c21 => ?_)
                  ·
                    have d22 : dkN [(1, 1)] p2 := dkN_ne1 (0) d18 (dkN_lit (x := 0) (0) rfl) (dk_ne c21) rfl
                    refine lv_aload_n hx hb dX5_drawn_67 rfl (lv_at hl 0 rfl) ?_
                    refine dk_get (k := 0) hx hb hts iX5_drawn_5 hown hK (dk_at0 hW) rfl 8 (by decide) (hts (.fieldLink RX5 51 "DogKings" "seer" "LDogKings$Seer;") (List.mem_of_getElem? (i := 5) rfl)) rfl dX5_drawn_68 ?_
                    refine dk_Vi (As := []) (rest := []) ⟨hx, hb, hml, hown, hts⟩ (c_X3_kingMostOften_0 l g z I20 hO) (cwV 0 hts gX5_drawn_X3_kingMostOften rfl rfl rfl (by decide +kernel) ⟨Nat.le_of_ble_eq_true rfl, Nat.le_of_ble_eq_true rfl⟩) (dk_at325 hW) rfl hK hT hW hS rfl hl.1 rfl (Nat.le_of_ble_eq_true rfl) dX5_drawn_71 ⟨Nat.zero_le _, Nat.zero_le _⟩ (fun v23 I23 H23 L23 hp23 hW hS => ?_)
                    obtain ⟨hF23, hO, hc23⟩ := hp23
                    have hF := dkF_call hF hF23 rfl
                    obtain ⟨dv23, -⟩ := hc23
                    exact W.iret (v := v23) hx hb hr (fun t ht hW9 => ⟨⟨v23, I23, rfl, ⟨hF, hO, ⟨trivial, trivial⟩⟩, dkW_eq ht hW⟩, hS.F ht⟩) hS.2.2 dX5_drawn_74
                  ·
                    have d24 : dkN [(0, 0)] p2 := dkN_eq1 d18 (dkN_lit (x := 0) (0) rfl) (congrArg Int32.toInt c21) rfl
                    refine lv_aload_n hx hb dX5_drawn_57 rfl (lv_at hl 0 rfl) ?_
                    refine dk_get (k := 0) hx hb hts iX5_drawn_5 hown hK (dk_at0 hW) rfl 8 (by decide) (hts (.fieldLink RX5 51 "DogKings" "seer" "LDogKings$Seer;") (List.mem_of_getElem? (i := 5) rfl)) rfl dX5_drawn_58 ?_
                    refine dk_get (k := 325) hx hb hts iX5_drawn_3 hown hK (dk_at325 hW) rfl 2 (by decide) (hts (.fieldLink RX5 253 "DogKings$Seer" "kingless" "I") (List.mem_of_getElem? (i := 6) rfl)) rfl dX5_drawn_61 ?_
                    refine lv_topi (fun v25 ev25 => ?_)
                    refine lv_goto (tgt := 74) hx hb dX5_drawn_64 (by decide) ?_
                    exact W.iret (v := v25) hx hb hr (fun t ht hW9 => ⟨⟨v25, I20, rfl, ⟨hF, hO, ⟨trivial, trivial⟩⟩, dkW_eq ht hW⟩, hS.F ht⟩) hS.2.2 dX5_drawn_74
                ·
                  exact (dkN_nil (show dkN [] v15 from dkN_eq1 dv15 (dkN_lit (x := 0) (0) rfl) (congrArg Int32.toInt c19) rfl)).elim
    ·
      exact (dkN_nil (show dkN [] v1 from dkN_eq1 dv1 (dkN_lit (x := 0) (0) rfl) (congrArg Int32.toInt c3) rfl)).elim
set_option maxHeartbeats 4000000 in
set_option maxRecDepth 100000 in
theorem c_X6_isTown_1 (l : Launch) (g : dkG) (z : Nat) (I0 : dkI) (np0 : dkN [(0, 0)] (I0 346 0))  (hO : dkOk I0) : Met l yX6_isTown wsX6_isTown (dkR 0) (dkPc g z [.ref (z + 340)] I0) (dkQi g z (fun r I1 => dkF [] I0 I1 ∧ dkOk I1 ∧ ((dkN [(0, 0)] r ∧ dkN [(0, 0)] (I1 346 0) ∧ True)))) 0 0 (dkA z) := by
  refine Met.ofW (cc := cX6_isTown) (maxL := 1) (ret := (some .boolean)) (by decide) rfl ?_
  intro p e s m args below meth c s₁ B hml hv
  obtain ⟨ha, hW, hK, hT⟩ := hv
  have hx := B.exec
  have hb := B.bytes
  have hr := B.returns
  have hts := atoms_spec (ws := wsX6_isTown) B.pre
  have hown : s.vm.findClass RX6 = some m.cls := findClass_of_methodNamed B.named
  have hlocks := B.notSynchronized
  have hS : va_S (dkA z) s.heap s.heap [] := va_S.rf
  have hF : dkF [] I0 I0 := dkF_rf _ _
  have hl := lv_entry ([.ref (z + 340)]) (n := 1) (Nat.le_of_ble_eq_true rfl)
  have hgo : entryFrame m args 1 = entryFrame m ([.ref (z + 340)] : List Value).toArray 1 := by rw [ha]
  rw [hgo, lg_entry_eq]
  generalize (lg_sl ([.ref (z + 340)]) ++ List.replicate (1 - (lg_sl ([.ref (z + 340)])).length) Slot.unset).toArray = ls at hl ⊢
  have hl : lv_has ls 1 [(0, .ref (z + 340))] := hl
  refine lv_aload_n hx hb dX6_isTown_0 rfl (lv_at hl 0 rfl) ?_
  refine dk_get (k := 340) hx hb hts iX6_isTown_6 hown hK (dk_at340 hW) rfl 13 (by decide) (hts (.fieldLink RX6 25 "DogKingsModel" "now" "[I") (List.mem_of_getElem? (i := 1) rfl)) rfl dX6_isTown_1 ?_
  refine lv_iconst (v := 0) hx hb dX6_isTown_4 (by decide) ?_
  refine dk_ild (k := 346) hx hb hK (dk_at346 hW) (dkN_in (n := 54) (dkN_lit (x := 0) (0) rfl) rfl) dX6_isTown_5 ?_
  refine lv_topi (fun v1 ev1 => ?_)
  have ev1 : v1 = I0 346 0 := ev1
  have dv1 : dkN [(0, 0)] v1 := by rw [ev1]; exact (show dkN [(0, 0)] (I0 346 0) from np0)
  refine lv_if_le (tgt := 13) hx hb dX6_isTown_6 (by decide) (fun c2 => ?_) (fun c2 => ?_)
  ·
    refine lv_iconst (v := 0) hx hb dX6_isTown_13 (by decide) ?_
    exact W.zret (v := 0) (ty := .boolean) hx hb hr rfl (fun t ht hW9 => ⟨⟨0, I0, rfl, ⟨hF, hO, ⟨dkN_sub (dkN_lit (x := 0) (0) rfl) rfl, (show dkN [(0, 0)] (I0 346 0) from dkN_sub np0 rfl), trivial⟩⟩, dkW_eq ht hW⟩, hS.F ht⟩) hS.2.2 dX6_isTown_14
  ·
    exact (dkN_nil (show dkN [] v1 from dkN_le2 1 (dkN_lit (x := 0) (0) rfl) dv1 (dkc_nle c2) rfl)).elim
set_option maxHeartbeats 4000000 in
set_option maxRecDepth 100000 in
theorem c_X6_drawn_0 (l : Launch) (g : dkG) (z : Nat) (I0 : dkI) (p0 : Int32) (p1 : Int32) (p2 : Int32) (np0 : dkN [(0, 0)] (I0 346 0))  (hO : dkOk I0) : Met l yX6_drawn wsX6_drawn (dkR 1) (dkPc g z [.ref (z + 340), .int p0, .int p1, .int p2] I0) (dkQi g z (fun r I1 => dkF [] I0 I1 ∧ dkOk I1 ∧ ((dkN [(-1000002, -1000002)] r ∧ dkN [(0, 0)] (I1 346 0) ∧ True)))) 0 0 (dkA z) := by
  refine Met.ofW (cc := cX6_drawn) (maxL := 10) (ret := (some .int)) (by decide) rfl ?_
  intro p e s m args below meth c s₁ B hml hv
  obtain ⟨ha, hW, hK, hT⟩ := hv
  have hx := B.exec
  have hb := B.bytes
  have hr := B.returns
  have hts := atoms_spec (ws := wsX6_drawn) B.pre
  have hown : s.vm.findClass RX6 = some m.cls := findClass_of_methodNamed B.named
  have hlocks := B.notSynchronized
  have hS : va_S (dkA z) s.heap s.heap [] := va_S.rf
  have hF : dkF [] I0 I0 := dkF_rf _ _
  have hl := lv_entry ([.ref (z + 340), .int p0, .int p1, .int p2]) (n := 10) (Nat.le_of_ble_eq_true rfl)
  have hgo : entryFrame m args 10 = entryFrame m ([.ref (z + 340), .int p0, .int p1, .int p2] : List Value).toArray 10 := by rw [ha]
  rw [hgo, lg_entry_eq]
  generalize (lg_sl ([.ref (z + 340), .int p0, .int p1, .int p2]) ++ List.replicate (10 - (lg_sl ([.ref (z + 340), .int p0, .int p1, .int p2])).length) Slot.unset).toArray = ls at hl ⊢
  have hl : lv_has ls 10 [(0, .ref (z + 340)), (1, .int p0), (2, .int p1), (3, .int p2)] := hl
  refine lv_aload_n hx hb dX6_drawn_0 rfl (lv_at hl 0 rfl) ?_
  refine dk_Vi (As := []) (rest := []) ⟨hx, hb, hml, hown, hts⟩ (c_X6_isTown_1 l g z I0 (show dkN [(0, 0)] (I0 346 0) from dkN_sub np0 rfl) hO) (cwV 0 hts gX6_drawn_X6_isTown rfl rfl rfl (by decide +kernel) ⟨Nat.le_of_ble_eq_true rfl, Nat.le_of_ble_eq_true rfl⟩) (dk_at340 hW) rfl hK hT hW hS rfl hl.1 rfl (Nat.le_of_ble_eq_true rfl) dX6_drawn_1 ⟨Nat.zero_le _, Nat.zero_le _⟩ (fun v1 I1 H1 L1 hp1 hW hS => ?_)
  obtain ⟨hF1, hO, hc1⟩ := hp1
  have hF := dkF_call hF hF1 rfl
  obtain ⟨dv1, f1_346_0, -⟩ := hc1
  refine lv_if_ne (tgt := 10) hx hb dX6_drawn_4 (by decide) (fun c2 => ?_) (fun c2 => ?_)
  ·
    exact (dkN_nil (show dkN [] v1 from dkN_ne1 (0) dv1 (dkN_lit (x := 0) (0) rfl) (dk_ne c2) rfl)).elim
  ·
    refine lv_ldc (v := (-1000002)) hx hb hown (hts (.constant RX6 185 (-1000002)) (List.mem_of_getElem? (i := 1) rfl)) dX6_drawn_7 ?_
    exact W.iret (v := (-1000002)) hx hb hr (fun t ht hW9 => ⟨⟨(-1000002), I1, rfl, ⟨hF, hO, ⟨dkN_sub (dkN_lit (x := (-1000002)) (-1000002) rfl) rfl, (show dkN [(0, 0)] (I1 346 0) from dkN_sub f1_346_0 rfl), trivial⟩⟩, dkW_eq ht hW⟩, hS.F ht⟩) hS.2.2 dX6_drawn_9
set_option maxHeartbeats 4000000 in
set_option maxRecDepth 100000 in
theorem c_X6_in_19 (l : Launch) (g : dkG) (z : Nat) (I0 : dkI) (p0 : Int32) (p1 : Int32) (p2 : Int32) (dp1 : dkN [(1, 1)] p1) (dp2 : dkN [(999999, 999999)] p2)  (hO : dkOk I0) : Met l yX6_in wsX6_in (dkR 0) (dkPc g z [.int p0, .int p1, .int p2] I0) (dkQi g z (fun r I1 => dkF [] I0 I1 ∧ dkOk I1 ∧ ((dkN [(0, 0)] r ∧ dkN [(-2147483648, 0), (1000000, 2147483647)] p0 ∧ True) ∨ (dkN [(1, 1)] r ∧ dkN [(1, 999999)] p0 ∧ True)))) 0 0 (dkA z) := by
  refine Met.ofW (cc := cX6_in) (maxL := 3) (ret := (some .boolean)) (by decide) rfl ?_
  intro p e s m args below meth c s₁ B hml hv
  obtain ⟨ha, hW, hK, hT⟩ := hv
  have hx := B.exec
  have hb := B.bytes
  have hr := B.returns
  have hts := atoms_spec (ws := wsX6_in) B.pre
  have hown : s.vm.findClass RX6 = some m.cls := findClass_of_methodNamed B.named
  have hlocks := B.notSynchronized
  have hS : va_S (dkA z) s.heap s.heap [] := va_S.rf
  have hF : dkF [] I0 I0 := dkF_rf _ _
  have hl := lv_entry ([.int p0, .int p1, .int p2]) (n := 3) (Nat.le_of_ble_eq_true rfl)
  have hgo : entryFrame m args 3 = entryFrame m ([.int p0, .int p1, .int p2] : List Value).toArray 3 := by rw [ha]
  rw [hgo, lg_entry_eq]
  generalize (lg_sl ([.int p0, .int p1, .int p2]) ++ List.replicate (3 - (lg_sl ([.int p0, .int p1, .int p2])).length) Slot.unset).toArray = ls at hl ⊢
  have hl : lv_has ls 3 [(0, .int p0), (1, .int p1), (2, .int p2)] := hl
  refine lv_iload_n hx hb dX6_in_0 rfl (lv_at hl 0 rfl) ?_
  refine lv_iload_n hx hb dX6_in_1 rfl (lv_at hl 1 rfl) ?_
  refine lv_icmp_lt (tgt := 14) hx hb dX6_in_2 (by decide) (fun c1 => ?_) (fun c1 => ?_)
  ·
    have d2 : dkN [(-2147483648, 0)] p0 := dkN_le1 1 (dkN_top p0) dp1 (dkc_lt c1) rfl
    refine lv_iconst (v := 0) hx hb dX6_in_14 (by decide) ?_
    exact W.zret (v := 0) (ty := .boolean) hx hb hr rfl (fun t ht hW9 => ⟨⟨0, I0, rfl, ⟨hF, hO, Or.inl ⟨dkN_sub (dkN_lit (x := 0) (0) rfl) rfl, dkN_sub d2 rfl, trivial⟩⟩, dkW_eq ht hW⟩, hS.F ht⟩) hS.2.2 dX6_in_15
  ·
    have d3 : dkN [(1, 2147483647)] p0 := dkN_le2 0 dp1 (dkN_top p0) (dkc_nlt c1) rfl
    refine lv_iload_n hx hb dX6_in_5 rfl (lv_at hl 0 rfl) ?_
    refine lv_iload_n hx hb dX6_in_6 rfl (lv_at hl 2 rfl) ?_
    refine lv_icmp_gt (tgt := 14) hx hb dX6_in_7 (by decide) (fun c4 => ?_) (fun c4 => ?_)
    ·
      have d5 : dkN [(1000000, 2147483647)] p0 := dkN_le2 1 dp2 d3 (dkc_lt c4) rfl
      refine lv_iconst (v := 0) hx hb dX6_in_14 (by decide) ?_
      exact W.zret (v := 0) (ty := .boolean) hx hb hr rfl (fun t ht hW9 => ⟨⟨0, I0, rfl, ⟨hF, hO, Or.inl ⟨dkN_sub (dkN_lit (x := 0) (0) rfl) rfl, dkN_sub d5 rfl, trivial⟩⟩, dkW_eq ht hW⟩, hS.F ht⟩) hS.2.2 dX6_in_15
    ·
      have d6 : dkN [(1, 999999)] p0 := dkN_le1 0 d3 dp2 (dkc_nlt c4) rfl
      refine lv_iconst (v := 1) hx hb dX6_in_10 (by decide) ?_
      refine lv_goto (tgt := 15) hx hb dX6_in_11 (by decide) ?_
      exact W.zret (v := 1) (ty := .boolean) hx hb hr rfl (fun t ht hW9 => ⟨⟨1, I0, rfl, ⟨hF, hO, Or.inr (⟨dkN_sub (dkN_lit (x := 1) (1) rfl) rfl, dkN_sub d6 rfl, trivial⟩)⟩, dkW_eq ht hW⟩, hS.F ht⟩) hS.2.2 dX6_in_15
set_option maxHeartbeats 4000000 in
set_option maxRecDepth 100000 in
theorem c_X6_drawn_1 (l : Launch) (g : dkG) (z : Nat) (I0 : dkI) (p0 : Int32) (p1 : Int32) (p2 : Int32) (np0 : dkN [(1, 5)] (I0 346 4))  (hO : dkOk I0) : Met l yX6_drawn wsX6_drawn (dkR 5) (dkPc g z [.ref (z + 340), .int p0, .int p1, .int p2] I0) (dkQi g z (fun r I1 => dkF [(340, 340, 20, 22), (348, 348, 0, 53), (352, 352, 0, 4)] I0 I1 ∧ dkOk I1 ∧ ((True ∧ dkN [(1, 5)] (I1 346 4) ∧ True)))) 0 0 (dkA z) := by
  refine Met.ofW (cc := cX6_drawn) (maxL := 10) (ret := (some .int)) (by decide) rfl ?_
  intro p e s m args below meth c s₁ B hml hv
  obtain ⟨ha, hW, hK, hT⟩ := hv
  have hx := B.exec
  have hb := B.bytes
  have hr := B.returns
  have hts := atoms_spec (ws := wsX6_drawn) B.pre
  have hown : s.vm.findClass RX6 = some m.cls := findClass_of_methodNamed B.named
  have hlocks := B.notSynchronized
  have hS : va_S (dkA z) s.heap s.heap [] := va_S.rf
  have hF : dkF [(340, 340, 20, 22), (348, 348, 0, 53), (352, 352, 0, 4)] I0 I0 := dkF_rf _ _
  have hl := lv_entry ([.ref (z + 340), .int p0, .int p1, .int p2]) (n := 10) (Nat.le_of_ble_eq_true rfl)
  have hgo : entryFrame m args 10 = entryFrame m ([.ref (z + 340), .int p0, .int p1, .int p2] : List Value).toArray 10 := by rw [ha]
  rw [hgo, lg_entry_eq]
  generalize (lg_sl ([.ref (z + 340), .int p0, .int p1, .int p2]) ++ List.replicate (10 - (lg_sl ([.ref (z + 340), .int p0, .int p1, .int p2])).length) Slot.unset).toArray = ls at hl ⊢
  have hl : lv_has ls 10 [(0, .ref (z + 340)), (1, .int p0), (2, .int p1), (3, .int p2)] := hl
  have C225 : ∀ (n : Nat), ∀ (I : dkI) (H : Heap) (locs : List Loc) (ls : Array Slot) (x225_4 : Int64) (x225_6 : Int32) (x225_7 : Int32) (x225_8 : Int32) (x225_9 : Int32), (5 - x225_9.toInt).toNat < n → dkW g z I H → va_S (dkA z) s.heap H locs → dkF [(340, 340, 20, 22), (348, 348, 0, 53), (352, 352, 0, 4)] I0 I → dkOk I → dkL [(0, 2147483646)] x225_4 → dkN [(0, 9)] x225_7 → dkN [(-1000000, -1000000), (0, 4)] x225_8 → dkN [(0, 5)] x225_9 → dkN [(0, 9)] p0 → dkN [(1, 999999)] p1 → dkN [(0, 1)] p2 → dkN [(0, 0)] (I 340 20) → dkN [(0, 0)] (I 340 21) → dkN [(0, 0)] (I 340 22) → dkN [(1, 9)] (I 346 0) → dkN [(1, 5)] (I 346 4) → lv_has ls 10 [(0, .ref (z + 340)), (1, .int p0), (2, .int p1), (3, .int p2), (4, .long x225_4), (6, .int x225_6), (7, .int x225_7), (8, .int x225_8), (9, .int x225_9)] → W p l e (headSpec wsX6_drawn (dkR 5)).room s m args below meth c H locs 0 0 (MQ below (dkQi g z (fun r I1 => dkF [(340, 340, 20, 22), (348, 348, 0, 53), (352, 352, 0, 4)] I0 I1 ∧ dkOk I1 ∧ ((True ∧ dkN [(1, 5)] (I1 346 4) ∧ True)))) args s 0 0 (dkA z)) (F0 m 225 ls []) := by
    intro n
    induction n with
    | zero => intro I H locs ls x225_4 x225_6 x225_7 x225_8 x225_9 hn; exact absurd hn (Nat.not_lt_zero _)
    | succ n ih225 =>
      intro I225_ H locs ls x225_4 x225_6 x225_7 x225_8 x225_9 hn225 hW hS hF_225 hO k225_0 k225_2 k225_3 k225_4 r225_0 r225_1 r225_2 f225_0 f225_1 f225_2 f225_3 f225_4 hl
      have hF := hF_225
      have C266 : ∀ (I : dkI) (H : Heap) (locs : List Loc) (ls : Array Slot) (x266_s0 : Int32), dkW g z I H → va_S (dkA z) s.heap H locs → dkF [(340, 340, 20, 22), (348, 348, 0, 53), (352, 352, 0, 4)] I0 I → dkOk I → dkN [(-1000000, -1000000), (0, 4)] x266_s0 → dkN [(0, 9)] p0 → dkN [(1, 999999)] p1 → dkN [(0, 1)] p2 → dkL [(0, 2147483646)] x225_4 → dkN [(0, 9)] x225_7 → dkN [(-1000000, -1000000), (0, 4)] x225_8 → dkN [(0, 4)] x225_9 → dkN [(0, 0)] (I 340 20) → dkN [(0, 0)] (I 340 21) → dkN [(0, 0)] (I 340 22) → dkN [(1, 9)] (I 346 0) → dkN [(1, 5)] (I 346 4) → lv_has ls 10 [(0, .ref (z + 340)), (1, .int p0), (2, .int p1), (3, .int p2), (4, .long x225_4), (6, .int x225_6), (7, .int x225_7), (8, .int x225_8), (9, .int x225_9)] → W p l e (headSpec wsX6_drawn (dkR 5)).room s m args below meth c H locs 0 0 (MQ below (dkQi g z (fun r I1 => dkF [(340, 340, 20, 22), (348, 348, 0, 53), (352, 352, 0, 4)] I0 I1 ∧ dkOk I1 ∧ ((True ∧ dkN [(1, 5)] (I1 346 4) ∧ True)))) args s 0 0 (dkA z)) (F0 m 266 ls [.int x266_s0]) := by
        intro I266_ H locs ls x266_s0 hW hS hF_266 hO k266_0 r266_0 r266_1 r266_2 r266_3 r266_4 r266_5 r266_6 f266_0 f266_1 f266_2 f266_3 f266_4 hl
        have hF := hF_266
        refine lv_istore (lv' := [(8, .int x266_s0), (0, .ref (z + 340)), (1, .int p0), (2, .int p1), (3, .int p2), (4, .long x225_4), (6, .int x225_6), (7, .int x225_7), (9, .int x225_9)]) hx hb dX6_drawn_266 hl (by decide) rfl (fun ls hl => ?_)
        obtain ⟨v1, ev1⟩ : ∃ y : Int32, y = x225_9 + 1 := ⟨_, rfl⟩
        have dv1 : dkN [(1, 5)] v1 := by rw [ev1]; exact dkN_add r266_6 (dkN_lit (x := 1) (1) rfl) rfl
        refine lv_iinc (v := v1) (lv' := [(9, .int v1), (8, .int x266_s0), (0, .ref (z + 340)), (1, .int p0), (2, .int p1), (3, .int p2), (4, .long x225_4), (6, .int x225_6), (7, .int x225_7)]) hx hb dX6_drawn_268 hl (k := 8) rfl (by rw [ev1]; rfl) (by decide) rfl (fun ls hl => ?_)
        refine lv_goto (tgt := 225) hx hb dX6_drawn_271 (by decide) ?_
        exact ih225 I266_ _ _ ls x225_4 x225_6 x225_7 x266_s0 v1 (dk_near hn225 (by rw [ev1]; exact dk_inc r266_6 rfl) (dkN_lt r266_6 rfl)) hW hS hF hO (dkL_sub r266_3 rfl) (dkN_sub r266_4 rfl) (dkN_sub k266_0 rfl) (dkN_sub dv1 rfl) (dkN_sub r266_0 rfl) (dkN_sub r266_1 rfl) (dkN_sub r266_2 rfl) (show dkN [(0, 0)] (I266_ 340 20) from dkN_sub f266_0 rfl) (show dkN [(0, 0)] (I266_ 340 21) from dkN_sub f266_1 rfl) (show dkN [(0, 0)] (I266_ 340 22) from dkN_sub f266_2 rfl) (show dkN [(1, 9)] (I266_ 346 0) from dkN_sub f266_3 rfl) (show dkN [(1, 5)] (I266_ 346 4) from dkN_sub f266_4 rfl) (lv_sub hl [2, 3, 4, 5, 6, 7, 8, 1, 0] rfl)
      have C256 : ∀ (I : dkI) (H : Heap) (locs : List Loc) (ls : Array Slot) (x256_s0 : Int32) (x256_s1 : Int32), dkW g z I H → va_S (dkA z) s.heap H locs → dkF [(340, 340, 20, 22), (348, 348, 0, 53), (352, 352, 0, 4)] I0 I → dkOk I → dkN [(0, 9)] p0 → dkN [(1, 999999)] p1 → dkN [(0, 1)] p2 → dkL [(0, 2147483646)] x225_4 → dkN [(0, 9)] x225_7 → dkN [(-1000000, -1000000), (0, 4)] x225_8 → dkN [(0, 4)] x225_9 → dkN [(0, 0)] (I 340 20) → dkN [(0, 0)] (I 340 21) → dkN [(0, 0)] (I 340 22) → dkN [(1, 9)] (I 346 0) → dkN [(1, 5)] (I 346 4) → lv_has ls 10 [(0, .ref (z + 340)), (1, .int p0), (2, .int p1), (3, .int p2), (4, .long x225_4), (6, .int x225_6), (7, .int x225_7), (8, .int x225_8), (9, .int x225_9)] → W p l e (headSpec wsX6_drawn (dkR 5)).room s m args below meth c H locs 0 0 (MQ below (dkQi g z (fun r I1 => dkF [(340, 340, 20, 22), (348, 348, 0, 53), (352, 352, 0, 4)] I0 I1 ∧ dkOk I1 ∧ ((True ∧ dkN [(1, 5)] (I1 346 4) ∧ True)))) args s 0 0 (dkA z)) (F0 m 256 ls [.int x256_s0, .int x256_s1]) := by
        intro I256_ H locs ls x256_s0 x256_s1 hW hS hF_256 hO r256_0 r256_1 r256_2 r256_3 r256_4 r256_5 r256_6 f256_0 f256_1 f256_2 f256_3 f256_4 hl
        have hF := hF_256
        refine lv_icmp_le (tgt := 264) hx hb dX6_drawn_256 (by decide) (fun c2 => ?_) (fun c2 => ?_)
        ·
          refine lv_iload hx hb dX6_drawn_264 (lv_at hl 7 rfl) ?_
          exact C266 I256_ _ _ ls x225_8 hW hS hF hO (dkN_sub r256_5 rfl) (dkN_sub r256_0 rfl) (dkN_sub r256_1 rfl) (dkN_sub r256_2 rfl) (dkL_sub r256_3 rfl) (dkN_sub r256_4 rfl) (dkN_sub r256_5 rfl) (dkN_sub r256_6 rfl) (show dkN [(0, 0)] (I256_ 340 20) from dkN_sub f256_0 rfl) (show dkN [(0, 0)] (I256_ 340 21) from dkN_sub f256_1 rfl) (show dkN [(0, 0)] (I256_ 340 22) from dkN_sub f256_2 rfl) (show dkN [(1, 9)] (I256_ 346 0) from dkN_sub f256_3 rfl) (show dkN [(1, 5)] (I256_ 346 4) from dkN_sub f256_4 rfl) (lv_sub hl [0, 1, 2, 3, 4, 5, 6, 7, 8] rfl)
        ·
          have d3 : dkN [(-2147483647, 2147483647)] x256_s1 := dkN_le2 1 (dkN_top x256_s0) (dkN_top x256_s1) (dkc_nle c2) rfl
          have d4 : dkN [(-2147483648, 2147483646)] x256_s0 := dkN_le1 1 (dkN_top x256_s0) (dkN_top x256_s1) (dkc_nle c2) rfl
          refine lv_iload hx hb dX6_drawn_259 (lv_at hl 8 rfl) ?_
          refine lv_goto (tgt := 266) hx hb dX6_drawn_261 (by decide) ?_
          exact C266 I256_ _ _ ls x225_9 hW hS hF hO (dkN_sub r256_6 rfl) (dkN_sub r256_0 rfl) (dkN_sub r256_1 rfl) (dkN_sub r256_2 rfl) (dkL_sub r256_3 rfl) (dkN_sub r256_4 rfl) (dkN_sub r256_5 rfl) (dkN_sub r256_6 rfl) (show dkN [(0, 0)] (I256_ 340 20) from dkN_sub f256_0 rfl) (show dkN [(0, 0)] (I256_ 340 21) from dkN_sub f256_1 rfl) (show dkN [(0, 0)] (I256_ 340 22) from dkN_sub f256_2 rfl) (show dkN [(1, 9)] (I256_ 346 0) from dkN_sub f256_3 rfl) (show dkN [(1, 5)] (I256_ 346 4) from dkN_sub f256_4 rfl) (lv_sub hl [0, 1, 2, 3, 4, 5, 6, 7, 8] rfl)
      refine lv_iload hx hb dX6_drawn_225 (lv_at hl 8 rfl) ?_
      refine lv_iconst (v := 5) hx hb dX6_drawn_227 (by decide) ?_
      refine lv_icmp_ge (tgt := 274) hx hb dX6_drawn_228 (by decide) (fun c5 => ?_) (fun c5 => ?_)
      ·
        have d6 : dkN [(5, 5)] x225_9 := dkN_le2 0 (dkN_lit (x := 5) (5) rfl) k225_4 (dkc_le c5) rfl
        refine lv_iload_n hx hb dX6_drawn_274 rfl (lv_at hl 3 rfl) ?_
        refine lv_if_ne (tgt := 283) hx hb dX6_drawn_275 (by decide) (fun c7 => ?_) (fun c7 => ?_)
        ·
          have d8 : dkN [(1, 1)] p2 := dkN_ne1 (0) r225_2 (dkN_lit (x := 0) (0) rfl) (dk_ne c7) rfl
          refine lv_iload hx hb dX6_drawn_283 (lv_at hl 7 rfl) ?_
          exact W.iret (v := x225_8) hx hb hr (fun t ht hW9 => ⟨⟨x225_8, I225_, rfl, ⟨hF, hO, ⟨trivial, (show dkN [(1, 5)] (I225_ 346 4) from dkN_sub f225_4 rfl), trivial⟩⟩, dkW_eq ht hW⟩, hS.F ht⟩) hS.2.2 dX6_drawn_285
        ·
          have d9 : dkN [(0, 0)] p2 := dkN_eq1 r225_2 (dkN_lit (x := 0) (0) rfl) (congrArg Int32.toInt c7) rfl
          refine lv_iload hx hb dX6_drawn_278 (lv_at hl 5 rfl) ?_
          refine lv_goto (tgt := 285) hx hb dX6_drawn_280 (by decide) ?_
          exact W.iret (v := x225_6) hx hb hr (fun t ht hW9 => ⟨⟨x225_6, I225_, rfl, ⟨hF, hO, ⟨trivial, (show dkN [(1, 5)] (I225_ 346 4) from dkN_sub f225_4 rfl), trivial⟩⟩, dkW_eq ht hW⟩, hS.F ht⟩) hS.2.2 dX6_drawn_285
      ·
        have d10 : dkN [(0, 4)] x225_9 := dkN_le1 1 k225_4 (dkN_lit (x := 5) (5) rfl) (dkc_nle c5) rfl
        refine lv_aload_n hx hb dX6_drawn_231 rfl (lv_at hl 0 rfl) ?_
        refine dk_get (k := 340) hx hb hts iX6_drawn_6 hown hK (dk_at340 hW) rfl 23 (by decide) (hts (.fieldLink RX6 44 "DogKingsModel" "crowns" "[I") (List.mem_of_getElem? (i := 4) rfl)) rfl dX6_drawn_232 ?_
        refine lv_iload hx hb dX6_drawn_235 (lv_at hl 8 rfl) ?_
        refine dk_ild (k := 352) hx hb hK (dk_at352 hW) (dkN_in (n := 5) d10 rfl) dX6_drawn_237 ?_
        refine lv_topi (fun v11 ev11 => ?_)
        refine lv_iload hx hb dX6_drawn_238 (lv_at hl 7 rfl) ?_
        refine lv_ldc (v := (-1000000)) hx hb hown (hts (.constant RX6 50 (-1000000)) (List.mem_of_getElem? (i := 10) rfl)) dX6_drawn_240 ?_
        refine lv_icmp_ne (tgt := 249) hx hb dX6_drawn_242 (by decide) (fun c12 => ?_) (fun c12 => ?_)
        ·
          have d13 : dkN [(0, 4)] x225_8 := dkN_ne1 (-1000000) k225_3 (dkN_lit (x := (-1000000)) (-1000000) rfl) (dk_ne c12) rfl
          refine lv_aload_n hx hb dX6_drawn_249 rfl (lv_at hl 0 rfl) ?_
          refine dk_get (k := 340) hx hb hts iX6_drawn_6 hown hK (dk_at340 hW) rfl 23 (by decide) (hts (.fieldLink RX6 44 "DogKingsModel" "crowns" "[I") (List.mem_of_getElem? (i := 4) rfl)) rfl dX6_drawn_250 ?_
          refine lv_iload hx hb dX6_drawn_253 (lv_at hl 7 rfl) ?_
          refine dk_ild (k := 352) hx hb hK (dk_at352 hW) (dkN_in (n := 5) d13 rfl) dX6_drawn_255 ?_
          refine lv_topi (fun v14 ev14 => ?_)
          exact C256 I225_ _ _ ls v14 v11 hW hS hF hO (dkN_sub r225_0 rfl) (dkN_sub r225_1 rfl) (dkN_sub r225_2 rfl) (dkL_sub k225_0 rfl) (dkN_sub k225_2 rfl) (dkN_sub d13 rfl) (dkN_sub d10 rfl) (show dkN [(0, 0)] (I225_ 340 20) from dkN_sub f225_0 rfl) (show dkN [(0, 0)] (I225_ 340 21) from dkN_sub f225_1 rfl) (show dkN [(0, 0)] (I225_ 340 22) from dkN_sub f225_2 rfl) (show dkN [(1, 9)] (I225_ 346 0) from dkN_sub f225_3 rfl) (show dkN [(1, 5)] (I225_ 346 4) from dkN_sub f225_4 rfl) (lv_sub hl [0, 1, 2, 3, 4, 5, 6, 7, 8] rfl)
        ·
          have d15 : dkN [(-1000000, -1000000)] x225_8 := dkN_eq1 k225_3 (dkN_lit (x := (-1000000)) (-1000000) rfl) (congrArg Int32.toInt c12) rfl
          refine lv_iconst (v := 0) hx hb dX6_drawn_245 (by decide) ?_
          refine lv_goto (tgt := 256) hx hb dX6_drawn_246 (by decide) ?_
          exact C256 I225_ _ _ ls 0 v11 hW hS hF hO (dkN_sub r225_0 rfl) (dkN_sub r225_1 rfl) (dkN_sub r225_2 rfl) (dkL_sub k225_0 rfl) (dkN_sub k225_2 rfl) (dkN_sub d15 rfl) (dkN_sub d10 rfl) (show dkN [(0, 0)] (I225_ 340 20) from dkN_sub f225_0 rfl) (show dkN [(0, 0)] (I225_ 340 21) from dkN_sub f225_1 rfl) (show dkN [(0, 0)] (I225_ 340 22) from dkN_sub f225_2 rfl) (show dkN [(1, 9)] (I225_ 346 0) from dkN_sub f225_3 rfl) (show dkN [(1, 5)] (I225_ 346 4) from dkN_sub f225_4 rfl) (lv_sub hl [0, 1, 2, 3, 4, 5, 6, 7, 8] rfl)
  have C79 : ∀ (n : Nat), ∀ (I : dkI) (H : Heap) (locs : List Loc) (ls : Array Slot) (x79_4 : Int64) (x79_6 : Int32) (x79_7 : Int32), dkMu x79_7 (I 348 1) (I 348 3) < n → dkW g z I H → va_S (dkA z) s.heap H locs → dkF [(340, 340, 20, 22), (348, 348, 0, 53), (352, 352, 0, 4)] I0 I → dkOk I → dkL [(0, 2147483646)] x79_4 → dkN [(0, 9)] x79_7 → dkN [(0, 9)] p0 → dkN [(1, 999999)] p1 → dkN [(0, 1)] p2 → dkN [(0, 0)] (I 340 20) → dkN [(0, 0)] (I 340 21) → dkN [(0, 0)] (I 340 22) → dkN [(1, 9)] (I 346 0) → dkN [(1, 5)] (I 346 4) → lv_has ls 10 [(0, .ref (z + 340)), (1, .int p0), (2, .int p1), (3, .int p2), (4, .long x79_4), (6, .int x79_6), (7, .int x79_7)] → W p l e (headSpec wsX6_drawn (dkR 5)).room s m args below meth c H locs 0 0 (MQ below (dkQi g z (fun r I1 => dkF [(340, 340, 20, 22), (348, 348, 0, 53), (352, 352, 0, 4)] I0 I1 ∧ dkOk I1 ∧ ((True ∧ dkN [(1, 5)] (I1 346 4) ∧ True)))) args s 0 0 (dkA z)) (F0 m 79 ls []) := by
    intro n
    induction n with
    | zero => intro I H locs ls x79_4 x79_6 x79_7 hn; exact absurd hn (Nat.not_lt_zero _)
    | succ n ih79 =>
      intro I79_ H locs ls x79_4 x79_6 x79_7 hn79 hW hS hF_79 hO k79_0 k79_2 r79_0 r79_1 r79_2 f79_0 f79_1 f79_2 f79_3 f79_4 hl
      have hF := hF_79
      have C210 : ∀ (I : dkI) (H : Heap) (locs : List Loc) (ls : Array Slot) (x210_4 : Int64) (x210_6 : Int32) (x210_8 : Int32) (x210_s0 : Int32) (x210_s1 : Int32) (x210_s2 : Int32), dkW g z I H → va_S (dkA z) s.heap H locs → dkF [(340, 340, 20, 22), (348, 348, 0, 53), (352, 352, 0, 4)] I0 I → dkOk I → dkL [(0, 2147483646)] x210_4 → dkN [(-1000000, -1000000), (0, 4)] x210_8 → dkN [(0, 1)] x210_s0 → dkN [(0, 4)] x210_s2 → dkN [(1, 9)] p0 → dkN [(1, 999999)] p1 → dkN [(0, 1)] p2 → dkN [(0, 8)] x79_7 → dkN [(0, 0)] (I 340 20) → dkN [(0, 0)] (I 340 21) → dkN [(0, 0)] (I 340 22) → dkN [(1, 9)] (I 346 0) → dkN [(1, 5)] (I 346 4) → dkN [(0, 0)] (I 348 3) → lv_has ls 10 [(0, .ref (z + 340)), (1, .int p0), (2, .int p1), (3, .int p2), (4, .long x210_4), (6, .int x210_6), (7, .int x79_7), (8, .int x210_8)] → W p l e (headSpec wsX6_drawn (dkR 5)).room s m args below meth c H locs 0 0 (MQ below (dkQi g z (fun r I1 => dkF [(340, 340, 20, 22), (348, 348, 0, 53), (352, 352, 0, 4)] I0 I1 ∧ dkOk I1 ∧ ((True ∧ dkN [(1, 5)] (I1 346 4) ∧ True)))) args s 0 0 (dkA z)) (F0 m 210 ls [.int x210_s0, .int x210_s1, .int x210_s2, .ref (z + 352)]) := by
        intro I210_ H locs ls x210_4 x210_6 x210_8 x210_s0 x210_s1 x210_s2 hW hS hF_210 hO k210_0 k210_2 k210_3 k210_5 r210_0 r210_1 r210_2 r210_3 f210_0 f210_1 f210_2 f210_3 f210_4 f210_5 hl
        have hF := hF_210
        refine lv_iadd hx hb dX6_drawn_210 ?_
        refine lv_topi (fun v16 ev16 => ?_)
        refine dk_ist (k := 352) hx hb hK hW (fun _ => rfl) (by decide) hS (dkN_in (n := 5) k210_5 rfl) dX6_drawn_211 (fun I17 H17 L17 eI17 hW hS => ?_)
        have hO := dkO_set hO eI17 (dkN_sub (dkN_top v16) rfl)
        have hF := dkF_set hF eI17 (dkIn_v k210_5 rfl)
        obtain ⟨v18, ev18⟩ : ∃ y : Int32, y = x79_7 + 1 := ⟨_, rfl⟩
        have dv18 : dkN [(1, 9)] v18 := by rw [ev18]; exact dkN_add r210_3 (dkN_lit (x := 1) (1) rfl) rfl
        refine lv_iinc (v := v18) (lv' := [(7, .int v18), (0, .ref (z + 340)), (1, .int p0), (2, .int p1), (3, .int p2), (4, .long x210_4), (6, .int x210_6), (8, .int x210_8)]) hx hb dX6_drawn_212 hl (k := 6) rfl (by rw [ev18]; rfl) (by decide) rfl (fun ls hl => ?_)
        refine lv_goto (tgt := 79) hx hb dX6_drawn_215 (by decide) ?_
        exact ih79 I17 _ _ ls x210_4 x210_6 v18 (dk_muB hn79 (by rw [ev18]; exact dk_inc r210_3 rfl) (dkN_lt r210_3 rfl)) hW hS hF hO (dkL_sub k210_0 rfl) (dkN_sub dv18 rfl) (dkN_sub r210_0 rfl) (dkN_sub r210_1 rfl) (dkN_sub r210_2 rfl) (show dkN [(0, 0)] (I17 340 20) from dkN_sub (by rw [eI17, dkU_n (by decide)]; exact f210_0) rfl) (show dkN [(0, 0)] (I17 340 21) from dkN_sub (by rw [eI17, dkU_n (by decide)]; exact f210_1) rfl) (show dkN [(0, 0)] (I17 340 22) from dkN_sub (by rw [eI17, dkU_n (by decide)]; exact f210_2) rfl) (show dkN [(1, 9)] (I17 346 0) from dkN_sub (by rw [eI17, dkU_n (by decide)]; exact f210_3) rfl) (show dkN [(1, 5)] (I17 346 4) from dkN_sub (by rw [eI17, dkU_n (by decide)]; exact f210_4) rfl) (lv_sub hl [1, 2, 3, 4, 5, 6, 0] rfl)
      have C196 : ∀ (I : dkI) (H : Heap) (locs : List Loc) (ls : Array Slot) (x196_4 : Int64) (x196_6 : Int32) (x196_8 : Int32) (x196_s0 : Int32), dkW g z I H → va_S (dkA z) s.heap H locs → dkF [(340, 340, 20, 22), (348, 348, 0, 53), (352, 352, 0, 4)] I0 I → dkOk I → dkL [(0, 2147483646)] x196_4 → dkN [(-1000000, -1000000), (0, 4)] x196_8 → dkN [(0, 4)] x196_s0 → dkN [(1, 9)] p0 → dkN [(1, 999999)] p1 → dkN [(0, 1)] p2 → dkN [(0, 8)] x79_7 → dkN [(0, 0)] (I 340 20) → dkN [(0, 0)] (I 340 21) → dkN [(0, 0)] (I 340 22) → dkN [(1, 9)] (I 346 0) → dkN [(1, 5)] (I 346 4) → dkN [(0, 0)] (I 348 3) → lv_has ls 10 [(0, .ref (z + 340)), (1, .int p0), (2, .int p1), (3, .int p2), (4, .long x196_4), (6, .int x196_6), (7, .int x79_7), (8, .int x196_8)] → W p l e (headSpec wsX6_drawn (dkR 5)).room s m args below meth c H locs 0 0 (MQ below (dkQi g z (fun r I1 => dkF [(340, 340, 20, 22), (348, 348, 0, 53), (352, 352, 0, 4)] I0 I1 ∧ dkOk I1 ∧ ((True ∧ dkN [(1, 5)] (I1 346 4) ∧ True)))) args s 0 0 (dkA z)) (F0 m 196 ls [.int x196_s0, .ref (z + 352)]) := by
        intro I196_ H locs ls x196_4 x196_6 x196_8 x196_s0 hW hS hF_196 hO k196_0 k196_2 k196_3 r196_0 r196_1 r196_2 r196_3 f196_0 f196_1 f196_2 f196_3 f196_4 f196_5 hl
        have hF := hF_196
        refine lv_dup2_11 hx hb dX6_drawn_196 rfl rfl ?_
        refine dk_ild (k := 352) hx hb hK (dk_at352 hW) (dkN_in (n := 5) k196_3 rfl) dX6_drawn_197 ?_
        refine lv_topi (fun v19 ev19 => ?_)
        refine lv_iload hx hb dX6_drawn_198 (lv_at hl 7 rfl) ?_
        refine lv_ldc (v := (-1000000)) hx hb hown (hts (.constant RX6 50 (-1000000)) (List.mem_of_getElem? (i := 10) rfl)) dX6_drawn_200 ?_
        refine lv_icmp_ne (tgt := 209) hx hb dX6_drawn_202 (by decide) (fun c20 => ?_) (fun c20 => ?_)
        ·
          have d21 : dkN [(0, 4)] x196_8 := dkN_ne1 (-1000000) k196_2 (dkN_lit (x := (-1000000)) (-1000000) rfl) (dk_ne c20) rfl
          refine lv_iconst (v := 1) hx hb dX6_drawn_209 (by decide) ?_
          exact C210 I196_ _ _ ls x196_4 x196_6 x196_8 1 v19 x196_s0 hW hS hF hO (dkL_sub k196_0 rfl) (dkN_sub d21 rfl) (dkN_sub (dkN_lit (x := 1) (1) rfl) rfl) (dkN_sub k196_3 rfl) (dkN_sub r196_0 rfl) (dkN_sub r196_1 rfl) (dkN_sub r196_2 rfl) (dkN_sub r196_3 rfl) (show dkN [(0, 0)] (I196_ 340 20) from dkN_sub f196_0 rfl) (show dkN [(0, 0)] (I196_ 340 21) from dkN_sub f196_1 rfl) (show dkN [(0, 0)] (I196_ 340 22) from dkN_sub f196_2 rfl) (show dkN [(1, 9)] (I196_ 346 0) from dkN_sub f196_3 rfl) (show dkN [(1, 5)] (I196_ 346 4) from dkN_sub f196_4 rfl) (show dkN [(0, 0)] (I196_ 348 3) from dkN_sub f196_5 rfl) (lv_sub hl [0, 1, 2, 3, 4, 5, 6, 7] rfl)
        ·
          have d22 : dkN [(-1000000, -1000000)] x196_8 := dkN_eq1 k196_2 (dkN_lit (x := (-1000000)) (-1000000) rfl) (congrArg Int32.toInt c20) rfl
          refine lv_iconst (v := 0) hx hb dX6_drawn_205 (by decide) ?_
          refine lv_goto (tgt := 210) hx hb dX6_drawn_206 (by decide) ?_
          exact C210 I196_ _ _ ls x196_4 x196_6 x196_8 0 v19 x196_s0 hW hS hF hO (dkL_sub k196_0 rfl) (dkN_sub d22 rfl) (dkN_sub (dkN_lit (x := 0) (0) rfl) rfl) (dkN_sub k196_3 rfl) (dkN_sub r196_0 rfl) (dkN_sub r196_1 rfl) (dkN_sub r196_2 rfl) (dkN_sub r196_3 rfl) (show dkN [(0, 0)] (I196_ 340 20) from dkN_sub f196_0 rfl) (show dkN [(0, 0)] (I196_ 340 21) from dkN_sub f196_1 rfl) (show dkN [(0, 0)] (I196_ 340 22) from dkN_sub f196_2 rfl) (show dkN [(1, 9)] (I196_ 346 0) from dkN_sub f196_3 rfl) (show dkN [(1, 5)] (I196_ 346 4) from dkN_sub f196_4 rfl) (show dkN [(0, 0)] (I196_ 348 3) from dkN_sub f196_5 rfl) (lv_sub hl [0, 1, 2, 3, 4, 5, 6, 7] rfl)
      have C176 : ∀ (I : dkI) (H : Heap) (locs : List Loc) (ls : Array Slot) (x176_4 : Int64) (x176_8 : Int32) (x176_s0 : Int32), dkW g z I H → va_S (dkA z) s.heap H locs → dkF [(340, 340, 20, 22), (348, 348, 0, 53), (352, 352, 0, 4)] I0 I → dkOk I → dkL [(0, 2147483646)] x176_4 → dkN [(-1000000, -1000000), (0, 4)] x176_8 → dkN [(0, 1)] x176_s0 → dkN [(1, 9)] p0 → dkN [(1, 999999)] p1 → dkN [(0, 1)] p2 → dkN [(0, 8)] x79_7 → dkN [(0, 0)] (I 340 20) → dkN [(0, 0)] (I 340 21) → dkN [(0, 0)] (I 340 22) → dkN [(1, 9)] (I 346 0) → dkN [(1, 5)] (I 346 4) → dkN [(0, 0)] (I 348 3) → lv_has ls 10 [(0, .ref (z + 340)), (1, .int p0), (2, .int p1), (3, .int p2), (4, .long x176_4), (6, .int x79_6), (7, .int x79_7), (8, .int x176_8)] → W p l e (headSpec wsX6_drawn (dkR 5)).room s m args below meth c H locs 0 0 (MQ below (dkQi g z (fun r I1 => dkF [(340, 340, 20, 22), (348, 348, 0, 53), (352, 352, 0, 4)] I0 I1 ∧ dkOk I1 ∧ ((True ∧ dkN [(1, 5)] (I1 346 4) ∧ True)))) args s 0 0 (dkA z)) (F0 m 176 ls [.int x176_s0, .int x79_6]) := by
        intro I176_ H locs ls x176_4 x176_8 x176_s0 hW hS hF_176 hO k176_0 k176_1 k176_2 r176_0 r176_1 r176_2 r176_3 f176_0 f176_1 f176_2 f176_3 f176_4 f176_5 hl
        have hF := hF_176
        refine lv_iadd hx hb dX6_drawn_176 ?_
        refine lv_topi (fun v23 ev23 => ?_)
        refine lv_istore (lv' := [(6, .int v23), (0, .ref (z + 340)), (1, .int p0), (2, .int p1), (3, .int p2), (4, .long x176_4), (7, .int x79_7), (8, .int x176_8)]) hx hb dX6_drawn_177 hl (by decide) rfl (fun ls hl => ?_)
        refine lv_aload_n hx hb dX6_drawn_179 rfl (lv_at hl 1 rfl) ?_
        refine dk_get (k := 340) hx hb hts iX6_drawn_6 hown hK (dk_at340 hW) rfl 23 (by decide) (hts (.fieldLink RX6 44 "DogKingsModel" "crowns" "[I") (List.mem_of_getElem? (i := 4) rfl)) rfl dX6_drawn_180 ?_
        refine lv_iload hx hb dX6_drawn_183 (lv_at hl 7 rfl) ?_
        refine lv_ldc (v := (-1000000)) hx hb hown (hts (.constant RX6 50 (-1000000)) (List.mem_of_getElem? (i := 10) rfl)) dX6_drawn_185 ?_
        refine lv_icmp_ne (tgt := 194) hx hb dX6_drawn_187 (by decide) (fun c24 => ?_) (fun c24 => ?_)
        ·
          have d25 : dkN [(0, 4)] x176_8 := dkN_ne1 (-1000000) k176_1 (dkN_lit (x := (-1000000)) (-1000000) rfl) (dk_ne c24) rfl
          refine lv_iload hx hb dX6_drawn_194 (lv_at hl 7 rfl) ?_
          exact C196 I176_ _ _ ls x176_4 v23 x176_8 x176_8 hW hS hF hO (dkL_sub k176_0 rfl) (dkN_sub d25 rfl) (dkN_sub d25 rfl) (dkN_sub r176_0 rfl) (dkN_sub r176_1 rfl) (dkN_sub r176_2 rfl) (dkN_sub r176_3 rfl) (show dkN [(0, 0)] (I176_ 340 20) from dkN_sub f176_0 rfl) (show dkN [(0, 0)] (I176_ 340 21) from dkN_sub f176_1 rfl) (show dkN [(0, 0)] (I176_ 340 22) from dkN_sub f176_2 rfl) (show dkN [(1, 9)] (I176_ 346 0) from dkN_sub f176_3 rfl) (show dkN [(1, 5)] (I176_ 346 4) from dkN_sub f176_4 rfl) (show dkN [(0, 0)] (I176_ 348 3) from dkN_sub f176_5 rfl) (lv_sub hl [1, 2, 3, 4, 5, 0, 6, 7] rfl)
        ·
          have d26 : dkN [(-1000000, -1000000)] x176_8 := dkN_eq1 k176_1 (dkN_lit (x := (-1000000)) (-1000000) rfl) (congrArg Int32.toInt c24) rfl
          refine lv_iconst (v := 0) hx hb dX6_drawn_190 (by decide) ?_
          refine lv_goto (tgt := 196) hx hb dX6_drawn_191 (by decide) ?_
          exact C196 I176_ _ _ ls x176_4 v23 x176_8 0 hW hS hF hO (dkL_sub k176_0 rfl) (dkN_sub d26 rfl) (dkN_sub (dkN_lit (x := 0) (0) rfl) rfl) (dkN_sub r176_0 rfl) (dkN_sub r176_1 rfl) (dkN_sub r176_2 rfl) (dkN_sub r176_3 rfl) (show dkN [(0, 0)] (I176_ 340 20) from dkN_sub f176_0 rfl) (show dkN [(0, 0)] (I176_ 340 21) from dkN_sub f176_1 rfl) (show dkN [(0, 0)] (I176_ 340 22) from dkN_sub f176_2 rfl) (show dkN [(1, 9)] (I176_ 346 0) from dkN_sub f176_3 rfl) (show dkN [(1, 5)] (I176_ 346 4) from dkN_sub f176_4 rfl) (show dkN [(0, 0)] (I176_ 348 3) from dkN_sub f176_5 rfl) (lv_sub hl [1, 2, 3, 4, 5, 0, 6, 7] rfl)
      refine lv_iload hx hb dX6_drawn_79 (lv_at hl 6 rfl) ?_
      refine lv_iload_n hx hb dX6_drawn_81 rfl (lv_at hl 1 rfl) ?_
      refine lv_icmp_ge (tgt := 218) hx hb dX6_drawn_82 (by decide) (fun c27 => ?_) (fun c27 => ?_)
      ·
        refine lv_ldc (v := (-1000000)) hx hb hown (hts (.constant RX6 50 (-1000000)) (List.mem_of_getElem? (i := 10) rfl)) dX6_drawn_218 ?_
        refine lv_istore (lv' := [(8, .int ((-1000000))), (0, .ref (z + 340)), (1, .int p0), (2, .int p1), (3, .int p2), (4, .long x79_4), (6, .int x79_6), (7, .int x79_7)]) hx hb dX6_drawn_220 hl (by decide) rfl (fun ls hl => ?_)
        refine lv_iconst (v := 0) hx hb dX6_drawn_222 (by decide) ?_
        refine lv_istore (lv' := [(9, .int 0), (8, .int ((-1000000))), (0, .ref (z + 340)), (1, .int p0), (2, .int p1), (3, .int p2), (4, .long x79_4), (6, .int x79_6), (7, .int x79_7)]) hx hb dX6_drawn_223 hl (by decide) rfl (fun ls hl => ?_)
        exact C225 _ I79_ _ _ ls x79_4 x79_6 x79_7 ((-1000000)) 0 (Nat.lt_succ_self _) hW hS hF hO (dkL_sub k79_0 rfl) (dkN_sub k79_2 rfl) (dkN_sub (dkN_lit (x := (-1000000)) (-1000000) rfl) rfl) (dkN_sub (dkN_lit (x := 0) (0) rfl) rfl) (dkN_sub r79_0 rfl) (dkN_sub r79_1 rfl) (dkN_sub r79_2 rfl) (show dkN [(0, 0)] (I79_ 340 20) from dkN_sub f79_0 rfl) (show dkN [(0, 0)] (I79_ 340 21) from dkN_sub f79_1 rfl) (show dkN [(0, 0)] (I79_ 340 22) from dkN_sub f79_2 rfl) (show dkN [(1, 9)] (I79_ 346 0) from dkN_sub f79_3 rfl) (show dkN [(1, 5)] (I79_ 346 4) from dkN_sub f79_4 rfl) (lv_sub hl [2, 3, 4, 5, 6, 7, 8, 1, 0] rfl)
      ·
        have d28 : dkN [(1, 9)] p0 := dkN_le2 1 k79_2 r79_0 (dkc_nle c27) rfl
        have d29 : dkN [(0, 8)] x79_7 := dkN_le1 1 k79_2 r79_0 (dkc_nle c27) rfl
        refine lv_lload hx hb dX6_drawn_85 (lv_at hl 4 rfl) ?_
        refine lv_ldc2 (v := 16807) hx hb hown (hts (.constantLong RX6 243 (16807)) (List.mem_of_getElem? (i := 5) rfl)) dX6_drawn_87 ?_
        refine lv_lmul hx hb dX6_drawn_90 ?_
        refine lv_topl (fun v30 ev30 => ?_)
        have dv30 : dkL [(0, 36092757638322)] v30 := by rw [ev30]; exact dkL_mul 16807 (by decide) k79_0 (dkL_lit (x := 16807) (16807) rfl) rfl
        refine lv_ldc2 (v := 2147483647) hx hb hown (hts (.constantLong RX6 245 (2147483647)) (List.mem_of_getElem? (i := 6) rfl)) dX6_drawn_91 ?_
        refine lv_lrem hx hb dX6_drawn_94 (dkL_ne0 (dkL_lit (x := 2147483647) (2147483647) rfl) rfl) ?_
        refine lv_topl (fun v31 ev31 => ?_)
        have dv31 : dkL [(0, 2147483646)] v31 := by rw [ev31]; exact dkL_rem 2147483647 dv30 (dkL_lit (x := 2147483647) (2147483647) rfl) rfl
        refine lv_lstore (lv' := [(4, .long v31), (0, .ref (z + 340)), (1, .int p0), (2, .int p1), (3, .int p2), (6, .int x79_6), (7, .int x79_7)]) hx hb dX6_drawn_95 hl (by decide) rfl (fun ls hl => ?_)
        refine lv_aload_n hx hb dX6_drawn_97 rfl (lv_at hl 1 rfl) ?_
        refine dk_get (k := 340) hx hb hts iX6_drawn_6 hown hK (dk_at340 hW) rfl 15 (by decide) (hts (.fieldLink RX6 31 "DogKingsModel" "tried" "[I") (List.mem_of_getElem? (i := 7) rfl)) rfl dX6_drawn_98 ?_
        refine lv_bipush (v := 6) hx hb dX6_drawn_101 (by decide) ?_
        refine lv_bipush (v := 6) hx hb dX6_drawn_103 (by decide) ?_
        refine lv_lload hx hb dX6_drawn_105 (lv_at hl 0 rfl) ?_
        refine lv_aload_n hx hb dX6_drawn_107 rfl (lv_at hl 1 rfl) ?_
        refine dk_get (k := 340) hx hb hts iX6_drawn_6 hown hK (dk_at340 hW) rfl 13 (by decide) (hts (.fieldLink RX6 25 "DogKingsModel" "now" "[I") (List.mem_of_getElem? (i := 8) rfl)) rfl dX6_drawn_108 ?_
        refine lv_iconst (v := 4) hx hb dX6_drawn_111 (by decide) ?_
        refine dk_ild (k := 346) hx hb hK (dk_at346 hW) (dkN_in (n := 54) (dkN_lit (x := 4) (4) rfl) rfl) dX6_drawn_112 ?_
        refine lv_topi (fun v32 ev32 => ?_)
        have ev32 : v32 = I79_ 346 4 := ev32
        have dv32 : dkN [(1, 5)] v32 := by rw [ev32]; exact (show dkN [(1, 5)] (I79_ 346 4) from f79_4)
        refine lv_i2l hx hb dX6_drawn_113 rfl ?_
        refine lv_topl (fun v33 ev33 => ?_)
        have dv33 : dkL [(1, 5)] v33 := by rw [ev33]; exact dkL_of dv32
        refine lv_lrem hx hb dX6_drawn_114 (dkL_ne0 dv33 rfl) ?_
        refine lv_topl (fun v34 ev34 => ?_)
        have dv34 : dkL [(0, 4)] v34 := by rw [ev34]; exact dkL_rem 5 dv31 dv33 rfl
        refine lv_l2i hx hb dX6_drawn_115 rfl ?_
        refine lv_topi (fun v35 ev35 => ?_)
        have dv35 : dkN [(0, 4)] v35 := by rw [ev35]; exact dkN_ofL dv34 rfl
        refine lv_imul hx hb dX6_drawn_116 ?_
        refine lv_topi (fun v36 ev36 => ?_)
        have dv36 : dkN [(0, 24)] v36 := by rw [ev36]; exact dkN_mulL 6 (by decide) (dkN_lit (x := 6) (6) rfl) dv35 rfl
        refine lv_iadd hx hb dX6_drawn_117 ?_
        refine lv_topi (fun v37 ev37 => ?_)
        have dv37 : dkN [(6, 30)] v37 := by rw [ev37]; exact dkN_add (dkN_lit (x := 6) (6) rfl) dv36 rfl
        refine lv_iconst (v := 3) hx hb dX6_drawn_118 (by decide) ?_
        refine lv_iadd hx hb dX6_drawn_119 ?_
        refine lv_topi (fun v38 ev38 => ?_)
        have dv38 : dkN [(9, 33)] v38 := by rw [ev38]; exact dkN_add dv37 (dkN_lit (x := 3) (3) rfl) rfl
        refine lv_lload hx hb dX6_drawn_120 (lv_at hl 0 rfl) ?_
        refine lv_ldc2 (v := 10) hx hb hown (hts (.constantLong RX6 247 (10)) (List.mem_of_getElem? (i := 9) rfl)) dX6_drawn_122 ?_
        refine lv_lrem hx hb dX6_drawn_125 (dkL_ne0 (dkL_lit (x := 10) (10) rfl) rfl) ?_
        refine lv_topl (fun v39 ev39 => ?_)
        have dv39 : dkL [(0, 9)] v39 := by rw [ev39]; exact dkL_rem 10 dv31 (dkL_lit (x := 10) (10) rfl) rfl
        refine lv_l2i hx hb dX6_drawn_126 rfl ?_
        refine lv_topi (fun v40 ev40 => ?_)
        have dv40 : dkN [(0, 9)] v40 := by rw [ev40]; exact dkN_ofL dv39 rfl
        refine dk_ist (k := 348) hx hb hK hW (fun _ => rfl) (by decide) hS (dkN_in (n := 54) dv38 rfl) dX6_drawn_127 (fun I41 H41 L41 eI41 hW hS => ?_)
        have hO := dkO_set hO eI41 (by rw [dkB_w (k := 348) (B := [(-2147483648, 2147483647)]) (by decide) dv38 rfl]; exact dkN_top _)
        have hF := dkF_set hF eI41 (dkIn_v dv38 rfl)
        refine lv_aload_n hx hb dX6_drawn_128 rfl (lv_at hl 1 rfl) ?_
        refine dk_get (k := 340) hx hb hts iX6_drawn_6 hown hK (dk_at340 hW) rfl 15 (by decide) (hts (.fieldLink RX6 31 "DogKingsModel" "tried" "[I") (List.mem_of_getElem? (i := 7) rfl)) rfl dX6_drawn_129 ?_
        refine lv_iconst (v := 0) hx hb dX6_drawn_132 (by decide) ?_
        refine lv_iconst (v := 0) hx hb dX6_drawn_133 (by decide) ?_
        refine lv_iconst (v := 0) hx hb dX6_drawn_134 (by decide) ?_
        refine dk_Sv (As := [.ref (z + 348), .int 0, .int 0, .int 0]) (rest := []) ⟨hx, hb, hml, hown, hts⟩ (c_X6_steps_1 l g z I41 0 0 0 hO) (va_cwS 4 hts gX6_drawn_X6_steps rfl rfl rfl (by decide +kernel) ⟨Nat.le_of_ble_eq_true rfl, Nat.le_of_ble_eq_true rfl⟩) hK hT hW hS rfl hl.1 rfl (Nat.le_of_ble_eq_true rfl) dX6_drawn_135 ⟨Nat.zero_le _, Nat.zero_le _⟩ (fun I42 H42 L42 hp42 hW hS => ?_)
        obtain ⟨hF42, hO, hi42_0, hc42⟩ := hp42
        have hF := dkF_call hF hF42 rfl
        refine lv_aload_n hx hb dX6_drawn_138 rfl (lv_at hl 1 rfl) ?_
        refine dk_get (k := 340) hx hb hts iX6_drawn_6 hown hK (dk_at340 hW) rfl 15 (by decide) (hts (.fieldLink RX6 31 "DogKingsModel" "tried" "[I") (List.mem_of_getElem? (i := 7) rfl)) rfl dX6_drawn_139 ?_
        refine lv_iconst (v := 3) hx hb dX6_drawn_142 (by decide) ?_
        refine dk_ild (k := 348) hx hb hK (dk_at348 hW) (dkN_in (n := 54) (dkN_lit (x := 3) (3) rfl) rfl) dX6_drawn_143 ?_
        refine lv_topi (fun v43 ev43 => ?_)
        have ev43 : v43 = I42 348 3 := ev43
        refine lv_aload_n hx hb dX6_drawn_144 rfl (lv_at hl 1 rfl) ?_
        refine dk_get (k := 340) hx hb hts iX6_drawn_6 hown hK (dk_at340 hW) rfl 15 (by decide) (hts (.fieldLink RX6 31 "DogKingsModel" "tried" "[I") (List.mem_of_getElem? (i := 7) rfl)) rfl dX6_drawn_145 ?_
        refine lv_iconst (v := 1) hx hb dX6_drawn_148 (by decide) ?_
        refine dk_ild (k := 348) hx hb hK (dk_at348 hW) (dkN_in (n := 54) (dkN_lit (x := 1) (1) rfl) rfl) dX6_drawn_149 ?_
        refine lv_topi (fun v44 ev44 => ?_)
        have ev44 : v44 = I42 348 1 := ev44
        have dv44 : dkN [(0, 30)] v44 := by rw [ev44]; exact (show dkN [(0, 30)] (I42 348 1) from (hO 348 1))
        refine lv_icmp_ne (tgt := 79) hx hb dX6_drawn_150 (by decide) (fun c45 => ?_) (fun c45 => ?_)
        ·
          exact ih79 I42 _ _ ls v31 x79_6 x79_7 (dk_muN hn79 ((hF42 348 1 rfl).trans ((by rw [eI41, dkU_sn (dkN_njx dv38 rfl)] : I41 348 1 = _).trans rfl)) (dk_incEq hi42_0 ((by rw [eI41, dkU_sn (dkN_njx dv38 rfl)] : I41 348 3 = _).trans rfl)) (by rw [← ev43, ← ev44]; exact c45)) hW hS hF hO (dkL_sub dv31 rfl) (dkN_sub d29 rfl) (dkN_sub d28 rfl) (dkN_sub r79_1 rfl) (dkN_sub r79_2 rfl) (show dkN [(0, 0)] (I42 340 20) from dkN_sub (by rw [hF42 340 20 rfl]; exact (by rw [eI41, dkU_n (by decide)]; exact f79_0)) rfl) (show dkN [(0, 0)] (I42 340 21) from dkN_sub (by rw [hF42 340 21 rfl]; exact (by rw [eI41, dkU_n (by decide)]; exact f79_1)) rfl) (show dkN [(0, 0)] (I42 340 22) from dkN_sub (by rw [hF42 340 22 rfl]; exact (by rw [eI41, dkU_n (by decide)]; exact f79_2)) rfl) (show dkN [(1, 9)] (I42 346 0) from dkN_sub (by rw [hF42 346 0 rfl]; exact (by rw [eI41, dkU_n (by decide)]; exact f79_3)) rfl) (show dkN [(1, 5)] (I42 346 4) from dkN_sub (by rw [hF42 346 4 rfl]; exact (by rw [eI41, dkU_n (by decide)]; exact f79_4)) rfl) (lv_sub hl [1, 2, 3, 4, 0, 5, 6] rfl)
        ·
          have d46 : dkN [(0, 30)] v43 := dkN_eq1 (dkN_top v43) dv44 (congrArg Int32.toInt c45) rfl
          have f47 : dkN [(0, 30)] (I42 348 3) := by rw [← ev43]; exact d46
          refine lv_aload_n hx hb dX6_drawn_153 rfl (lv_at hl 1 rfl) ?_
          refine dk_get (k := 340) hx hb hts iX6_drawn_6 hown hK (dk_at340 hW) rfl 15 (by decide) (hts (.fieldLink RX6 31 "DogKingsModel" "tried" "[I") (List.mem_of_getElem? (i := 7) rfl)) rfl dX6_drawn_154 ?_
          refine dk_Si (As := [.ref (z + 348)]) (rest := []) ⟨hx, hb, hml, hown, hts⟩ (c_X6_rings_1 l g z I42 hO) (va_cwS 1 hts gX6_drawn_X6_rings rfl rfl rfl (by decide +kernel) ⟨Nat.le_of_ble_eq_true rfl, Nat.le_of_ble_eq_true rfl⟩) hK hT hW hS rfl hl.1 rfl (Nat.le_of_ble_eq_true rfl) dX6_drawn_157 ⟨Nat.zero_le _, Nat.zero_le _⟩ (fun v48 I48 H48 L48 hp48 hW hS => ?_)
          obtain ⟨hF48, hO, hc48⟩ := hp48
          have hF := dkF_call hF hF48 rfl
          obtain ⟨dv48, f48_348_3, -⟩ := hc48
          refine lv_istore (lv' := [(8, .int v48), (4, .long v31), (0, .ref (z + 340)), (1, .int p0), (2, .int p1), (3, .int p2), (6, .int x79_6), (7, .int x79_7)]) hx hb dX6_drawn_160 hl (by decide) rfl (fun ls hl => ?_)
          refine lv_iload hx hb dX6_drawn_162 (lv_at hl 6 rfl) ?_
          refine lv_iload hx hb dX6_drawn_164 (lv_at hl 0 rfl) ?_
          refine lv_ldc (v := (-1000000)) hx hb hown (hts (.constant RX6 50 (-1000000)) (List.mem_of_getElem? (i := 10) rfl)) dX6_drawn_166 ?_
          refine lv_icmp_ne (tgt := 175) hx hb dX6_drawn_168 (by decide) (fun c49 => ?_) (fun c49 => ?_)
          ·
            have d50 : dkN [(0, 4)] v48 := dkN_ne1 (-1000000) dv48 (dkN_lit (x := (-1000000)) (-1000000) rfl) (dk_ne c49) rfl
            refine lv_iconst (v := 0) hx hb dX6_drawn_175 (by decide) ?_
            exact C176 I48 _ _ ls v31 v48 0 hW hS hF hO (dkL_sub dv31 rfl) (dkN_sub d50 rfl) (dkN_sub (dkN_lit (x := 0) (0) rfl) rfl) (dkN_sub d28 rfl) (dkN_sub r79_1 rfl) (dkN_sub r79_2 rfl) (dkN_sub d29 rfl) (show dkN [(0, 0)] (I48 340 20) from dkN_sub (by rw [hF48 340 20 rfl]; exact (by rw [hF42 340 20 rfl]; exact (by rw [eI41, dkU_n (by decide)]; exact f79_0))) rfl) (show dkN [(0, 0)] (I48 340 21) from dkN_sub (by rw [hF48 340 21 rfl]; exact (by rw [hF42 340 21 rfl]; exact (by rw [eI41, dkU_n (by decide)]; exact f79_1))) rfl) (show dkN [(0, 0)] (I48 340 22) from dkN_sub (by rw [hF48 340 22 rfl]; exact (by rw [hF42 340 22 rfl]; exact (by rw [eI41, dkU_n (by decide)]; exact f79_2))) rfl) (show dkN [(1, 9)] (I48 346 0) from dkN_sub (by rw [hF48 346 0 rfl]; exact (by rw [hF42 346 0 rfl]; exact (by rw [eI41, dkU_n (by decide)]; exact f79_3))) rfl) (show dkN [(1, 5)] (I48 346 4) from dkN_sub (by rw [hF48 346 4 rfl]; exact (by rw [hF42 346 4 rfl]; exact (by rw [eI41, dkU_n (by decide)]; exact f79_4))) rfl) (show dkN [(0, 0)] (I48 348 3) from dkN_sub f48_348_3 rfl) (lv_sub hl [2, 3, 4, 5, 1, 6, 7, 0] rfl)
          ·
            have d51 : dkN [(-1000000, -1000000)] v48 := dkN_eq1 dv48 (dkN_lit (x := (-1000000)) (-1000000) rfl) (congrArg Int32.toInt c49) rfl
            refine lv_iconst (v := 1) hx hb dX6_drawn_171 (by decide) ?_
            refine lv_goto (tgt := 176) hx hb dX6_drawn_172 (by decide) ?_
            exact C176 I48 _ _ ls v31 v48 1 hW hS hF hO (dkL_sub dv31 rfl) (dkN_sub d51 rfl) (dkN_sub (dkN_lit (x := 1) (1) rfl) rfl) (dkN_sub d28 rfl) (dkN_sub r79_1 rfl) (dkN_sub r79_2 rfl) (dkN_sub d29 rfl) (show dkN [(0, 0)] (I48 340 20) from dkN_sub (by rw [hF48 340 20 rfl]; exact (by rw [hF42 340 20 rfl]; exact (by rw [eI41, dkU_n (by decide)]; exact f79_0))) rfl) (show dkN [(0, 0)] (I48 340 21) from dkN_sub (by rw [hF48 340 21 rfl]; exact (by rw [hF42 340 21 rfl]; exact (by rw [eI41, dkU_n (by decide)]; exact f79_1))) rfl) (show dkN [(0, 0)] (I48 340 22) from dkN_sub (by rw [hF48 340 22 rfl]; exact (by rw [hF42 340 22 rfl]; exact (by rw [eI41, dkU_n (by decide)]; exact f79_2))) rfl) (show dkN [(1, 9)] (I48 346 0) from dkN_sub (by rw [hF48 346 0 rfl]; exact (by rw [hF42 346 0 rfl]; exact (by rw [eI41, dkU_n (by decide)]; exact f79_3))) rfl) (show dkN [(1, 5)] (I48 346 4) from dkN_sub (by rw [hF48 346 4 rfl]; exact (by rw [hF42 346 4 rfl]; exact (by rw [eI41, dkU_n (by decide)]; exact f79_4))) rfl) (show dkN [(0, 0)] (I48 348 3) from dkN_sub f48_348_3 rfl) (lv_sub hl [2, 3, 4, 5, 1, 6, 7, 0] rfl)
  have C49 : ∀ (n : Nat), ∀ (I : dkI) (H : Heap) (locs : List Loc) (ls : Array Slot) (x49_4 : Int32), (5 - x49_4.toInt).toNat < n → dkW g z I H → va_S (dkA z) s.heap H locs → dkF [(340, 340, 20, 22), (348, 348, 0, 53), (352, 352, 0, 4)] I0 I → dkOk I → dkN [(0, 5)] x49_4 → dkN [(0, 9)] p0 → dkN [(1, 999999)] p1 → dkN [(0, 1)] p2 → dkN [(0, 0)] (I 340 20) → dkN [(0, 0)] (I 340 21) → dkN [(0, 0)] (I 340 22) → dkN [(1, 9)] (I 346 0) → dkN [(1, 5)] (I 346 4) → lv_has ls 10 [(0, .ref (z + 340)), (1, .int p0), (2, .int p1), (3, .int p2), (4, .int x49_4)] → W p l e (headSpec wsX6_drawn (dkR 5)).room s m args below meth c H locs 0 0 (MQ below (dkQi g z (fun r I1 => dkF [(340, 340, 20, 22), (348, 348, 0, 53), (352, 352, 0, 4)] I0 I1 ∧ dkOk I1 ∧ ((True ∧ dkN [(1, 5)] (I1 346 4) ∧ True)))) args s 0 0 (dkA z)) (F0 m 49 ls []) := by
    intro n
    induction n with
    | zero => intro I H locs ls x49_4 hn; exact absurd hn (Nat.not_lt_zero _)
    | succ n ih49 =>
      intro I49_ H locs ls x49_4 hn49 hW hS hF_49 hO k49_0 r49_0 r49_1 r49_2 f49_0 f49_1 f49_2 f49_3 f49_4 hl
      have hF := hF_49
      refine lv_iload hx hb dX6_drawn_49 (lv_at hl 4 rfl) ?_
      refine lv_iconst (v := 5) hx hb dX6_drawn_51 (by decide) ?_
      refine lv_icmp_ge (tgt := 69) hx hb dX6_drawn_52 (by decide) (fun c52 => ?_) (fun c52 => ?_)
      ·
        have d53 : dkN [(5, 5)] x49_4 := dkN_le2 0 (dkN_lit (x := 5) (5) rfl) k49_0 (dkc_le c52) rfl
        refine lv_iload_n hx hb dX6_drawn_69 rfl (lv_at hl 2 rfl) ?_
        refine lv_i2l hx hb dX6_drawn_70 rfl ?_
        refine lv_topl (fun v54 ev54 => ?_)
        have dv54 : dkL [(1, 999999)] v54 := by rw [ev54]; exact dkL_of r49_1
        refine lv_lstore (lv' := [(4, .long v54), (0, .ref (z + 340)), (1, .int p0), (2, .int p1), (3, .int p2)]) hx hb dX6_drawn_71 hl (by decide) rfl (fun ls hl => ?_)
        refine lv_iconst (v := 0) hx hb dX6_drawn_73 (by decide) ?_
        refine lv_istore (lv' := [(6, .int 0), (4, .long v54), (0, .ref (z + 340)), (1, .int p0), (2, .int p1), (3, .int p2)]) hx hb dX6_drawn_74 hl (by decide) rfl (fun ls hl => ?_)
        refine lv_iconst (v := 0) hx hb dX6_drawn_76 (by decide) ?_
        refine lv_istore (lv' := [(7, .int 0), (6, .int 0), (4, .long v54), (0, .ref (z + 340)), (1, .int p0), (2, .int p1), (3, .int p2)]) hx hb dX6_drawn_77 hl (by decide) rfl (fun ls hl => ?_)
        exact C79 _ I49_ _ _ ls v54 0 0 (Nat.lt_succ_self _) hW hS hF hO (dkL_sub dv54 rfl) (dkN_sub (dkN_lit (x := 0) (0) rfl) rfl) (dkN_sub r49_0 rfl) (dkN_sub r49_1 rfl) (dkN_sub r49_2 rfl) (show dkN [(0, 0)] (I49_ 340 20) from dkN_sub f49_0 rfl) (show dkN [(0, 0)] (I49_ 340 21) from dkN_sub f49_1 rfl) (show dkN [(0, 0)] (I49_ 340 22) from dkN_sub f49_2 rfl) (show dkN [(1, 9)] (I49_ 346 0) from dkN_sub f49_3 rfl) (show dkN [(1, 5)] (I49_ 346 4) from dkN_sub f49_4 rfl) (lv_sub hl [3, 4, 5, 6, 2, 1, 0] rfl)
      ·
        have d55 : dkN [(0, 4)] x49_4 := dkN_le1 1 k49_0 (dkN_lit (x := 5) (5) rfl) (dkc_nle c52) rfl
        refine lv_aload_n hx hb dX6_drawn_55 rfl (lv_at hl 0 rfl) ?_
        refine dk_get (k := 340) hx hb hts iX6_drawn_6 hown hK (dk_at340 hW) rfl 23 (by decide) (hts (.fieldLink RX6 44 "DogKingsModel" "crowns" "[I") (List.mem_of_getElem? (i := 4) rfl)) rfl dX6_drawn_56 ?_
        refine lv_iload hx hb dX6_drawn_59 (lv_at hl 4 rfl) ?_
        refine lv_iconst (v := 0) hx hb dX6_drawn_61 (by decide) ?_
        refine dk_ist (k := 352) hx hb hK hW (fun _ => rfl) (by decide) hS (dkN_in (n := 5) d55 rfl) dX6_drawn_62 (fun I56 H56 L56 eI56 hW hS => ?_)
        have hO := dkO_set hO eI56 (dkN_sub (dkN_lit (x := 0) (0) rfl) rfl)
        have hF := dkF_set hF eI56 (dkIn_v d55 rfl)
        obtain ⟨v57, ev57⟩ : ∃ y : Int32, y = x49_4 + 1 := ⟨_, rfl⟩
        have dv57 : dkN [(1, 5)] v57 := by rw [ev57]; exact dkN_add d55 (dkN_lit (x := 1) (1) rfl) rfl
        refine lv_iinc (v := v57) (lv' := [(4, .int v57), (0, .ref (z + 340)), (1, .int p0), (2, .int p1), (3, .int p2)]) hx hb dX6_drawn_63 hl (k := 4) rfl (by rw [ev57]; rfl) (by decide) rfl (fun ls hl => ?_)
        refine lv_goto (tgt := 49) hx hb dX6_drawn_66 (by decide) ?_
        exact ih49 I56 _ _ ls v57 (dk_near hn49 (by rw [ev57]; exact dk_inc d55 rfl) (dkN_lt d55 rfl)) hW hS hF hO (dkN_sub dv57 rfl) (dkN_sub r49_0 rfl) (dkN_sub r49_1 rfl) (dkN_sub r49_2 rfl) (show dkN [(0, 0)] (I56 340 20) from dkN_sub (by rw [eI56, dkU_n (by decide)]; exact f49_0) rfl) (show dkN [(0, 0)] (I56 340 21) from dkN_sub (by rw [eI56, dkU_n (by decide)]; exact f49_1) rfl) (show dkN [(0, 0)] (I56 340 22) from dkN_sub (by rw [eI56, dkU_n (by decide)]; exact f49_2) rfl) (show dkN [(1, 9)] (I56 346 0) from dkN_sub (by rw [eI56, dkU_n (by decide)]; exact f49_3) rfl) (show dkN [(1, 5)] (I56 346 4) from dkN_sub (by rw [eI56, dkU_n (by decide)]; exact f49_4) rfl) (lv_sub hl [1, 2, 3, 4, 0] rfl)
  refine lv_aload_n hx hb dX6_drawn_0 rfl (lv_at hl 0 rfl) ?_
  refine dk_Vi (As := []) (rest := []) ⟨hx, hb, hml, hown, hts⟩ (c_X6_isTown_0 l g z I0 hO) (cwV 0 hts gX6_drawn_X6_isTown rfl rfl rfl (by decide +kernel) ⟨Nat.le_of_ble_eq_true rfl, Nat.le_of_ble_eq_true rfl⟩) (dk_at340 hW) rfl hK hT hW hS rfl hl.1 rfl (Nat.le_of_ble_eq_true rfl) dX6_drawn_1 ⟨Nat.zero_le _, Nat.zero_le _⟩ (fun v58 I58 H58 L58 hp58 hW hS => ?_)
  obtain ⟨hF58, hO, hc58⟩ := hp58
  have hF := dkF_call hF hF58 rfl
  rcases hc58 with ⟨dv58, f58_346_0, -⟩ | hc58
  ·
    refine lv_if_ne (tgt := 10) hx hb dX6_drawn_4 (by decide) (fun c59 => ?_) (fun c59 => ?_)
    ·
      exact (dkN_nil (show dkN [] v58 from dkN_ne1 (0) dv58 (dkN_lit (x := 0) (0) rfl) (dk_ne c59) rfl)).elim
    ·
      refine lv_ldc (v := (-1000002)) hx hb hown (hts (.constant RX6 185 (-1000002)) (List.mem_of_getElem? (i := 1) rfl)) dX6_drawn_7 ?_
      exact W.iret (v := (-1000002)) hx hb hr (fun t ht hW9 => ⟨⟨(-1000002), I58, rfl, ⟨hF, hO, ⟨trivial, (show dkN [(1, 5)] (I58 346 4) from dkN_sub (by rw [hF58 346 4 rfl]; exact np0) rfl), trivial⟩⟩, dkW_eq ht hW⟩, hS.F ht⟩) hS.2.2 dX6_drawn_9
  ·
    obtain ⟨dv58, f58_346_0, -⟩ := hc58
    refine lv_if_ne (tgt := 10) hx hb dX6_drawn_4 (by decide) (fun c60 => ?_) (fun c60 => ?_)
    ·
      refine lv_iload_n hx hb dX6_drawn_10 rfl (lv_at hl 1 rfl) ?_
      refine lv_iconst (v := 0) hx hb dX6_drawn_11 (by decide) ?_
      refine lv_bipush (v := 9) hx hb dX6_drawn_12 (by decide) ?_
      refine dk_Si (As := [.int p0, .int 0, .int 9]) (rest := []) ⟨hx, hb, hml, hown, hts⟩ (c_X6_in_10 l g z I58 p0 0 9 (dkN_lit (x := 0) (0) rfl) (dkN_lit (x := 9) (9) rfl) hO) (va_cwS 3 hts gX6_drawn_X6_in rfl rfl rfl (by decide +kernel) ⟨Nat.le_of_ble_eq_true rfl, Nat.le_of_ble_eq_true rfl⟩) hK hT hW hS rfl hl.1 rfl (Nat.le_of_ble_eq_true rfl) dX6_drawn_14 ⟨Nat.zero_le _, Nat.zero_le _⟩ (fun v61 I61 H61 L61 hp61 hW hS => ?_)
      obtain ⟨hF61, hO, hc61⟩ := hp61
      have hF := dkF_call hF hF61 rfl
      rcases hc61 with ⟨dv61, a61_0, -⟩ | hc61
      ·
        have d62 : dkN [(-2147483648, -1), (10, 2147483647)] p0 := dkN_eq1 (dkN_top p0) a61_0 rfl rfl
        refine lv_if_eq (tgt := 39) hx hb dX6_drawn_17 (by decide) (fun c63 => ?_) (fun c63 => ?_)
        ·
          refine lv_ldc (v := (-1000001)) hx hb hown (hts (.constant RX6 64 (-1000001)) (List.mem_of_getElem? (i := 3) rfl)) dX6_drawn_39 ?_
          exact W.iret (v := (-1000001)) hx hb hr (fun t ht hW9 => ⟨⟨(-1000001), I61, rfl, ⟨hF, hO, ⟨trivial, (show dkN [(1, 5)] (I61 346 4) from dkN_sub (by rw [hF61 346 4 rfl]; exact (by rw [hF58 346 4 rfl]; exact np0)) rfl), trivial⟩⟩, dkW_eq ht hW⟩, hS.F ht⟩) hS.2.2 dX6_drawn_41
        ·
          exact (dkN_nil (show dkN [] v61 from dkN_ne1 (0) dv61 (dkN_lit (x := 0) (0) rfl) (dk_ne c63) rfl)).elim
      ·
        obtain ⟨dv61, a61_0, -⟩ := hc61
        have d64 : dkN [(0, 9)] p0 := dkN_eq1 (dkN_top p0) a61_0 rfl rfl
        refine lv_if_eq (tgt := 39) hx hb dX6_drawn_17 (by decide) (fun c65 => ?_) (fun c65 => ?_)
        ·
          exact (dkN_nil (show dkN [] v61 from dkN_eq1 dv61 (dkN_lit (x := 0) (0) rfl) (congrArg Int32.toInt c65) rfl)).elim
        ·
          refine lv_iload_n hx hb dX6_drawn_20 rfl (lv_at hl 2 rfl) ?_
          refine lv_iconst (v := 1) hx hb dX6_drawn_21 (by decide) ?_
          refine lv_ldc (v := 999999) hx hb hown (hts (.constant RX6 242 (999999)) (List.mem_of_getElem? (i := 2) rfl)) dX6_drawn_22 ?_
          refine dk_Si (As := [.int p1, .int 1, .int 999999]) (rest := []) ⟨hx, hb, hml, hown, hts⟩ (c_X6_in_19 l g z I61 p1 1 999999 (dkN_lit (x := 1) (1) rfl) (dkN_lit (x := 999999) (999999) rfl) hO) (va_cwS 3 hts gX6_drawn_X6_in rfl rfl rfl (by decide +kernel) ⟨Nat.le_of_ble_eq_true rfl, Nat.le_of_ble_eq_true rfl⟩) hK hT hW hS rfl hl.1 rfl (Nat.le_of_ble_eq_true rfl) dX6_drawn_24 ⟨Nat.zero_le _, Nat.zero_le _⟩ (fun v66 I66 H66 L66 hp66 hW hS => ?_)
          obtain ⟨hF66, hO, hc66⟩ := hp66
          have hF := dkF_call hF hF66 rfl
          rcases hc66 with ⟨dv66, a66_0, -⟩ | hc66
          ·
            have d67 : dkN [(-2147483648, 0), (1000000, 2147483647)] p1 := dkN_eq1 (dkN_top p1) a66_0 rfl rfl
            refine lv_if_eq (tgt := 39) hx hb dX6_drawn_27 (by decide) (fun c68 => ?_) (fun c68 => ?_)
            ·
              refine lv_ldc (v := (-1000001)) hx hb hown (hts (.constant RX6 64 (-1000001)) (List.mem_of_getElem? (i := 3) rfl)) dX6_drawn_39 ?_
              exact W.iret (v := (-1000001)) hx hb hr (fun t ht hW9 => ⟨⟨(-1000001), I66, rfl, ⟨hF, hO, ⟨trivial, (show dkN [(1, 5)] (I66 346 4) from dkN_sub (by rw [hF66 346 4 rfl]; exact (by rw [hF61 346 4 rfl]; exact (by rw [hF58 346 4 rfl]; exact np0))) rfl), trivial⟩⟩, dkW_eq ht hW⟩, hS.F ht⟩) hS.2.2 dX6_drawn_41
            ·
              exact (dkN_nil (show dkN [] v66 from dkN_ne1 (0) dv66 (dkN_lit (x := 0) (0) rfl) (dk_ne c68) rfl)).elim
          ·
            obtain ⟨dv66, a66_0, -⟩ := hc66
            have d69 : dkN [(1, 999999)] p1 := dkN_eq1 (dkN_top p1) a66_0 rfl rfl
            refine lv_if_eq (tgt := 39) hx hb dX6_drawn_27 (by decide) (fun c70 => ?_) (fun c70 => ?_)
            ·
              exact (dkN_nil (show dkN [] v66 from dkN_eq1 dv66 (dkN_lit (x := 0) (0) rfl) (congrArg Int32.toInt c70) rfl)).elim
            ·
              refine lv_iload_n hx hb dX6_drawn_30 rfl (lv_at hl 3 rfl) ?_
              refine lv_iconst (v := 0) hx hb dX6_drawn_31 (by decide) ?_
              refine lv_iconst (v := 1) hx hb dX6_drawn_32 (by decide) ?_
              refine dk_Si (As := [.int p2, .int 0, .int 1]) (rest := []) ⟨hx, hb, hml, hown, hts⟩ (c_X6_in_16 l g z I66 p2 0 1 (dkN_lit (x := 0) (0) rfl) (dkN_lit (x := 1) (1) rfl) hO) (va_cwS 3 hts gX6_drawn_X6_in rfl rfl rfl (by decide +kernel) ⟨Nat.le_of_ble_eq_true rfl, Nat.le_of_ble_eq_true rfl⟩) hK hT hW hS rfl hl.1 rfl (Nat.le_of_ble_eq_true rfl) dX6_drawn_33 ⟨Nat.zero_le _, Nat.zero_le _⟩ (fun v71 I71 H71 L71 hp71 hW hS => ?_)
              obtain ⟨hF71, hO, hc71⟩ := hp71
              have hF := dkF_call hF hF71 rfl
              rcases hc71 with ⟨dv71, a71_0, -⟩ | hc71
              ·
                have d72 : dkN [(-2147483648, -1), (2, 2147483647)] p2 := dkN_eq1 (dkN_top p2) a71_0 rfl rfl
                refine lv_if_ne (tgt := 42) hx hb dX6_drawn_36 (by decide) (fun c73 => ?_) (fun c73 => ?_)
                ·
                  exact (dkN_nil (show dkN [] v71 from dkN_ne1 (0) dv71 (dkN_lit (x := 0) (0) rfl) (dk_ne c73) rfl)).elim
                ·
                  refine lv_ldc (v := (-1000001)) hx hb hown (hts (.constant RX6 64 (-1000001)) (List.mem_of_getElem? (i := 3) rfl)) dX6_drawn_39 ?_
                  exact W.iret (v := (-1000001)) hx hb hr (fun t ht hW9 => ⟨⟨(-1000001), I71, rfl, ⟨hF, hO, ⟨trivial, (show dkN [(1, 5)] (I71 346 4) from dkN_sub (by rw [hF71 346 4 rfl]; exact (by rw [hF66 346 4 rfl]; exact (by rw [hF61 346 4 rfl]; exact (by rw [hF58 346 4 rfl]; exact np0)))) rfl), trivial⟩⟩, dkW_eq ht hW⟩, hS.F ht⟩) hS.2.2 dX6_drawn_41
              ·
                obtain ⟨dv71, a71_0, -⟩ := hc71
                have d74 : dkN [(0, 1)] p2 := dkN_eq1 (dkN_top p2) a71_0 rfl rfl
                refine lv_if_ne (tgt := 42) hx hb dX6_drawn_36 (by decide) (fun c75 => ?_) (fun c75 => ?_)
                ·
                  refine lv_aload_n hx hb dX6_drawn_42 rfl (lv_at hl 0 rfl) ?_
                  refine dk_Vv (As := []) (rest := []) ⟨hx, hb, hml, hown, hts⟩ (c_X6_tries_0 l g z I71 hO) (cwV 0 hts gX6_drawn_X6_tries rfl rfl rfl (by decide +kernel) ⟨Nat.le_of_ble_eq_true rfl, Nat.le_of_ble_eq_true rfl⟩) (dk_at340 hW) rfl hK hT hW hS rfl hl.1 rfl (Nat.le_of_ble_eq_true rfl) dX6_drawn_43 ⟨Nat.zero_le _, Nat.zero_le _⟩ (fun I76 H76 L76 hp76 hW hS => ?_)
                  obtain ⟨hF76, hO, hc76⟩ := hp76
                  have hF := dkF_call hF hF76 rfl
                  obtain ⟨f76_340_20, f76_340_21, f76_340_22, -⟩ := hc76
                  refine lv_iconst (v := 0) hx hb dX6_drawn_46 (by decide) ?_
                  refine lv_istore (lv' := [(4, .int 0), (0, .ref (z + 340)), (1, .int p0), (2, .int p1), (3, .int p2)]) hx hb dX6_drawn_47 hl (by decide) rfl (fun ls hl => ?_)
                  exact C49 _ I76 _ _ ls 0 (Nat.lt_succ_self _) hW hS hF hO (dkN_sub (dkN_lit (x := 0) (0) rfl) rfl) (dkN_sub d64 rfl) (dkN_sub d69 rfl) (dkN_sub d74 rfl) (show dkN [(0, 0)] (I76 340 20) from dkN_sub f76_340_20 rfl) (show dkN [(0, 0)] (I76 340 21) from dkN_sub f76_340_21 rfl) (show dkN [(0, 0)] (I76 340 22) from dkN_sub f76_340_22 rfl) (show dkN [(1, 9)] (I76 346 0) from dkN_sub (by rw [hF76 346 0 rfl]; exact (by rw [hF71 346 0 rfl]; exact (by rw [hF66 346 0 rfl]; exact (by rw [hF61 346 0 rfl]; exact f58_346_0)))) rfl) (show dkN [(1, 5)] (I76 346 4) from dkN_sub (by rw [hF76 346 4 rfl]; exact (by rw [hF71 346 4 rfl]; exact (by rw [hF66 346 4 rfl]; exact (by rw [hF61 346 4 rfl]; exact (by rw [hF58 346 4 rfl]; exact np0))))) rfl) (lv_sub hl [1, 2, 3, 4, 0] rfl)
                ·
                  exact (dkN_nil (show dkN [] v71 from dkN_eq1 dv71 (dkN_lit (x := 0) (0) rfl) (congrArg Int32.toInt c75) rfl)).elim
    ·
      exact (dkN_nil (show dkN [] v58 from dkN_eq1 dv58 (dkN_lit (x := 0) (0) rfl) (congrArg Int32.toInt c60) rfl)).elim
set_option maxHeartbeats 4000000 in
set_option maxRecDepth 100000 in
theorem c_X5_kind_0 (l : Launch) (g : dkG) (z : Nat) (I0 : dkI) (p0 : Int32)  (hO : dkOk I0) : Met l yX5_kind wsX5_kind (dkR 1) (dkPc g z [.ref (z + 0), .int p0] I0) (dkQi g z (fun r I1 => dkF [] I0 I1 ∧ dkOk I1 ∧ ((True ∧ True)))) 0 0 (dkA z) := by
  refine Met.ofW (cc := cX5_kind) (maxL := 2) (ret := (some .int)) (by decide) rfl ?_
  intro p e s m args below meth c s₁ B hml hv
  obtain ⟨ha, hW, hK, hT⟩ := hv
  have hx := B.exec
  have hb := B.bytes
  have hr := B.returns
  have hts := atoms_spec (ws := wsX5_kind) B.pre
  have hown : s.vm.findClass RX5 = some m.cls := findClass_of_methodNamed B.named
  have hlocks := B.notSynchronized
  have hS : va_S (dkA z) s.heap s.heap [] := va_S.rf
  have hF : dkF [] I0 I0 := dkF_rf _ _
  have hl := lv_entry ([.ref (z + 0), .int p0]) (n := 2) (Nat.le_of_ble_eq_true rfl)
  have hgo : entryFrame m args 2 = entryFrame m ([.ref (z + 0), .int p0] : List Value).toArray 2 := by rw [ha]
  rw [hgo, lg_entry_eq]
  generalize (lg_sl ([.ref (z + 0), .int p0]) ++ List.replicate (2 - (lg_sl ([.ref (z + 0), .int p0])).length) Slot.unset).toArray = ls at hl ⊢
  have hl : lv_has ls 2 [(0, .ref (z + 0)), (1, .int p0)] := hl
  refine lv_aload_n hx hb dX5_kind_0 rfl (lv_at hl 0 rfl) ?_
  refine lv_iload_n hx hb dX5_kind_1 rfl (lv_at hl 1 rfl) ?_
  refine dk_Vi (As := [.int p0]) (rest := []) ⟨hx, hb, hml, hown, hts⟩ (c_X5_isDog_0 l g z I0 p0 hO) (cwV 1 hts gX5_kind_X5_isDog rfl rfl rfl (by decide +kernel) ⟨Nat.le_of_ble_eq_true rfl, Nat.le_of_ble_eq_true rfl⟩) (dk_at0 hW) rfl hK hT hW hS rfl hl.1 rfl (Nat.le_of_ble_eq_true rfl) dX5_kind_2 ⟨Nat.zero_le _, Nat.zero_le _⟩ (fun v1 I1 H1 L1 hp1 hW hS => ?_)
  obtain ⟨hF1, hO, hc1⟩ := hp1
  have hF := dkF_call hF hF1 rfl
  rcases hc1 with ⟨dv1, -⟩ | hc1
  ·
    refine lv_if_eq (tgt := 20) hx hb dX5_kind_5 (by decide) (fun c2 => ?_) (fun c2 => ?_)
    ·
      refine lv_ldc (v := (-1000001)) hx hb hown (hts (.constant RX5 70 (-1000001)) (List.mem_of_getElem? (i := 3) rfl)) dX5_kind_20 ?_
      exact W.iret (v := (-1000001)) hx hb hr (fun t ht hW9 => ⟨⟨(-1000001), I1, rfl, ⟨hF, hO, ⟨trivial, trivial⟩⟩, dkW_eq ht hW⟩, hS.F ht⟩) hS.2.2 dX5_kind_22
    ·
      exact (dkN_nil (show dkN [] v1 from dkN_ne1 (0) dv1 (dkN_lit (x := 0) (0) rfl) (dk_ne c2) rfl)).elim
  ·
    obtain ⟨dv1, a1_0, f1_25_11, -⟩ := hc1
    have d3 : dkN [(0, 5)] p0 := dkN_eq1 (dkN_top p0) a1_0 rfl rfl
    refine lv_if_eq (tgt := 20) hx hb dX5_kind_5 (by decide) (fun c4 => ?_) (fun c4 => ?_)
    ·
      exact (dkN_nil (show dkN [] v1 from dkN_eq1 dv1 (dkN_lit (x := 0) (0) rfl) (congrArg Int32.toInt c4) rfl)).elim
    ·
      refine lv_aload_n hx hb dX5_kind_8 rfl (lv_at hl 0 rfl) ?_
      refine dk_get (k := 0) hx hb hts iX5_kind_5 hown hK (dk_at0 hW) rfl 5 (by decide) (hts (.fieldLink RX5 31 "DogKings" "now" "LDogKings$Town;") (List.mem_of_getElem? (i := 1) rfl)) rfl dX5_kind_9 ?_
      refine dk_get (k := 25) hx hb hts iX5_kind_4 hown hK (dk_at25 hW) rfl 12 (by decide) (hts (.fieldLink RX5 259 "DogKings$Town" "sort" "[I") (List.mem_of_getElem? (i := 2) rfl)) rfl dX5_kind_12 ?_
      refine lv_iload_n hx hb dX5_kind_15 rfl (lv_at hl 1 rfl) ?_
      refine dk_ild (k := 32) hx hb hK (dk_at32 hW) (dkN_in (n := 6) d3 rfl) dX5_kind_16 ?_
      refine lv_topi (fun v5 ev5 => ?_)
      refine lv_goto (tgt := 22) hx hb dX5_kind_17 (by decide) ?_
      exact W.iret (v := v5) hx hb hr (fun t ht hW9 => ⟨⟨v5, I1, rfl, ⟨hF, hO, ⟨trivial, trivial⟩⟩, dkW_eq ht hW⟩, hS.F ht⟩) hS.2.2 dX5_kind_22
set_option maxHeartbeats 4000000 in
set_option maxRecDepth 100000 in
theorem c_X6_kindIn_0 (l : Launch) (g : dkG) (z : Nat) (I0 : dkI) (p0 : Int32) (dp0 : dkN [(0, 5)] p0)  (hO : dkOk I0) : Met l yX6_kindIn wsX6_kindIn (dkR 0) (dkPc g z [.ref (z + 340), .int p0] I0) (dkQi g z (fun r I1 => dkF [] I0 I1 ∧ dkOk I1 ∧ ((True ∧ True)))) 0 0 (dkA z) := by
  refine Met.ofW (cc := cX6_kindIn) (maxL := 2) (ret := (some .int)) (by decide) rfl ?_
  intro p e s m args below meth c s₁ B hml hv
  obtain ⟨ha, hW, hK, hT⟩ := hv
  have hx := B.exec
  have hb := B.bytes
  have hr := B.returns
  have hts := atoms_spec (ws := wsX6_kindIn) B.pre
  have hown : s.vm.findClass RX6 = some m.cls := findClass_of_methodNamed B.named
  have hlocks := B.notSynchronized
  have hS : va_S (dkA z) s.heap s.heap [] := va_S.rf
  have hF : dkF [] I0 I0 := dkF_rf _ _
  have hl := lv_entry ([.ref (z + 340), .int p0]) (n := 2) (Nat.le_of_ble_eq_true rfl)
  have hgo : entryFrame m args 2 = entryFrame m ([.ref (z + 340), .int p0] : List Value).toArray 2 := by rw [ha]
  rw [hgo, lg_entry_eq]
  generalize (lg_sl ([.ref (z + 340), .int p0]) ++ List.replicate (2 - (lg_sl ([.ref (z + 340), .int p0])).length) Slot.unset).toArray = ls at hl ⊢
  have hl : lv_has ls 2 [(0, .ref (z + 340)), (1, .int p0)] := hl
  refine lv_aload_n hx hb dX6_kindIn_0 rfl (lv_at hl 0 rfl) ?_
  refine dk_get (k := 340) hx hb hts iX6_kindIn_6 hown hK (dk_at340 hW) rfl 13 (by decide) (hts (.fieldLink RX6 25 "DogKingsModel" "now" "[I") (List.mem_of_getElem? (i := 1) rfl)) rfl dX6_kindIn_1 ?_
  refine lv_bipush (v := 36) hx hb dX6_kindIn_4 (by decide) ?_
  refine lv_iconst (v := 3) hx hb dX6_kindIn_6 (by decide) ?_
  refine lv_iload_n hx hb dX6_kindIn_7 rfl (lv_at hl 1 rfl) ?_
  refine lv_imul hx hb dX6_kindIn_8 ?_
  refine lv_topi (fun v1 ev1 => ?_)
  have dv1 : dkN [(0, 0), (3, 3), (6, 6), (9, 9), (12, 12), (15, 15)] v1 := by rw [ev1]; exact dkN_mulPt 3 (dkN_lit (x := 3) (3) rfl) dp0 rfl
  refine lv_iadd hx hb dX6_kindIn_9 ?_
  refine lv_topi (fun v2 ev2 => ?_)
  have dv2 : dkN [(36, 36), (39, 39), (42, 42), (45, 45), (48, 48), (51, 51)] v2 := by rw [ev2]; exact dkN_add (dkN_lit (x := 36) (36) rfl) dv1 rfl
  refine dk_ild (k := 346) hx hb hK (dk_at346 hW) (dkN_in (n := 54) dv2 rfl) dX6_kindIn_10 ?_
  refine lv_topi (fun v3 ev3 => ?_)
  exact W.iret (v := v3) hx hb hr (fun t ht hW9 => ⟨⟨v3, I0, rfl, ⟨hF, hO, ⟨trivial, trivial⟩⟩, dkW_eq ht hW⟩, hS.F ht⟩) hS.2.2 dX6_kindIn_11
set_option maxHeartbeats 4000000 in
set_option maxRecDepth 100000 in
theorem c_X6_kind_0 (l : Launch) (g : dkG) (z : Nat) (I0 : dkI) (p0 : Int32)  (hO : dkOk I0) : Met l yX6_kind wsX6_kind (dkR 2) (dkPc g z [.ref (z + 340), .int p0] I0) (dkQi g z (fun r I1 => dkF [] I0 I1 ∧ dkOk I1 ∧ ((True ∧ True)))) 0 0 (dkA z) := by
  refine Met.ofW (cc := cX6_kind) (maxL := 2) (ret := (some .int)) (by decide) rfl ?_
  intro p e s m args below meth c s₁ B hml hv
  obtain ⟨ha, hW, hK, hT⟩ := hv
  have hx := B.exec
  have hb := B.bytes
  have hr := B.returns
  have hts := atoms_spec (ws := wsX6_kind) B.pre
  have hown : s.vm.findClass RX6 = some m.cls := findClass_of_methodNamed B.named
  have hlocks := B.notSynchronized
  have hS : va_S (dkA z) s.heap s.heap [] := va_S.rf
  have hF : dkF [] I0 I0 := dkF_rf _ _
  have hl := lv_entry ([.ref (z + 340), .int p0]) (n := 2) (Nat.le_of_ble_eq_true rfl)
  have hgo : entryFrame m args 2 = entryFrame m ([.ref (z + 340), .int p0] : List Value).toArray 2 := by rw [ha]
  rw [hgo, lg_entry_eq]
  generalize (lg_sl ([.ref (z + 340), .int p0]) ++ List.replicate (2 - (lg_sl ([.ref (z + 340), .int p0])).length) Slot.unset).toArray = ls at hl ⊢
  have hl : lv_has ls 2 [(0, .ref (z + 340)), (1, .int p0)] := hl
  refine lv_aload_n hx hb dX6_kind_0 rfl (lv_at hl 0 rfl) ?_
  refine lv_iload_n hx hb dX6_kind_1 rfl (lv_at hl 1 rfl) ?_
  refine dk_Vi (As := [.int p0]) (rest := []) ⟨hx, hb, hml, hown, hts⟩ (c_X6_isDog_0 l g z I0 p0 hO) (cwV 1 hts gX6_kind_X6_isDog rfl rfl rfl (by decide +kernel) ⟨Nat.le_of_ble_eq_true rfl, Nat.le_of_ble_eq_true rfl⟩) (dk_at340 hW) rfl hK hT hW hS rfl hl.1 rfl (Nat.le_of_ble_eq_true rfl) dX6_kind_2 ⟨Nat.zero_le _, Nat.zero_le _⟩ (fun v1 I1 H1 L1 hp1 hW hS => ?_)
  obtain ⟨hF1, hO, hc1⟩ := hp1
  have hF := dkF_call hF hF1 rfl
  rcases hc1 with ⟨dv1, -⟩ | hc1
  ·
    refine lv_if_eq (tgt := 16) hx hb dX6_kind_5 (by decide) (fun c2 => ?_) (fun c2 => ?_)
    ·
      refine lv_ldc (v := (-1000001)) hx hb hown (hts (.constant RX6 64 (-1000001)) (List.mem_of_getElem? (i := 1) rfl)) dX6_kind_16 ?_
      exact W.iret (v := (-1000001)) hx hb hr (fun t ht hW9 => ⟨⟨(-1000001), I1, rfl, ⟨hF, hO, ⟨trivial, trivial⟩⟩, dkW_eq ht hW⟩, hS.F ht⟩) hS.2.2 dX6_kind_18
    ·
      exact (dkN_nil (show dkN [] v1 from dkN_ne1 (0) dv1 (dkN_lit (x := 0) (0) rfl) (dk_ne c2) rfl)).elim
  ·
    obtain ⟨dv1, a1_0, -⟩ := hc1
    have d3 : dkN [(0, 5)] p0 := dkN_eq1 (dkN_top p0) a1_0 rfl rfl
    refine lv_if_eq (tgt := 16) hx hb dX6_kind_5 (by decide) (fun c4 => ?_) (fun c4 => ?_)
    ·
      exact (dkN_nil (show dkN [] v1 from dkN_eq1 dv1 (dkN_lit (x := 0) (0) rfl) (congrArg Int32.toInt c4) rfl)).elim
    ·
      refine lv_aload_n hx hb dX6_kind_8 rfl (lv_at hl 0 rfl) ?_
      refine lv_iload_n hx hb dX6_kind_9 rfl (lv_at hl 1 rfl) ?_
      refine dk_Vi (As := [.int p0]) (rest := []) ⟨hx, hb, hml, hown, hts⟩ (c_X6_kindIn_0 l g z I1 p0 d3 hO) (cwV 1 hts gX6_kind_X6_kindIn rfl rfl rfl (by decide +kernel) ⟨Nat.le_of_ble_eq_true rfl, Nat.le_of_ble_eq_true rfl⟩) (dk_at340 hW) rfl hK hT hW hS rfl hl.1 rfl (Nat.le_of_ble_eq_true rfl) dX6_kind_10 ⟨Nat.zero_le _, Nat.zero_le _⟩ (fun v5 I5 H5 L5 hp5 hW hS => ?_)
      obtain ⟨hF5, hO, hc5⟩ := hp5
      have hF := dkF_call hF hF5 rfl
      obtain ⟨_, -⟩ := hc5
      refine lv_goto (tgt := 18) hx hb dX6_kind_13 (by decide) ?_
      exact W.iret (v := v5) hx hb hr (fun t ht hW9 => ⟨⟨v5, I5, rfl, ⟨hF, hO, ⟨trivial, trivial⟩⟩, dkW_eq ht hW⟩, hS.F ht⟩) hS.2.2 dX6_kind_18
set_option maxHeartbeats 4000000 in
set_option maxRecDepth 100000 in
theorem c_X5_isUpTo_7 (l : Launch) (g : dkG) (z : Nat) (I0 : dkI) (p0 : Int32) (p1 : Int32) (dp1 : dkN [(5, 5)] p1)  (hO : dkOk I0) : Met l yX5_isUpTo wsX5_isUpTo (dkR 0) (dkPc g z [.int p0, .int p1] I0) (dkQi g z (fun r I1 => dkF [] I0 I1 ∧ dkOk I1 ∧ ((dkN [(0, 0)] r ∧ dkN [(-2147483648, -1), (6, 2147483647)] p0 ∧ True) ∨ (dkN [(1, 1)] r ∧ dkN [(0, 5)] p0 ∧ True)))) 0 0 (dkA z) := by
  refine Met.ofW (cc := cX5_isUpTo) (maxL := 2) (ret := (some .boolean)) (by decide) rfl ?_
  intro p e s m args below meth c s₁ B hml hv
  obtain ⟨ha, hW, hK, hT⟩ := hv
  have hx := B.exec
  have hb := B.bytes
  have hr := B.returns
  have hts := atoms_spec (ws := wsX5_isUpTo) B.pre
  have hown : s.vm.findClass RX5 = some m.cls := findClass_of_methodNamed B.named
  have hlocks := B.notSynchronized
  have hS : va_S (dkA z) s.heap s.heap [] := va_S.rf
  have hF : dkF [] I0 I0 := dkF_rf _ _
  have hl := lv_entry ([.int p0, .int p1]) (n := 2) (Nat.le_of_ble_eq_true rfl)
  have hgo : entryFrame m args 2 = entryFrame m ([.int p0, .int p1] : List Value).toArray 2 := by rw [ha]
  rw [hgo, lg_entry_eq]
  generalize (lg_sl ([.int p0, .int p1]) ++ List.replicate (2 - (lg_sl ([.int p0, .int p1])).length) Slot.unset).toArray = ls at hl ⊢
  have hl : lv_has ls 2 [(0, .int p0), (1, .int p1)] := hl
  refine lv_iload_n hx hb dX5_isUpTo_0 rfl (lv_at hl 0 rfl) ?_
  refine lv_if_lt (tgt := 13) hx hb dX5_isUpTo_1 (by decide) (fun c1 => ?_) (fun c1 => ?_)
  ·
    have d2 : dkN [(-2147483648, -1)] p0 := dkN_le1 1 (dkN_top p0) (dkN_lit (x := 0) (0) rfl) (dkc_lt c1) rfl
    refine lv_iconst (v := 0) hx hb dX5_isUpTo_13 (by decide) ?_
    exact W.zret (v := 0) (ty := .boolean) hx hb hr rfl (fun t ht hW9 => ⟨⟨0, I0, rfl, ⟨hF, hO, Or.inl ⟨dkN_sub (dkN_lit (x := 0) (0) rfl) rfl, dkN_sub d2 rfl, trivial⟩⟩, dkW_eq ht hW⟩, hS.F ht⟩) hS.2.2 dX5_isUpTo_14
  ·
    have d3 : dkN [(0, 2147483647)] p0 := dkN_le2 0 (dkN_lit (x := 0) (0) rfl) (dkN_top p0) (dkc_nlt c1) rfl
    refine lv_iload_n hx hb dX5_isUpTo_4 rfl (lv_at hl 0 rfl) ?_
    refine lv_iload_n hx hb dX5_isUpTo_5 rfl (lv_at hl 1 rfl) ?_
    refine lv_icmp_gt (tgt := 13) hx hb dX5_isUpTo_6 (by decide) (fun c4 => ?_) (fun c4 => ?_)
    ·
      have d5 : dkN [(6, 2147483647)] p0 := dkN_le2 1 dp1 d3 (dkc_lt c4) rfl
      refine lv_iconst (v := 0) hx hb dX5_isUpTo_13 (by decide) ?_
      exact W.zret (v := 0) (ty := .boolean) hx hb hr rfl (fun t ht hW9 => ⟨⟨0, I0, rfl, ⟨hF, hO, Or.inl ⟨dkN_sub (dkN_lit (x := 0) (0) rfl) rfl, dkN_sub d5 rfl, trivial⟩⟩, dkW_eq ht hW⟩, hS.F ht⟩) hS.2.2 dX5_isUpTo_14
    ·
      have d6 : dkN [(0, 5)] p0 := dkN_le1 0 d3 dp1 (dkc_nlt c4) rfl
      refine lv_iconst (v := 1) hx hb dX5_isUpTo_9 (by decide) ?_
      refine lv_goto (tgt := 14) hx hb dX5_isUpTo_10 (by decide) ?_
      exact W.zret (v := 1) (ty := .boolean) hx hb hr rfl (fun t ht hW9 => ⟨⟨1, I0, rfl, ⟨hF, hO, Or.inr (⟨dkN_sub (dkN_lit (x := 1) (1) rfl) rfl, dkN_sub d6 rfl, trivial⟩)⟩, dkW_eq ht hW⟩, hS.F ht⟩) hS.2.2 dX5_isUpTo_14
