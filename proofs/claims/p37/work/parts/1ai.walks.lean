set_option maxHeartbeats 4000000 in
set_option maxRecDepth 100000 in
theorem c_X3_outcome_2 (l : Launch) (g : dkG) (z : Nat) (I0 : dkI) (p0 : Int32) (p1 : Int32) (p2 : Int32) (p3 : Int32) (p4 : Int32) (dp0 : dkN [(0, 4)] p0) (dp1 : dkN [(0, 4)] p1) (dp4 : dkN [(0, 2)] p4)  (hO : dkOk I0) : Met l yX3_outcome wsX3_outcome (dkR 8) (dkPc g z [.ref (z + 325), .int p0, .int p1, .int p2, .int p3, .int p4] I0) (dkQi g z (fun r I1 => dkF [(326, 326, 0, 4), (326, 326, 11, 11), (326, 326, 15, 17), (327, 327, 0, 4), (328, 328, 0, 4), (329, 329, 0, 4), (330, 330, 0, 4), (331, 331, 0, 4), (332, 332, 0, 4), (333, 333, 0, 5), (334, 334, 0, 5), (335, 335, 0, 5), (336, 336, 0, 8)] I0 I1 ∧ dkOk I1 ∧ ((dkN [(-63, 63)] r ∧ True)))) 0 0 (dkA z) := by
  refine Met.ofW (cc := cX3_outcome) (maxL := 8) (ret := (some .int)) (by decide) rfl ?_
  intro p e s m args below meth c s₁ B hml hv
  obtain ⟨ha, hW, hK, hT⟩ := hv
  have hx := B.exec
  have hb := B.bytes
  have hr := B.returns
  have hts := atoms_spec (ws := wsX3_outcome) B.pre
  have hown : s.vm.findClass RX3 = some m.cls := findClass_of_methodNamed B.named
  have hlocks := B.notSynchronized
  have hS : va_S (dkA z) s.heap s.heap [] := va_S.rf
  have hF : dkF [(326, 326, 0, 4), (326, 326, 11, 11), (326, 326, 15, 17), (327, 327, 0, 4), (328, 328, 0, 4), (329, 329, 0, 4), (330, 330, 0, 4), (331, 331, 0, 4), (332, 332, 0, 4), (333, 333, 0, 5), (334, 334, 0, 5), (335, 335, 0, 5), (336, 336, 0, 8)] I0 I0 := dkF_rf _ _
  have hl := lv_entry ([.ref (z + 325), .int p0, .int p1, .int p2, .int p3, .int p4]) (n := 8) (Nat.le_of_ble_eq_true rfl)
  have hgo : entryFrame m args 8 = entryFrame m ([.ref (z + 325), .int p0, .int p1, .int p2, .int p3, .int p4] : List Value).toArray 8 := by rw [ha]
  rw [hgo, lg_entry_eq]
  generalize (lg_sl ([.ref (z + 325), .int p0, .int p1, .int p2, .int p3, .int p4]) ++ List.replicate (8 - (lg_sl ([.ref (z + 325), .int p0, .int p1, .int p2, .int p3, .int p4])).length) Slot.unset).toArray = ls at hl ⊢
  have hl : lv_has ls 8 [(0, .ref (z + 325)), (1, .int p0), (2, .int p1), (3, .int p2), (4, .int p3), (5, .int p4)] := hl
  have C11 : ∀ (I : dkI) (H : Heap) (locs : List Loc) (ls : Array Slot), dkW g z I H → va_S (dkA z) s.heap H locs → dkF [(326, 326, 0, 4), (326, 326, 11, 11), (326, 326, 15, 17), (327, 327, 0, 4), (328, 328, 0, 4), (329, 329, 0, 4), (330, 330, 0, 4), (331, 331, 0, 4), (332, 332, 0, 4), (333, 333, 0, 5), (334, 334, 0, 5), (335, 335, 0, 5), (336, 336, 0, 8)] I0 I → dkOk I → dkN [(0, 0)] p4 → lv_has ls 8 [(0, .ref (z + 325)), (1, .int p0), (2, .int p1), (3, .int p2), (4, .int p3), (5, .int p4)] → W p l e (headSpec wsX3_outcome (dkR 8)).room s m args below meth c H locs 0 0 (MQ below (dkQi g z (fun r I1 => dkF [(326, 326, 0, 4), (326, 326, 11, 11), (326, 326, 15, 17), (327, 327, 0, 4), (328, 328, 0, 4), (329, 329, 0, 4), (330, 330, 0, 4), (331, 331, 0, 4), (332, 332, 0, 4), (333, 333, 0, 5), (334, 334, 0, 5), (335, 335, 0, 5), (336, 336, 0, 8)] I0 I1 ∧ dkOk I1 ∧ ((dkN [(-63, 63)] r ∧ True)))) args s 0 0 (dkA z)) (F0 m 11 ls []) := by
    intro I11_ H locs ls hW hS hF_11 hO r11_0 hl
    have hF := hF_11
    refine lv_aload_n hx hb dX3_outcome_11 rfl (lv_at hl 0 rfl) ?_
    refine lv_iload_n hx hb dX3_outcome_12 rfl (lv_at hl 1 rfl) ?_
    refine lv_iload_n hx hb dX3_outcome_13 rfl (lv_at hl 2 rfl) ?_
    refine lv_iload_n hx hb dX3_outcome_14 rfl (lv_at hl 3 rfl) ?_
    refine lv_iload hx hb dX3_outcome_15 (lv_at hl 4 rfl) ?_
    refine dk_Vi (As := [.int p0, .int p1, .int p2, .int p3]) (rest := []) ⟨hx, hb, hml, hown, hts⟩ (c_X3_margin_0 l g z I11_ p0 p1 p2 p3 dp0 dp1 hO) (cwV 4 hts gX3_outcome_X3_margin rfl rfl rfl (by decide +kernel) ⟨Nat.le_of_ble_eq_true rfl, Nat.le_of_ble_eq_true rfl⟩) (dk_at325 hW) rfl hK hT hW hS rfl hl.1 rfl (Nat.le_of_ble_eq_true rfl) dX3_outcome_17 ⟨Nat.zero_le _, Nat.zero_le _⟩ (fun v1 I1 H1 L1 hp1 hW hS => ?_)
    obtain ⟨hF1, hO, hc1⟩ := hp1
    have hF := dkF_call hF hF1 rfl
    obtain ⟨dv1, -⟩ := hc1
    exact W.iret (v := v1) hx hb hr (fun t ht hW9 => ⟨⟨v1, I1, rfl, ⟨hF, hO, ⟨dkN_sub dv1 rfl, trivial⟩⟩, dkW_eq ht hW⟩, hS.F ht⟩) hS.2.2 dX3_outcome_20
  refine lv_iload hx hb dX3_outcome_0 (lv_at hl 5 rfl) ?_
  refine lv_if_le (tgt := 11) hx hb dX3_outcome_2 (by decide) (fun c2 => ?_) (fun c2 => ?_)
  ·
    have d3 : dkN [(0, 0)] p4 := dkN_le1 0 dp4 (dkN_lit (x := 0) (0) rfl) (dkc_le c2) rfl
    exact C11 I0 _ _ ls  hW hS hF hO (dkN_sub d3 rfl) (lv_sub hl [0, 1, 2, 3, 4, 5] rfl)
  ·
    have d4 : dkN [(1, 2)] p4 := dkN_le2 1 (dkN_lit (x := 0) (0) rfl) dp4 (dkc_nle c2) rfl
    refine lv_iload hx hb dX3_outcome_5 (lv_at hl 5 rfl) ?_
    refine lv_iconst (v := 4) hx hb dX3_outcome_7 (by decide) ?_
    refine lv_icmp_le (tgt := 21) hx hb dX3_outcome_8 (by decide) (fun c5 => ?_) (fun c5 => ?_)
    ·
      refine lv_aload_n hx hb dX3_outcome_21 rfl (lv_at hl 0 rfl) ?_
      refine lv_iload_n hx hb dX3_outcome_22 rfl (lv_at hl 1 rfl) ?_
      refine lv_iload_n hx hb dX3_outcome_23 rfl (lv_at hl 2 rfl) ?_
      refine lv_iload_n hx hb dX3_outcome_24 rfl (lv_at hl 3 rfl) ?_
      refine lv_iload hx hb dX3_outcome_25 (lv_at hl 4 rfl) ?_
      refine lv_iload hx hb dX3_outcome_27 (lv_at hl 5 rfl) ?_
      refine lv_iconst (v := 1) hx hb dX3_outcome_29 (by decide) ?_
      refine lv_isub hx hb dX3_outcome_30 ?_
      refine lv_topi (fun v6 ev6 => ?_)
      have dv6 : dkN [(0, 1)] v6 := by rw [ev6]; exact dkN_subt d4 (dkN_lit (x := 1) (1) rfl) rfl
      refine dk_Vi (As := [.int p0, .int p1, .int p2, .int p3, .int v6]) (rest := []) ⟨hx, hb, hml, hown, hts⟩ (c_X3_outcome_3 l g z I0 p0 p1 p2 p3 v6 dp0 dp1 dv6 hO) (cwV 5 hts gX3_outcome_X3_outcome rfl rfl rfl (by decide +kernel) ⟨Nat.le_of_ble_eq_true rfl, Nat.le_of_ble_eq_true rfl⟩) (dk_at325 hW) rfl hK hT hW hS rfl hl.1 rfl (Nat.le_of_ble_eq_true rfl) dX3_outcome_31 ⟨Nat.zero_le _, Nat.zero_le _⟩ (fun v7 I7 H7 L7 hp7 hW hS => ?_)
      obtain ⟨hF7, hO, hc7⟩ := hp7
      have hF := dkF_call hF hF7 rfl
      obtain ⟨dv7, -⟩ := hc7
      refine lv_istore (lv' := [(6, .int v7), (0, .ref (z + 325)), (1, .int p0), (2, .int p1), (3, .int p2), (4, .int p3), (5, .int p4)]) hx hb dX3_outcome_34 hl (by decide) rfl (fun ls hl => ?_)
      refine lv_iload hx hb dX3_outcome_36 (lv_at hl 6 rfl) ?_
      refine lv_iconst (v := 2) hx hb dX3_outcome_38 (by decide) ?_
      refine lv_irem hx hb dX3_outcome_39 (dkN_ne0 (dkN_lit (x := 2) (2) rfl) rfl) ?_
      refine lv_topi (fun v8 ev8 => ?_)
      have dv8 : dkN [(0, 1)] v8 := by rw [ev8]; exact dkN_rem 2 (by decide) d4 (dkN_lit (x := 2) (2) rfl) rfl
      refine lv_if_ne (tgt := 73) hx hb dX3_outcome_40 (by decide) (fun c9 => ?_) (fun c9 => ?_)
      ·
        have d10 : dkN [(1, 1)] v8 := dkN_ne1 (0) dv8 (dkN_lit (x := 0) (0) rfl) (dk_ne c9) rfl
        refine lv_iload hx hb dX3_outcome_73 (lv_at hl 5 rfl) ?_
        refine lv_iconst (v := 1) hx hb dX3_outcome_75 (by decide) ?_
        refine lv_iadd hx hb dX3_outcome_76 ?_
        refine lv_topi (fun v11 ev11 => ?_)
        refine lv_bipush (v := 9) hx hb dX3_outcome_77 (by decide) ?_
        refine va_mmin hx hb (by rw [hml]; exact hl.1.symm) hown (hts (.methodLink RX3 95 Lib.Math.min.name) (List.mem_of_getElem? (i := 1) rfl)) (hts (.static Lib.Math.min.name) (List.mem_of_getElem? (i := 2) rfl)) (hts (.initialized "java/lang/Math") (List.mem_of_getElem? (i := 3) rfl)) (hts (.code Lib.Math.min.name Lib.Math.min.code 2 (some .int)) (List.mem_of_getElem? (i := 4) rfl)) (Nat.le_of_ble_eq_true rfl) (Nat.le_of_ble_eq_true rfl) (Nat.zero_le _) (Nat.zero_le _) dX3_outcome_79 ?_
        refine lv_topi (fun v12 ev12 => ?_)
        have dv12 : dkN [(-2147483648, 9)] v12 := by rw [ev12]; exact dkN_min (dkN_top v11) (dkN_lit (x := 9) (9) rfl) rfl
        refine lv_istore (lv' := [(7, .int v12), (6, .int v7), (0, .ref (z + 325)), (1, .int p0), (2, .int p1), (3, .int p2), (4, .int p3), (5, .int p4)]) hx hb dX3_outcome_82 hl (by decide) rfl (fun ls hl => ?_)
        refine lv_iload hx hb dX3_outcome_84 (lv_at hl 1 rfl) ?_
        refine lv_aload_n hx hb dX3_outcome_86 rfl (lv_at hl 2 rfl) ?_
        refine lv_iload_n hx hb dX3_outcome_87 rfl (lv_at hl 3 rfl) ?_
        refine lv_iload_n hx hb dX3_outcome_88 rfl (lv_at hl 4 rfl) ?_
        refine lv_iload_n hx hb dX3_outcome_89 rfl (lv_at hl 5 rfl) ?_
        refine lv_iload hx hb dX3_outcome_90 (lv_at hl 0 rfl) ?_
        refine lv_iload hx hb dX3_outcome_92 (lv_at hl 7 rfl) ?_
        refine lv_iconst (v := 1) hx hb dX3_outcome_94 (by decide) ?_
        refine lv_isub hx hb dX3_outcome_95 ?_
        refine lv_topi (fun v13 ev13 => ?_)
        have dv13 : dkN [(0, 1)] v13 := by rw [ev13]; exact dkN_subt d4 (dkN_lit (x := 1) (1) rfl) rfl
        refine dk_Vi (As := [.int p0, .int p1, .int p2, .int v12, .int v13]) (rest := [.int v7]) ⟨hx, hb, hml, hown, hts⟩ (c_X3_outcome_3 l g z I7 p0 p1 p2 v12 v13 dp0 dp1 dv13 hO) (cwV 5 hts gX3_outcome_X3_outcome rfl rfl rfl (by decide +kernel) ⟨Nat.le_of_ble_eq_true rfl, Nat.le_of_ble_eq_true rfl⟩) (dk_at325 hW) rfl hK hT hW hS rfl hl.1 rfl (Nat.le_of_ble_eq_true rfl) dX3_outcome_96 ⟨Nat.zero_le _, Nat.zero_le _⟩ (fun v14 I14 H14 L14 hp14 hW hS => ?_)
        obtain ⟨hF14, hO, hc14⟩ := hp14
        have hF := dkF_call hF hF14 rfl
        obtain ⟨dv14, -⟩ := hc14
        refine va_mmin hx hb (by rw [hml]; exact hl.1.symm) hown (hts (.methodLink RX3 95 Lib.Math.min.name) (List.mem_of_getElem? (i := 1) rfl)) (hts (.static Lib.Math.min.name) (List.mem_of_getElem? (i := 2) rfl)) (hts (.initialized "java/lang/Math") (List.mem_of_getElem? (i := 3) rfl)) (hts (.code Lib.Math.min.name Lib.Math.min.code 2 (some .int)) (List.mem_of_getElem? (i := 4) rfl)) (Nat.le_of_ble_eq_true rfl) (Nat.le_of_ble_eq_true rfl) (Nat.zero_le _) (Nat.zero_le _) dX3_outcome_99 ?_
        refine lv_topi (fun v15 ev15 => ?_)
        have dv15 : dkN [(-63, 63)] v15 := by rw [ev15]; exact dkN_min dv7 dv14 rfl
        exact W.iret (v := v15) hx hb hr (fun t ht hW9 => ⟨⟨v15, I14, rfl, ⟨hF, hO, ⟨dkN_sub dv15 rfl, trivial⟩⟩, dkW_eq ht hW⟩, hS.F ht⟩) hS.2.2 dX3_outcome_102
      ·
        have d16 : dkN [(0, 0)] v8 := dkN_eq1 dv8 (dkN_lit (x := 0) (0) rfl) (congrArg Int32.toInt c9) rfl
        refine lv_iload_n hx hb dX3_outcome_43 rfl (lv_at hl 4 rfl) ?_
        refine lv_iconst (v := 1) hx hb dX3_outcome_44 (by decide) ?_
        refine lv_iadd hx hb dX3_outcome_45 ?_
        refine lv_topi (fun v17 ev17 => ?_)
        refine lv_bipush (v := 9) hx hb dX3_outcome_46 (by decide) ?_
        refine va_mmin hx hb (by rw [hml]; exact hl.1.symm) hown (hts (.methodLink RX3 95 Lib.Math.min.name) (List.mem_of_getElem? (i := 1) rfl)) (hts (.static Lib.Math.min.name) (List.mem_of_getElem? (i := 2) rfl)) (hts (.initialized "java/lang/Math") (List.mem_of_getElem? (i := 3) rfl)) (hts (.code Lib.Math.min.name Lib.Math.min.code 2 (some .int)) (List.mem_of_getElem? (i := 4) rfl)) (Nat.le_of_ble_eq_true rfl) (Nat.le_of_ble_eq_true rfl) (Nat.zero_le _) (Nat.zero_le _) dX3_outcome_48 ?_
        refine lv_topi (fun v18 ev18 => ?_)
        have dv18 : dkN [(-2147483648, 9)] v18 := by rw [ev18]; exact dkN_min (dkN_top v17) (dkN_lit (x := 9) (9) rfl) rfl
        refine lv_istore (lv' := [(7, .int v18), (6, .int v7), (0, .ref (z + 325)), (1, .int p0), (2, .int p1), (3, .int p2), (4, .int p3), (5, .int p4)]) hx hb dX3_outcome_51 hl (by decide) rfl (fun ls hl => ?_)
        refine lv_iload hx hb dX3_outcome_53 (lv_at hl 1 rfl) ?_
        refine lv_aload_n hx hb dX3_outcome_55 rfl (lv_at hl 2 rfl) ?_
        refine lv_iload_n hx hb dX3_outcome_56 rfl (lv_at hl 3 rfl) ?_
        refine lv_iload_n hx hb dX3_outcome_57 rfl (lv_at hl 4 rfl) ?_
        refine lv_iload hx hb dX3_outcome_58 (lv_at hl 0 rfl) ?_
        refine lv_iload hx hb dX3_outcome_60 (lv_at hl 6 rfl) ?_
        refine lv_iload hx hb dX3_outcome_62 (lv_at hl 7 rfl) ?_
        refine lv_iconst (v := 1) hx hb dX3_outcome_64 (by decide) ?_
        refine lv_isub hx hb dX3_outcome_65 ?_
        refine lv_topi (fun v19 ev19 => ?_)
        have dv19 : dkN [(0, 1)] v19 := by rw [ev19]; exact dkN_subt d4 (dkN_lit (x := 1) (1) rfl) rfl
        refine dk_Vi (As := [.int p0, .int p1, .int v18, .int p3, .int v19]) (rest := [.int v7]) ⟨hx, hb, hml, hown, hts⟩ (c_X3_outcome_3 l g z I7 p0 p1 v18 p3 v19 dp0 dp1 dv19 hO) (cwV 5 hts gX3_outcome_X3_outcome rfl rfl rfl (by decide +kernel) ⟨Nat.le_of_ble_eq_true rfl, Nat.le_of_ble_eq_true rfl⟩) (dk_at325 hW) rfl hK hT hW hS rfl hl.1 rfl (Nat.le_of_ble_eq_true rfl) dX3_outcome_66 ⟨Nat.zero_le _, Nat.zero_le _⟩ (fun v20 I20 H20 L20 hp20 hW hS => ?_)
        obtain ⟨hF20, hO, hc20⟩ := hp20
        have hF := dkF_call hF hF20 rfl
        obtain ⟨dv20, -⟩ := hc20
        refine va_mmax hx hb (by rw [hml]; exact hl.1.symm) hown (hts (.methodLink RX3 101 Lib.Math.max.name) (List.mem_of_getElem? (i := 5) rfl)) (hts (.static Lib.Math.max.name) (List.mem_of_getElem? (i := 6) rfl)) (hts (.initialized "java/lang/Math") (List.mem_of_getElem? (i := 3) rfl)) (hts (.code Lib.Math.max.name Lib.Math.max.code 2 (some .int)) (List.mem_of_getElem? (i := 7) rfl)) (Nat.le_of_ble_eq_true rfl) (Nat.le_of_ble_eq_true rfl) (Nat.zero_le _) (Nat.zero_le _) dX3_outcome_69 ?_
        refine lv_topi (fun v21 ev21 => ?_)
        have dv21 : dkN [(-63, 63)] v21 := by rw [ev21]; exact dkN_max dv7 dv20 rfl
        exact W.iret (v := v21) hx hb hr (fun t ht hW9 => ⟨⟨v21, I20, rfl, ⟨hF, hO, ⟨dkN_sub dv21 rfl, trivial⟩⟩, dkW_eq ht hW⟩, hS.F ht⟩) hS.2.2 dX3_outcome_72
    ·
      exact (dkN_nil (show dkN [] p4 from dkN_le2 1 (dkN_lit (x := 4) (4) rfl) d4 (dkc_nle c5) rfl)).elim
set_option maxHeartbeats 4000000 in
set_option maxRecDepth 100000 in
theorem c_X3_outcome_1 (l : Launch) (g : dkG) (z : Nat) (I0 : dkI) (p0 : Int32) (p1 : Int32) (p2 : Int32) (p3 : Int32) (p4 : Int32) (dp0 : dkN [(0, 4)] p0) (dp1 : dkN [(0, 4)] p1) (dp4 : dkN [(0, 3)] p4)  (hO : dkOk I0) : Met l yX3_outcome wsX3_outcome (dkR 9) (dkPc g z [.ref (z + 325), .int p0, .int p1, .int p2, .int p3, .int p4] I0) (dkQi g z (fun r I1 => dkF [(326, 326, 0, 4), (326, 326, 11, 11), (326, 326, 15, 17), (327, 327, 0, 4), (328, 328, 0, 4), (329, 329, 0, 4), (330, 330, 0, 4), (331, 331, 0, 4), (332, 332, 0, 4), (333, 333, 0, 5), (334, 334, 0, 5), (335, 335, 0, 5), (336, 336, 0, 8)] I0 I1 ∧ dkOk I1 ∧ ((dkN [(-63, 63)] r ∧ True)))) 0 0 (dkA z) := by
  refine Met.ofW (cc := cX3_outcome) (maxL := 8) (ret := (some .int)) (by decide) rfl ?_
  intro p e s m args below meth c s₁ B hml hv
  obtain ⟨ha, hW, hK, hT⟩ := hv
  have hx := B.exec
  have hb := B.bytes
  have hr := B.returns
  have hts := atoms_spec (ws := wsX3_outcome) B.pre
  have hown : s.vm.findClass RX3 = some m.cls := findClass_of_methodNamed B.named
  have hlocks := B.notSynchronized
  have hS : va_S (dkA z) s.heap s.heap [] := va_S.rf
  have hF : dkF [(326, 326, 0, 4), (326, 326, 11, 11), (326, 326, 15, 17), (327, 327, 0, 4), (328, 328, 0, 4), (329, 329, 0, 4), (330, 330, 0, 4), (331, 331, 0, 4), (332, 332, 0, 4), (333, 333, 0, 5), (334, 334, 0, 5), (335, 335, 0, 5), (336, 336, 0, 8)] I0 I0 := dkF_rf _ _
  have hl := lv_entry ([.ref (z + 325), .int p0, .int p1, .int p2, .int p3, .int p4]) (n := 8) (Nat.le_of_ble_eq_true rfl)
  have hgo : entryFrame m args 8 = entryFrame m ([.ref (z + 325), .int p0, .int p1, .int p2, .int p3, .int p4] : List Value).toArray 8 := by rw [ha]
  rw [hgo, lg_entry_eq]
  generalize (lg_sl ([.ref (z + 325), .int p0, .int p1, .int p2, .int p3, .int p4]) ++ List.replicate (8 - (lg_sl ([.ref (z + 325), .int p0, .int p1, .int p2, .int p3, .int p4])).length) Slot.unset).toArray = ls at hl ⊢
  have hl : lv_has ls 8 [(0, .ref (z + 325)), (1, .int p0), (2, .int p1), (3, .int p2), (4, .int p3), (5, .int p4)] := hl
  have C11 : ∀ (I : dkI) (H : Heap) (locs : List Loc) (ls : Array Slot), dkW g z I H → va_S (dkA z) s.heap H locs → dkF [(326, 326, 0, 4), (326, 326, 11, 11), (326, 326, 15, 17), (327, 327, 0, 4), (328, 328, 0, 4), (329, 329, 0, 4), (330, 330, 0, 4), (331, 331, 0, 4), (332, 332, 0, 4), (333, 333, 0, 5), (334, 334, 0, 5), (335, 335, 0, 5), (336, 336, 0, 8)] I0 I → dkOk I → dkN [(0, 0)] p4 → lv_has ls 8 [(0, .ref (z + 325)), (1, .int p0), (2, .int p1), (3, .int p2), (4, .int p3), (5, .int p4)] → W p l e (headSpec wsX3_outcome (dkR 9)).room s m args below meth c H locs 0 0 (MQ below (dkQi g z (fun r I1 => dkF [(326, 326, 0, 4), (326, 326, 11, 11), (326, 326, 15, 17), (327, 327, 0, 4), (328, 328, 0, 4), (329, 329, 0, 4), (330, 330, 0, 4), (331, 331, 0, 4), (332, 332, 0, 4), (333, 333, 0, 5), (334, 334, 0, 5), (335, 335, 0, 5), (336, 336, 0, 8)] I0 I1 ∧ dkOk I1 ∧ ((dkN [(-63, 63)] r ∧ True)))) args s 0 0 (dkA z)) (F0 m 11 ls []) := by
    intro I11_ H locs ls hW hS hF_11 hO r11_0 hl
    have hF := hF_11
    refine lv_aload_n hx hb dX3_outcome_11 rfl (lv_at hl 0 rfl) ?_
    refine lv_iload_n hx hb dX3_outcome_12 rfl (lv_at hl 1 rfl) ?_
    refine lv_iload_n hx hb dX3_outcome_13 rfl (lv_at hl 2 rfl) ?_
    refine lv_iload_n hx hb dX3_outcome_14 rfl (lv_at hl 3 rfl) ?_
    refine lv_iload hx hb dX3_outcome_15 (lv_at hl 4 rfl) ?_
    refine dk_Vi (As := [.int p0, .int p1, .int p2, .int p3]) (rest := []) ⟨hx, hb, hml, hown, hts⟩ (c_X3_margin_0 l g z I11_ p0 p1 p2 p3 dp0 dp1 hO) (cwV 4 hts gX3_outcome_X3_margin rfl rfl rfl (by decide +kernel) ⟨Nat.le_of_ble_eq_true rfl, Nat.le_of_ble_eq_true rfl⟩) (dk_at325 hW) rfl hK hT hW hS rfl hl.1 rfl (Nat.le_of_ble_eq_true rfl) dX3_outcome_17 ⟨Nat.zero_le _, Nat.zero_le _⟩ (fun v1 I1 H1 L1 hp1 hW hS => ?_)
    obtain ⟨hF1, hO, hc1⟩ := hp1
    have hF := dkF_call hF hF1 rfl
    obtain ⟨dv1, -⟩ := hc1
    exact W.iret (v := v1) hx hb hr (fun t ht hW9 => ⟨⟨v1, I1, rfl, ⟨hF, hO, ⟨dkN_sub dv1 rfl, trivial⟩⟩, dkW_eq ht hW⟩, hS.F ht⟩) hS.2.2 dX3_outcome_20
  refine lv_iload hx hb dX3_outcome_0 (lv_at hl 5 rfl) ?_
  refine lv_if_le (tgt := 11) hx hb dX3_outcome_2 (by decide) (fun c2 => ?_) (fun c2 => ?_)
  ·
    have d3 : dkN [(0, 0)] p4 := dkN_le1 0 dp4 (dkN_lit (x := 0) (0) rfl) (dkc_le c2) rfl
    exact C11 I0 _ _ ls  hW hS hF hO (dkN_sub d3 rfl) (lv_sub hl [0, 1, 2, 3, 4, 5] rfl)
  ·
    have d4 : dkN [(1, 3)] p4 := dkN_le2 1 (dkN_lit (x := 0) (0) rfl) dp4 (dkc_nle c2) rfl
    refine lv_iload hx hb dX3_outcome_5 (lv_at hl 5 rfl) ?_
    refine lv_iconst (v := 4) hx hb dX3_outcome_7 (by decide) ?_
    refine lv_icmp_le (tgt := 21) hx hb dX3_outcome_8 (by decide) (fun c5 => ?_) (fun c5 => ?_)
    ·
      refine lv_aload_n hx hb dX3_outcome_21 rfl (lv_at hl 0 rfl) ?_
      refine lv_iload_n hx hb dX3_outcome_22 rfl (lv_at hl 1 rfl) ?_
      refine lv_iload_n hx hb dX3_outcome_23 rfl (lv_at hl 2 rfl) ?_
      refine lv_iload_n hx hb dX3_outcome_24 rfl (lv_at hl 3 rfl) ?_
      refine lv_iload hx hb dX3_outcome_25 (lv_at hl 4 rfl) ?_
      refine lv_iload hx hb dX3_outcome_27 (lv_at hl 5 rfl) ?_
      refine lv_iconst (v := 1) hx hb dX3_outcome_29 (by decide) ?_
      refine lv_isub hx hb dX3_outcome_30 ?_
      refine lv_topi (fun v6 ev6 => ?_)
      have dv6 : dkN [(0, 2)] v6 := by rw [ev6]; exact dkN_subt d4 (dkN_lit (x := 1) (1) rfl) rfl
      refine dk_Vi (As := [.int p0, .int p1, .int p2, .int p3, .int v6]) (rest := []) ⟨hx, hb, hml, hown, hts⟩ (c_X3_outcome_2 l g z I0 p0 p1 p2 p3 v6 dp0 dp1 dv6 hO) (cwV 5 hts gX3_outcome_X3_outcome rfl rfl rfl (by decide +kernel) ⟨Nat.le_of_ble_eq_true rfl, Nat.le_of_ble_eq_true rfl⟩) (dk_at325 hW) rfl hK hT hW hS rfl hl.1 rfl (Nat.le_of_ble_eq_true rfl) dX3_outcome_31 ⟨Nat.zero_le _, Nat.zero_le _⟩ (fun v7 I7 H7 L7 hp7 hW hS => ?_)
      obtain ⟨hF7, hO, hc7⟩ := hp7
      have hF := dkF_call hF hF7 rfl
      obtain ⟨dv7, -⟩ := hc7
      refine lv_istore (lv' := [(6, .int v7), (0, .ref (z + 325)), (1, .int p0), (2, .int p1), (3, .int p2), (4, .int p3), (5, .int p4)]) hx hb dX3_outcome_34 hl (by decide) rfl (fun ls hl => ?_)
      refine lv_iload hx hb dX3_outcome_36 (lv_at hl 6 rfl) ?_
      refine lv_iconst (v := 2) hx hb dX3_outcome_38 (by decide) ?_
      refine lv_irem hx hb dX3_outcome_39 (dkN_ne0 (dkN_lit (x := 2) (2) rfl) rfl) ?_
      refine lv_topi (fun v8 ev8 => ?_)
      have dv8 : dkN [(0, 1)] v8 := by rw [ev8]; exact dkN_rem 2 (by decide) d4 (dkN_lit (x := 2) (2) rfl) rfl
      refine lv_if_ne (tgt := 73) hx hb dX3_outcome_40 (by decide) (fun c9 => ?_) (fun c9 => ?_)
      ·
        have d10 : dkN [(1, 1)] v8 := dkN_ne1 (0) dv8 (dkN_lit (x := 0) (0) rfl) (dk_ne c9) rfl
        refine lv_iload hx hb dX3_outcome_73 (lv_at hl 5 rfl) ?_
        refine lv_iconst (v := 1) hx hb dX3_outcome_75 (by decide) ?_
        refine lv_iadd hx hb dX3_outcome_76 ?_
        refine lv_topi (fun v11 ev11 => ?_)
        refine lv_bipush (v := 9) hx hb dX3_outcome_77 (by decide) ?_
        refine va_mmin hx hb (by rw [hml]; exact hl.1.symm) hown (hts (.methodLink RX3 95 Lib.Math.min.name) (List.mem_of_getElem? (i := 1) rfl)) (hts (.static Lib.Math.min.name) (List.mem_of_getElem? (i := 2) rfl)) (hts (.initialized "java/lang/Math") (List.mem_of_getElem? (i := 3) rfl)) (hts (.code Lib.Math.min.name Lib.Math.min.code 2 (some .int)) (List.mem_of_getElem? (i := 4) rfl)) (Nat.le_of_ble_eq_true rfl) (Nat.le_of_ble_eq_true rfl) (Nat.zero_le _) (Nat.zero_le _) dX3_outcome_79 ?_
        refine lv_topi (fun v12 ev12 => ?_)
        have dv12 : dkN [(-2147483648, 9)] v12 := by rw [ev12]; exact dkN_min (dkN_top v11) (dkN_lit (x := 9) (9) rfl) rfl
        refine lv_istore (lv' := [(7, .int v12), (6, .int v7), (0, .ref (z + 325)), (1, .int p0), (2, .int p1), (3, .int p2), (4, .int p3), (5, .int p4)]) hx hb dX3_outcome_82 hl (by decide) rfl (fun ls hl => ?_)
        refine lv_iload hx hb dX3_outcome_84 (lv_at hl 1 rfl) ?_
        refine lv_aload_n hx hb dX3_outcome_86 rfl (lv_at hl 2 rfl) ?_
        refine lv_iload_n hx hb dX3_outcome_87 rfl (lv_at hl 3 rfl) ?_
        refine lv_iload_n hx hb dX3_outcome_88 rfl (lv_at hl 4 rfl) ?_
        refine lv_iload_n hx hb dX3_outcome_89 rfl (lv_at hl 5 rfl) ?_
        refine lv_iload hx hb dX3_outcome_90 (lv_at hl 0 rfl) ?_
        refine lv_iload hx hb dX3_outcome_92 (lv_at hl 7 rfl) ?_
        refine lv_iconst (v := 1) hx hb dX3_outcome_94 (by decide) ?_
        refine lv_isub hx hb dX3_outcome_95 ?_
        refine lv_topi (fun v13 ev13 => ?_)
        have dv13 : dkN [(0, 2)] v13 := by rw [ev13]; exact dkN_subt d4 (dkN_lit (x := 1) (1) rfl) rfl
        refine dk_Vi (As := [.int p0, .int p1, .int p2, .int v12, .int v13]) (rest := [.int v7]) ⟨hx, hb, hml, hown, hts⟩ (c_X3_outcome_2 l g z I7 p0 p1 p2 v12 v13 dp0 dp1 dv13 hO) (cwV 5 hts gX3_outcome_X3_outcome rfl rfl rfl (by decide +kernel) ⟨Nat.le_of_ble_eq_true rfl, Nat.le_of_ble_eq_true rfl⟩) (dk_at325 hW) rfl hK hT hW hS rfl hl.1 rfl (Nat.le_of_ble_eq_true rfl) dX3_outcome_96 ⟨Nat.zero_le _, Nat.zero_le _⟩ (fun v14 I14 H14 L14 hp14 hW hS => ?_)
        obtain ⟨hF14, hO, hc14⟩ := hp14
        have hF := dkF_call hF hF14 rfl
        obtain ⟨dv14, -⟩ := hc14
        refine va_mmin hx hb (by rw [hml]; exact hl.1.symm) hown (hts (.methodLink RX3 95 Lib.Math.min.name) (List.mem_of_getElem? (i := 1) rfl)) (hts (.static Lib.Math.min.name) (List.mem_of_getElem? (i := 2) rfl)) (hts (.initialized "java/lang/Math") (List.mem_of_getElem? (i := 3) rfl)) (hts (.code Lib.Math.min.name Lib.Math.min.code 2 (some .int)) (List.mem_of_getElem? (i := 4) rfl)) (Nat.le_of_ble_eq_true rfl) (Nat.le_of_ble_eq_true rfl) (Nat.zero_le _) (Nat.zero_le _) dX3_outcome_99 ?_
        refine lv_topi (fun v15 ev15 => ?_)
        have dv15 : dkN [(-63, 63)] v15 := by rw [ev15]; exact dkN_min dv7 dv14 rfl
        exact W.iret (v := v15) hx hb hr (fun t ht hW9 => ⟨⟨v15, I14, rfl, ⟨hF, hO, ⟨dkN_sub dv15 rfl, trivial⟩⟩, dkW_eq ht hW⟩, hS.F ht⟩) hS.2.2 dX3_outcome_102
      ·
        have d16 : dkN [(0, 0)] v8 := dkN_eq1 dv8 (dkN_lit (x := 0) (0) rfl) (congrArg Int32.toInt c9) rfl
        refine lv_iload_n hx hb dX3_outcome_43 rfl (lv_at hl 4 rfl) ?_
        refine lv_iconst (v := 1) hx hb dX3_outcome_44 (by decide) ?_
        refine lv_iadd hx hb dX3_outcome_45 ?_
        refine lv_topi (fun v17 ev17 => ?_)
        refine lv_bipush (v := 9) hx hb dX3_outcome_46 (by decide) ?_
        refine va_mmin hx hb (by rw [hml]; exact hl.1.symm) hown (hts (.methodLink RX3 95 Lib.Math.min.name) (List.mem_of_getElem? (i := 1) rfl)) (hts (.static Lib.Math.min.name) (List.mem_of_getElem? (i := 2) rfl)) (hts (.initialized "java/lang/Math") (List.mem_of_getElem? (i := 3) rfl)) (hts (.code Lib.Math.min.name Lib.Math.min.code 2 (some .int)) (List.mem_of_getElem? (i := 4) rfl)) (Nat.le_of_ble_eq_true rfl) (Nat.le_of_ble_eq_true rfl) (Nat.zero_le _) (Nat.zero_le _) dX3_outcome_48 ?_
        refine lv_topi (fun v18 ev18 => ?_)
        have dv18 : dkN [(-2147483648, 9)] v18 := by rw [ev18]; exact dkN_min (dkN_top v17) (dkN_lit (x := 9) (9) rfl) rfl
        refine lv_istore (lv' := [(7, .int v18), (6, .int v7), (0, .ref (z + 325)), (1, .int p0), (2, .int p1), (3, .int p2), (4, .int p3), (5, .int p4)]) hx hb dX3_outcome_51 hl (by decide) rfl (fun ls hl => ?_)
        refine lv_iload hx hb dX3_outcome_53 (lv_at hl 1 rfl) ?_
        refine lv_aload_n hx hb dX3_outcome_55 rfl (lv_at hl 2 rfl) ?_
        refine lv_iload_n hx hb dX3_outcome_56 rfl (lv_at hl 3 rfl) ?_
        refine lv_iload_n hx hb dX3_outcome_57 rfl (lv_at hl 4 rfl) ?_
        refine lv_iload hx hb dX3_outcome_58 (lv_at hl 0 rfl) ?_
        refine lv_iload hx hb dX3_outcome_60 (lv_at hl 6 rfl) ?_
        refine lv_iload hx hb dX3_outcome_62 (lv_at hl 7 rfl) ?_
        refine lv_iconst (v := 1) hx hb dX3_outcome_64 (by decide) ?_
        refine lv_isub hx hb dX3_outcome_65 ?_
        refine lv_topi (fun v19 ev19 => ?_)
        have dv19 : dkN [(0, 2)] v19 := by rw [ev19]; exact dkN_subt d4 (dkN_lit (x := 1) (1) rfl) rfl
        refine dk_Vi (As := [.int p0, .int p1, .int v18, .int p3, .int v19]) (rest := [.int v7]) ⟨hx, hb, hml, hown, hts⟩ (c_X3_outcome_2 l g z I7 p0 p1 v18 p3 v19 dp0 dp1 dv19 hO) (cwV 5 hts gX3_outcome_X3_outcome rfl rfl rfl (by decide +kernel) ⟨Nat.le_of_ble_eq_true rfl, Nat.le_of_ble_eq_true rfl⟩) (dk_at325 hW) rfl hK hT hW hS rfl hl.1 rfl (Nat.le_of_ble_eq_true rfl) dX3_outcome_66 ⟨Nat.zero_le _, Nat.zero_le _⟩ (fun v20 I20 H20 L20 hp20 hW hS => ?_)
        obtain ⟨hF20, hO, hc20⟩ := hp20
        have hF := dkF_call hF hF20 rfl
        obtain ⟨dv20, -⟩ := hc20
        refine va_mmax hx hb (by rw [hml]; exact hl.1.symm) hown (hts (.methodLink RX3 101 Lib.Math.max.name) (List.mem_of_getElem? (i := 5) rfl)) (hts (.static Lib.Math.max.name) (List.mem_of_getElem? (i := 6) rfl)) (hts (.initialized "java/lang/Math") (List.mem_of_getElem? (i := 3) rfl)) (hts (.code Lib.Math.max.name Lib.Math.max.code 2 (some .int)) (List.mem_of_getElem? (i := 7) rfl)) (Nat.le_of_ble_eq_true rfl) (Nat.le_of_ble_eq_true rfl) (Nat.zero_le _) (Nat.zero_le _) dX3_outcome_69 ?_
        refine lv_topi (fun v21 ev21 => ?_)
        have dv21 : dkN [(-63, 63)] v21 := by rw [ev21]; exact dkN_max dv7 dv20 rfl
        exact W.iret (v := v21) hx hb hr (fun t ht hW9 => ⟨⟨v21, I20, rfl, ⟨hF, hO, ⟨dkN_sub dv21 rfl, trivial⟩⟩, dkW_eq ht hW⟩, hS.F ht⟩) hS.2.2 dX3_outcome_72
    ·
      exact (dkN_nil (show dkN [] p4 from dkN_le2 1 (dkN_lit (x := 4) (4) rfl) d4 (dkc_nle c5) rfl)).elim
set_option maxHeartbeats 4000000 in
set_option maxRecDepth 100000 in
theorem c_X3_outcome_0 (l : Launch) (g : dkG) (z : Nat) (I0 : dkI) (p0 : Int32) (p1 : Int32) (p2 : Int32) (p3 : Int32) (p4 : Int32) (dp0 : dkN [(0, 4)] p0) (dp1 : dkN [(0, 4)] p1) (dp4 : dkN [(0, 4)] p4)  (hO : dkOk I0) : Met l yX3_outcome wsX3_outcome (dkR 10) (dkPc g z [.ref (z + 325), .int p0, .int p1, .int p2, .int p3, .int p4] I0) (dkQi g z (fun r I1 => dkF [(326, 326, 0, 4), (326, 326, 11, 11), (326, 326, 15, 17), (327, 327, 0, 4), (328, 328, 0, 4), (329, 329, 0, 4), (330, 330, 0, 4), (331, 331, 0, 4), (332, 332, 0, 4), (333, 333, 0, 5), (334, 334, 0, 5), (335, 335, 0, 5), (336, 336, 0, 8)] I0 I1 ∧ dkOk I1 ∧ ((dkN [(-63, 63)] r ∧ True)))) 0 0 (dkA z) := by
  refine Met.ofW (cc := cX3_outcome) (maxL := 8) (ret := (some .int)) (by decide) rfl ?_
  intro p e s m args below meth c s₁ B hml hv
  obtain ⟨ha, hW, hK, hT⟩ := hv
  have hx := B.exec
  have hb := B.bytes
  have hr := B.returns
  have hts := atoms_spec (ws := wsX3_outcome) B.pre
  have hown : s.vm.findClass RX3 = some m.cls := findClass_of_methodNamed B.named
  have hlocks := B.notSynchronized
  have hS : va_S (dkA z) s.heap s.heap [] := va_S.rf
  have hF : dkF [(326, 326, 0, 4), (326, 326, 11, 11), (326, 326, 15, 17), (327, 327, 0, 4), (328, 328, 0, 4), (329, 329, 0, 4), (330, 330, 0, 4), (331, 331, 0, 4), (332, 332, 0, 4), (333, 333, 0, 5), (334, 334, 0, 5), (335, 335, 0, 5), (336, 336, 0, 8)] I0 I0 := dkF_rf _ _
  have hl := lv_entry ([.ref (z + 325), .int p0, .int p1, .int p2, .int p3, .int p4]) (n := 8) (Nat.le_of_ble_eq_true rfl)
  have hgo : entryFrame m args 8 = entryFrame m ([.ref (z + 325), .int p0, .int p1, .int p2, .int p3, .int p4] : List Value).toArray 8 := by rw [ha]
  rw [hgo, lg_entry_eq]
  generalize (lg_sl ([.ref (z + 325), .int p0, .int p1, .int p2, .int p3, .int p4]) ++ List.replicate (8 - (lg_sl ([.ref (z + 325), .int p0, .int p1, .int p2, .int p3, .int p4])).length) Slot.unset).toArray = ls at hl ⊢
  have hl : lv_has ls 8 [(0, .ref (z + 325)), (1, .int p0), (2, .int p1), (3, .int p2), (4, .int p3), (5, .int p4)] := hl
  have C11 : ∀ (I : dkI) (H : Heap) (locs : List Loc) (ls : Array Slot), dkW g z I H → va_S (dkA z) s.heap H locs → dkF [(326, 326, 0, 4), (326, 326, 11, 11), (326, 326, 15, 17), (327, 327, 0, 4), (328, 328, 0, 4), (329, 329, 0, 4), (330, 330, 0, 4), (331, 331, 0, 4), (332, 332, 0, 4), (333, 333, 0, 5), (334, 334, 0, 5), (335, 335, 0, 5), (336, 336, 0, 8)] I0 I → dkOk I → dkN [(0, 0)] p4 → lv_has ls 8 [(0, .ref (z + 325)), (1, .int p0), (2, .int p1), (3, .int p2), (4, .int p3), (5, .int p4)] → W p l e (headSpec wsX3_outcome (dkR 10)).room s m args below meth c H locs 0 0 (MQ below (dkQi g z (fun r I1 => dkF [(326, 326, 0, 4), (326, 326, 11, 11), (326, 326, 15, 17), (327, 327, 0, 4), (328, 328, 0, 4), (329, 329, 0, 4), (330, 330, 0, 4), (331, 331, 0, 4), (332, 332, 0, 4), (333, 333, 0, 5), (334, 334, 0, 5), (335, 335, 0, 5), (336, 336, 0, 8)] I0 I1 ∧ dkOk I1 ∧ ((dkN [(-63, 63)] r ∧ True)))) args s 0 0 (dkA z)) (F0 m 11 ls []) := by
    intro I11_ H locs ls hW hS hF_11 hO r11_0 hl
    have hF := hF_11
    refine lv_aload_n hx hb dX3_outcome_11 rfl (lv_at hl 0 rfl) ?_
    refine lv_iload_n hx hb dX3_outcome_12 rfl (lv_at hl 1 rfl) ?_
    refine lv_iload_n hx hb dX3_outcome_13 rfl (lv_at hl 2 rfl) ?_
    refine lv_iload_n hx hb dX3_outcome_14 rfl (lv_at hl 3 rfl) ?_
    refine lv_iload hx hb dX3_outcome_15 (lv_at hl 4 rfl) ?_
    refine dk_Vi (As := [.int p0, .int p1, .int p2, .int p3]) (rest := []) ⟨hx, hb, hml, hown, hts⟩ (c_X3_margin_0 l g z I11_ p0 p1 p2 p3 dp0 dp1 hO) (cwV 4 hts gX3_outcome_X3_margin rfl rfl rfl (by decide +kernel) ⟨Nat.le_of_ble_eq_true rfl, Nat.le_of_ble_eq_true rfl⟩) (dk_at325 hW) rfl hK hT hW hS rfl hl.1 rfl (Nat.le_of_ble_eq_true rfl) dX3_outcome_17 ⟨Nat.zero_le _, Nat.zero_le _⟩ (fun v1 I1 H1 L1 hp1 hW hS => ?_)
    obtain ⟨hF1, hO, hc1⟩ := hp1
    have hF := dkF_call hF hF1 rfl
    obtain ⟨dv1, -⟩ := hc1
    exact W.iret (v := v1) hx hb hr (fun t ht hW9 => ⟨⟨v1, I1, rfl, ⟨hF, hO, ⟨dkN_sub dv1 rfl, trivial⟩⟩, dkW_eq ht hW⟩, hS.F ht⟩) hS.2.2 dX3_outcome_20
  refine lv_iload hx hb dX3_outcome_0 (lv_at hl 5 rfl) ?_
  refine lv_if_le (tgt := 11) hx hb dX3_outcome_2 (by decide) (fun c2 => ?_) (fun c2 => ?_)
  ·
    have d3 : dkN [(0, 0)] p4 := dkN_le1 0 dp4 (dkN_lit (x := 0) (0) rfl) (dkc_le c2) rfl
    exact C11 I0 _ _ ls  hW hS hF hO (dkN_sub d3 rfl) (lv_sub hl [0, 1, 2, 3, 4, 5] rfl)
  ·
    have d4 : dkN [(1, 4)] p4 := dkN_le2 1 (dkN_lit (x := 0) (0) rfl) dp4 (dkc_nle c2) rfl
    refine lv_iload hx hb dX3_outcome_5 (lv_at hl 5 rfl) ?_
    refine lv_iconst (v := 4) hx hb dX3_outcome_7 (by decide) ?_
    refine lv_icmp_le (tgt := 21) hx hb dX3_outcome_8 (by decide) (fun c5 => ?_) (fun c5 => ?_)
    ·
      refine lv_aload_n hx hb dX3_outcome_21 rfl (lv_at hl 0 rfl) ?_
      refine lv_iload_n hx hb dX3_outcome_22 rfl (lv_at hl 1 rfl) ?_
      refine lv_iload_n hx hb dX3_outcome_23 rfl (lv_at hl 2 rfl) ?_
      refine lv_iload_n hx hb dX3_outcome_24 rfl (lv_at hl 3 rfl) ?_
      refine lv_iload hx hb dX3_outcome_25 (lv_at hl 4 rfl) ?_
      refine lv_iload hx hb dX3_outcome_27 (lv_at hl 5 rfl) ?_
      refine lv_iconst (v := 1) hx hb dX3_outcome_29 (by decide) ?_
      refine lv_isub hx hb dX3_outcome_30 ?_
      refine lv_topi (fun v6 ev6 => ?_)
      have dv6 : dkN [(0, 3)] v6 := by rw [ev6]; exact dkN_subt d4 (dkN_lit (x := 1) (1) rfl) rfl
      refine dk_Vi (As := [.int p0, .int p1, .int p2, .int p3, .int v6]) (rest := []) ⟨hx, hb, hml, hown, hts⟩ (c_X3_outcome_1 l g z I0 p0 p1 p2 p3 v6 dp0 dp1 dv6 hO) (cwV 5 hts gX3_outcome_X3_outcome rfl rfl rfl (by decide +kernel) ⟨Nat.le_of_ble_eq_true rfl, Nat.le_of_ble_eq_true rfl⟩) (dk_at325 hW) rfl hK hT hW hS rfl hl.1 rfl (Nat.le_of_ble_eq_true rfl) dX3_outcome_31 ⟨Nat.zero_le _, Nat.zero_le _⟩ (fun v7 I7 H7 L7 hp7 hW hS => ?_)
      obtain ⟨hF7, hO, hc7⟩ := hp7
      have hF := dkF_call hF hF7 rfl
      obtain ⟨dv7, -⟩ := hc7
      refine lv_istore (lv' := [(6, .int v7), (0, .ref (z + 325)), (1, .int p0), (2, .int p1), (3, .int p2), (4, .int p3), (5, .int p4)]) hx hb dX3_outcome_34 hl (by decide) rfl (fun ls hl => ?_)
      refine lv_iload hx hb dX3_outcome_36 (lv_at hl 6 rfl) ?_
      refine lv_iconst (v := 2) hx hb dX3_outcome_38 (by decide) ?_
      refine lv_irem hx hb dX3_outcome_39 (dkN_ne0 (dkN_lit (x := 2) (2) rfl) rfl) ?_
      refine lv_topi (fun v8 ev8 => ?_)
      have dv8 : dkN [(0, 1)] v8 := by rw [ev8]; exact dkN_rem 2 (by decide) d4 (dkN_lit (x := 2) (2) rfl) rfl
      refine lv_if_ne (tgt := 73) hx hb dX3_outcome_40 (by decide) (fun c9 => ?_) (fun c9 => ?_)
      ·
        have d10 : dkN [(1, 1)] v8 := dkN_ne1 (0) dv8 (dkN_lit (x := 0) (0) rfl) (dk_ne c9) rfl
        refine lv_iload hx hb dX3_outcome_73 (lv_at hl 5 rfl) ?_
        refine lv_iconst (v := 1) hx hb dX3_outcome_75 (by decide) ?_
        refine lv_iadd hx hb dX3_outcome_76 ?_
        refine lv_topi (fun v11 ev11 => ?_)
        refine lv_bipush (v := 9) hx hb dX3_outcome_77 (by decide) ?_
        refine va_mmin hx hb (by rw [hml]; exact hl.1.symm) hown (hts (.methodLink RX3 95 Lib.Math.min.name) (List.mem_of_getElem? (i := 1) rfl)) (hts (.static Lib.Math.min.name) (List.mem_of_getElem? (i := 2) rfl)) (hts (.initialized "java/lang/Math") (List.mem_of_getElem? (i := 3) rfl)) (hts (.code Lib.Math.min.name Lib.Math.min.code 2 (some .int)) (List.mem_of_getElem? (i := 4) rfl)) (Nat.le_of_ble_eq_true rfl) (Nat.le_of_ble_eq_true rfl) (Nat.zero_le _) (Nat.zero_le _) dX3_outcome_79 ?_
        refine lv_topi (fun v12 ev12 => ?_)
        have dv12 : dkN [(-2147483648, 9)] v12 := by rw [ev12]; exact dkN_min (dkN_top v11) (dkN_lit (x := 9) (9) rfl) rfl
        refine lv_istore (lv' := [(7, .int v12), (6, .int v7), (0, .ref (z + 325)), (1, .int p0), (2, .int p1), (3, .int p2), (4, .int p3), (5, .int p4)]) hx hb dX3_outcome_82 hl (by decide) rfl (fun ls hl => ?_)
        refine lv_iload hx hb dX3_outcome_84 (lv_at hl 1 rfl) ?_
        refine lv_aload_n hx hb dX3_outcome_86 rfl (lv_at hl 2 rfl) ?_
        refine lv_iload_n hx hb dX3_outcome_87 rfl (lv_at hl 3 rfl) ?_
        refine lv_iload_n hx hb dX3_outcome_88 rfl (lv_at hl 4 rfl) ?_
        refine lv_iload_n hx hb dX3_outcome_89 rfl (lv_at hl 5 rfl) ?_
        refine lv_iload hx hb dX3_outcome_90 (lv_at hl 0 rfl) ?_
        refine lv_iload hx hb dX3_outcome_92 (lv_at hl 7 rfl) ?_
        refine lv_iconst (v := 1) hx hb dX3_outcome_94 (by decide) ?_
        refine lv_isub hx hb dX3_outcome_95 ?_
        refine lv_topi (fun v13 ev13 => ?_)
        have dv13 : dkN [(0, 3)] v13 := by rw [ev13]; exact dkN_subt d4 (dkN_lit (x := 1) (1) rfl) rfl
        refine dk_Vi (As := [.int p0, .int p1, .int p2, .int v12, .int v13]) (rest := [.int v7]) ⟨hx, hb, hml, hown, hts⟩ (c_X3_outcome_1 l g z I7 p0 p1 p2 v12 v13 dp0 dp1 dv13 hO) (cwV 5 hts gX3_outcome_X3_outcome rfl rfl rfl (by decide +kernel) ⟨Nat.le_of_ble_eq_true rfl, Nat.le_of_ble_eq_true rfl⟩) (dk_at325 hW) rfl hK hT hW hS rfl hl.1 rfl (Nat.le_of_ble_eq_true rfl) dX3_outcome_96 ⟨Nat.zero_le _, Nat.zero_le _⟩ (fun v14 I14 H14 L14 hp14 hW hS => ?_)
        obtain ⟨hF14, hO, hc14⟩ := hp14
        have hF := dkF_call hF hF14 rfl
        obtain ⟨dv14, -⟩ := hc14
        refine va_mmin hx hb (by rw [hml]; exact hl.1.symm) hown (hts (.methodLink RX3 95 Lib.Math.min.name) (List.mem_of_getElem? (i := 1) rfl)) (hts (.static Lib.Math.min.name) (List.mem_of_getElem? (i := 2) rfl)) (hts (.initialized "java/lang/Math") (List.mem_of_getElem? (i := 3) rfl)) (hts (.code Lib.Math.min.name Lib.Math.min.code 2 (some .int)) (List.mem_of_getElem? (i := 4) rfl)) (Nat.le_of_ble_eq_true rfl) (Nat.le_of_ble_eq_true rfl) (Nat.zero_le _) (Nat.zero_le _) dX3_outcome_99 ?_
        refine lv_topi (fun v15 ev15 => ?_)
        have dv15 : dkN [(-63, 63)] v15 := by rw [ev15]; exact dkN_min dv7 dv14 rfl
        exact W.iret (v := v15) hx hb hr (fun t ht hW9 => ⟨⟨v15, I14, rfl, ⟨hF, hO, ⟨dkN_sub dv15 rfl, trivial⟩⟩, dkW_eq ht hW⟩, hS.F ht⟩) hS.2.2 dX3_outcome_102
      ·
        have d16 : dkN [(0, 0)] v8 := dkN_eq1 dv8 (dkN_lit (x := 0) (0) rfl) (congrArg Int32.toInt c9) rfl
        refine lv_iload_n hx hb dX3_outcome_43 rfl (lv_at hl 4 rfl) ?_
        refine lv_iconst (v := 1) hx hb dX3_outcome_44 (by decide) ?_
        refine lv_iadd hx hb dX3_outcome_45 ?_
        refine lv_topi (fun v17 ev17 => ?_)
        refine lv_bipush (v := 9) hx hb dX3_outcome_46 (by decide) ?_
        refine va_mmin hx hb (by rw [hml]; exact hl.1.symm) hown (hts (.methodLink RX3 95 Lib.Math.min.name) (List.mem_of_getElem? (i := 1) rfl)) (hts (.static Lib.Math.min.name) (List.mem_of_getElem? (i := 2) rfl)) (hts (.initialized "java/lang/Math") (List.mem_of_getElem? (i := 3) rfl)) (hts (.code Lib.Math.min.name Lib.Math.min.code 2 (some .int)) (List.mem_of_getElem? (i := 4) rfl)) (Nat.le_of_ble_eq_true rfl) (Nat.le_of_ble_eq_true rfl) (Nat.zero_le _) (Nat.zero_le _) dX3_outcome_48 ?_
        refine lv_topi (fun v18 ev18 => ?_)
        have dv18 : dkN [(-2147483648, 9)] v18 := by rw [ev18]; exact dkN_min (dkN_top v17) (dkN_lit (x := 9) (9) rfl) rfl
        refine lv_istore (lv' := [(7, .int v18), (6, .int v7), (0, .ref (z + 325)), (1, .int p0), (2, .int p1), (3, .int p2), (4, .int p3), (5, .int p4)]) hx hb dX3_outcome_51 hl (by decide) rfl (fun ls hl => ?_)
        refine lv_iload hx hb dX3_outcome_53 (lv_at hl 1 rfl) ?_
        refine lv_aload_n hx hb dX3_outcome_55 rfl (lv_at hl 2 rfl) ?_
        refine lv_iload_n hx hb dX3_outcome_56 rfl (lv_at hl 3 rfl) ?_
        refine lv_iload_n hx hb dX3_outcome_57 rfl (lv_at hl 4 rfl) ?_
        refine lv_iload hx hb dX3_outcome_58 (lv_at hl 0 rfl) ?_
        refine lv_iload hx hb dX3_outcome_60 (lv_at hl 6 rfl) ?_
        refine lv_iload hx hb dX3_outcome_62 (lv_at hl 7 rfl) ?_
        refine lv_iconst (v := 1) hx hb dX3_outcome_64 (by decide) ?_
        refine lv_isub hx hb dX3_outcome_65 ?_
        refine lv_topi (fun v19 ev19 => ?_)
        have dv19 : dkN [(0, 3)] v19 := by rw [ev19]; exact dkN_subt d4 (dkN_lit (x := 1) (1) rfl) rfl
        refine dk_Vi (As := [.int p0, .int p1, .int v18, .int p3, .int v19]) (rest := [.int v7]) ⟨hx, hb, hml, hown, hts⟩ (c_X3_outcome_1 l g z I7 p0 p1 v18 p3 v19 dp0 dp1 dv19 hO) (cwV 5 hts gX3_outcome_X3_outcome rfl rfl rfl (by decide +kernel) ⟨Nat.le_of_ble_eq_true rfl, Nat.le_of_ble_eq_true rfl⟩) (dk_at325 hW) rfl hK hT hW hS rfl hl.1 rfl (Nat.le_of_ble_eq_true rfl) dX3_outcome_66 ⟨Nat.zero_le _, Nat.zero_le _⟩ (fun v20 I20 H20 L20 hp20 hW hS => ?_)
        obtain ⟨hF20, hO, hc20⟩ := hp20
        have hF := dkF_call hF hF20 rfl
        obtain ⟨dv20, -⟩ := hc20
        refine va_mmax hx hb (by rw [hml]; exact hl.1.symm) hown (hts (.methodLink RX3 101 Lib.Math.max.name) (List.mem_of_getElem? (i := 5) rfl)) (hts (.static Lib.Math.max.name) (List.mem_of_getElem? (i := 6) rfl)) (hts (.initialized "java/lang/Math") (List.mem_of_getElem? (i := 3) rfl)) (hts (.code Lib.Math.max.name Lib.Math.max.code 2 (some .int)) (List.mem_of_getElem? (i := 7) rfl)) (Nat.le_of_ble_eq_true rfl) (Nat.le_of_ble_eq_true rfl) (Nat.zero_le _) (Nat.zero_le _) dX3_outcome_69 ?_
        refine lv_topi (fun v21 ev21 => ?_)
        have dv21 : dkN [(-63, 63)] v21 := by rw [ev21]; exact dkN_max dv7 dv20 rfl
        exact W.iret (v := v21) hx hb hr (fun t ht hW9 => ⟨⟨v21, I20, rfl, ⟨hF, hO, ⟨dkN_sub dv21 rfl, trivial⟩⟩, dkW_eq ht hW⟩, hS.F ht⟩) hS.2.2 dX3_outcome_72
    ·
      exact (dkN_nil (show dkN [] p4 from dkN_le2 1 (dkN_lit (x := 4) (4) rfl) d4 (dkc_nle c5) rfl)).elim
set_option maxHeartbeats 4000000 in
set_option maxRecDepth 100000 in
theorem c_X5_shows_0 (l : Launch) (g : dkG) (z : Nat) (I0 : dkI) (p0 : Int32) (p1 : Int32) (p2 : Int32)  (hO : dkOk I0) : Met l yX5_shows wsX5_shows (dkR 11) (dkPc g z [.ref (z + 0), .int p0, .int p1, .int p2] I0) (dkQi g z (fun r I1 => dkF [(326, 326, 0, 4), (326, 326, 11, 11), (326, 326, 15, 17), (327, 327, 0, 4), (328, 328, 0, 4), (329, 329, 0, 4), (330, 330, 0, 4), (331, 331, 0, 4), (332, 332, 0, 4), (333, 333, 0, 5), (334, 334, 0, 5), (335, 335, 0, 5), (336, 336, 0, 8)] I0 I1 ∧ dkOk I1 ∧ ((dkN [(-1000001, -1000001)] r ∧ True) ∨ (dkN [(-63, 63)] r ∧ dkN [(0, 4)] p0 ∧ dkN [(0, 4)] p1 ∧ dkN [(0, 2)] p2 ∧ dkN [(1, 5)] (I1 25 4) ∧ True)))) 0 0 (dkA z) := by
  refine Met.ofW (cc := cX5_shows) (maxL := 4) (ret := (some .int)) (by decide) rfl ?_
  intro p e s m args below meth c s₁ B hml hv
  obtain ⟨ha, hW, hK, hT⟩ := hv
  have hx := B.exec
  have hb := B.bytes
  have hr := B.returns
  have hts := atoms_spec (ws := wsX5_shows) B.pre
  have hown : s.vm.findClass RX5 = some m.cls := findClass_of_methodNamed B.named
  have hlocks := B.notSynchronized
  have hS : va_S (dkA z) s.heap s.heap [] := va_S.rf
  have hF : dkF [(326, 326, 0, 4), (326, 326, 11, 11), (326, 326, 15, 17), (327, 327, 0, 4), (328, 328, 0, 4), (329, 329, 0, 4), (330, 330, 0, 4), (331, 331, 0, 4), (332, 332, 0, 4), (333, 333, 0, 5), (334, 334, 0, 5), (335, 335, 0, 5), (336, 336, 0, 8)] I0 I0 := dkF_rf _ _
  have hl := lv_entry ([.ref (z + 0), .int p0, .int p1, .int p2]) (n := 4) (Nat.le_of_ble_eq_true rfl)
  have hgo : entryFrame m args 4 = entryFrame m ([.ref (z + 0), .int p0, .int p1, .int p2] : List Value).toArray 4 := by rw [ha]
  rw [hgo, lg_entry_eq]
  generalize (lg_sl ([.ref (z + 0), .int p0, .int p1, .int p2]) ++ List.replicate (4 - (lg_sl ([.ref (z + 0), .int p0, .int p1, .int p2])).length) Slot.unset).toArray = ls at hl ⊢
  have hl : lv_has ls 4 [(0, .ref (z + 0)), (1, .int p0), (2, .int p1), (3, .int p2)] := hl
  refine lv_aload_n hx hb dX5_shows_0 rfl (lv_at hl 0 rfl) ?_
  refine lv_iload_n hx hb dX5_shows_1 rfl (lv_at hl 1 rfl) ?_
  refine dk_Vi (As := [.int p0]) (rest := []) ⟨hx, hb, hml, hown, hts⟩ (c_X5_isPerson_0 l g z I0 p0 hO) (cwV 1 hts gX5_shows_X5_isPerson rfl rfl rfl (by decide +kernel) ⟨Nat.le_of_ble_eq_true rfl, Nat.le_of_ble_eq_true rfl⟩) (dk_at0 hW) rfl hK hT hW hS rfl hl.1 rfl (Nat.le_of_ble_eq_true rfl) dX5_shows_2 ⟨Nat.zero_le _, Nat.zero_le _⟩ (fun v1 I1 H1 L1 hp1 hW hS => ?_)
  obtain ⟨hF1, hO, hc1⟩ := hp1
  have hF := dkF_call hF hF1 rfl
  rcases hc1 with ⟨dv1, -⟩ | hc1
  ·
    refine lv_if_eq (tgt := 29) hx hb dX5_shows_5 (by decide) (fun c2 => ?_) (fun c2 => ?_)
    ·
      refine lv_ldc (v := (-1000001)) hx hb hown (hts (.constant RX5 70 (-1000001)) (List.mem_of_getElem? (i := 1) rfl)) dX5_shows_29 ?_
      exact W.iret (v := (-1000001)) hx hb hr (fun t ht hW9 => ⟨⟨(-1000001), I1, rfl, ⟨hF, hO, Or.inl ⟨dkN_sub (dkN_lit (x := (-1000001)) (-1000001) rfl) rfl, trivial⟩⟩, dkW_eq ht hW⟩, hS.F ht⟩) hS.2.2 dX5_shows_31
    ·
      exact (dkN_nil (show dkN [] v1 from dkN_ne1 (0) dv1 (dkN_lit (x := 0) (0) rfl) (dk_ne c2) rfl)).elim
  ·
    obtain ⟨dv1, a1_0, f1_25_4, -⟩ := hc1
    have d3 : dkN [(0, 4)] p0 := dkN_eq1 (dkN_top p0) a1_0 rfl rfl
    refine lv_if_eq (tgt := 29) hx hb dX5_shows_5 (by decide) (fun c4 => ?_) (fun c4 => ?_)
    ·
      exact (dkN_nil (show dkN [] v1 from dkN_eq1 dv1 (dkN_lit (x := 0) (0) rfl) (congrArg Int32.toInt c4) rfl)).elim
    ·
      refine lv_aload_n hx hb dX5_shows_8 rfl (lv_at hl 0 rfl) ?_
      refine lv_iload_n hx hb dX5_shows_9 rfl (lv_at hl 2 rfl) ?_
      refine dk_Vi (As := [.int p1]) (rest := []) ⟨hx, hb, hml, hown, hts⟩ (c_X5_isPerson_0 l g z I1 p1 hO) (cwV 1 hts gX5_shows_X5_isPerson rfl rfl rfl (by decide +kernel) ⟨Nat.le_of_ble_eq_true rfl, Nat.le_of_ble_eq_true rfl⟩) (dk_at0 hW) rfl hK hT hW hS rfl hl.1 rfl (Nat.le_of_ble_eq_true rfl) dX5_shows_10 ⟨Nat.zero_le _, Nat.zero_le _⟩ (fun v5 I5 H5 L5 hp5 hW hS => ?_)
      obtain ⟨hF5, hO, hc5⟩ := hp5
      have hF := dkF_call hF hF5 rfl
      rcases hc5 with ⟨dv5, -⟩ | hc5
      ·
        refine lv_if_eq (tgt := 29) hx hb dX5_shows_13 (by decide) (fun c6 => ?_) (fun c6 => ?_)
        ·
          refine lv_ldc (v := (-1000001)) hx hb hown (hts (.constant RX5 70 (-1000001)) (List.mem_of_getElem? (i := 1) rfl)) dX5_shows_29 ?_
          exact W.iret (v := (-1000001)) hx hb hr (fun t ht hW9 => ⟨⟨(-1000001), I5, rfl, ⟨hF, hO, Or.inl ⟨dkN_sub (dkN_lit (x := (-1000001)) (-1000001) rfl) rfl, trivial⟩⟩, dkW_eq ht hW⟩, hS.F ht⟩) hS.2.2 dX5_shows_31
        ·
          exact (dkN_nil (show dkN [] v5 from dkN_ne1 (0) dv5 (dkN_lit (x := 0) (0) rfl) (dk_ne c6) rfl)).elim
      ·
        obtain ⟨dv5, a5_0, f5_25_4, -⟩ := hc5
        have d7 : dkN [(0, 4)] p1 := dkN_eq1 (dkN_top p1) a5_0 rfl rfl
        refine lv_if_eq (tgt := 29) hx hb dX5_shows_13 (by decide) (fun c8 => ?_) (fun c8 => ?_)
        ·
          exact (dkN_nil (show dkN [] v5 from dkN_eq1 dv5 (dkN_lit (x := 0) (0) rfl) (congrArg Int32.toInt c8) rfl)).elim
        ·
          refine lv_iload_n hx hb dX5_shows_16 rfl (lv_at hl 1 rfl) ?_
          refine lv_iload_n hx hb dX5_shows_17 rfl (lv_at hl 2 rfl) ?_
          refine lv_icmp_eq (tgt := 29) hx hb dX5_shows_18 (by decide) (fun c9 => ?_) (fun c9 => ?_)
          ·
            refine lv_ldc (v := (-1000001)) hx hb hown (hts (.constant RX5 70 (-1000001)) (List.mem_of_getElem? (i := 1) rfl)) dX5_shows_29 ?_
            exact W.iret (v := (-1000001)) hx hb hr (fun t ht hW9 => ⟨⟨(-1000001), I5, rfl, ⟨hF, hO, Or.inl ⟨dkN_sub (dkN_lit (x := (-1000001)) (-1000001) rfl) rfl, trivial⟩⟩, dkW_eq ht hW⟩, hS.F ht⟩) hS.2.2 dX5_shows_31
          ·
            refine lv_iload_n hx hb dX5_shows_21 rfl (lv_at hl 3 rfl) ?_
            refine lv_iconst (v := 2) hx hb dX5_shows_22 (by decide) ?_
            refine dk_Si (As := [.int p2, .int 2]) (rest := []) ⟨hx, hb, hml, hown, hts⟩ (c_X5_isUpTo_1 l g z I5 p2 2 (dkN_lit (x := 2) (2) rfl) hO) (va_cwS 2 hts gX5_shows_X5_isUpTo rfl rfl rfl (by decide +kernel) ⟨Nat.le_of_ble_eq_true rfl, Nat.le_of_ble_eq_true rfl⟩) hK hT hW hS rfl hl.1 rfl (Nat.le_of_ble_eq_true rfl) dX5_shows_23 ⟨Nat.zero_le _, Nat.zero_le _⟩ (fun v10 I10 H10 L10 hp10 hW hS => ?_)
            obtain ⟨hF10, hO, hc10⟩ := hp10
            have hF := dkF_call hF hF10 rfl
            rcases hc10 with ⟨dv10, a10_0, -⟩ | hc10
            ·
              have d11 : dkN [(-2147483648, -1), (3, 2147483647)] p2 := dkN_eq1 (dkN_top p2) a10_0 rfl rfl
              refine lv_if_ne (tgt := 32) hx hb dX5_shows_26 (by decide) (fun c12 => ?_) (fun c12 => ?_)
              ·
                exact (dkN_nil (show dkN [] v10 from dkN_ne1 (0) dv10 (dkN_lit (x := 0) (0) rfl) (dk_ne c12) rfl)).elim
              ·
                refine lv_ldc (v := (-1000001)) hx hb hown (hts (.constant RX5 70 (-1000001)) (List.mem_of_getElem? (i := 1) rfl)) dX5_shows_29 ?_
                exact W.iret (v := (-1000001)) hx hb hr (fun t ht hW9 => ⟨⟨(-1000001), I10, rfl, ⟨hF, hO, Or.inl ⟨dkN_sub (dkN_lit (x := (-1000001)) (-1000001) rfl) rfl, trivial⟩⟩, dkW_eq ht hW⟩, hS.F ht⟩) hS.2.2 dX5_shows_31
            ·
              obtain ⟨dv10, a10_0, -⟩ := hc10
              have d13 : dkN [(0, 2)] p2 := dkN_eq1 (dkN_top p2) a10_0 rfl rfl
              refine lv_if_ne (tgt := 32) hx hb dX5_shows_26 (by decide) (fun c14 => ?_) (fun c14 => ?_)
              ·
                refine lv_aload_n hx hb dX5_shows_32 rfl (lv_at hl 0 rfl) ?_
                refine dk_get (k := 0) hx hb hts iX5_shows_5 hown hK (dk_at0 hW) rfl 8 (by decide) (hts (.fieldLink RX5 51 "DogKings" "seer" "LDogKings$Seer;") (List.mem_of_getElem? (i := 2) rfl)) rfl dX5_shows_33 ?_
                refine lv_iload_n hx hb dX5_shows_36 rfl (lv_at hl 1 rfl) ?_
                refine lv_iload_n hx hb dX5_shows_37 rfl (lv_at hl 2 rfl) ?_
                refine lv_aload_n hx hb dX5_shows_38 rfl (lv_at hl 0 rfl) ?_
                refine dk_get (k := 0) hx hb hts iX5_shows_5 hown hK (dk_at0 hW) rfl 5 (by decide) (hts (.fieldLink RX5 31 "DogKings" "now" "LDogKings$Town;") (List.mem_of_getElem? (i := 3) rfl)) rfl dX5_shows_39 ?_
                refine dk_get (k := 25) hx hb hts iX5_shows_4 hown hK (dk_at25 hW) rfl 8 (by decide) (hts (.fieldLink RX5 143 "DogKings$Town" "bones" "[I") (List.mem_of_getElem? (i := 4) rfl)) rfl dX5_shows_42 ?_
                refine lv_iload_n hx hb dX5_shows_45 rfl (lv_at hl 1 rfl) ?_
                refine dk_ild (k := 29) hx hb hK (dk_at29 hW) (dkN_in (n := 5) d3 rfl) dX5_shows_46 ?_
                refine lv_topi (fun v15 ev15 => ?_)
                refine lv_aload_n hx hb dX5_shows_47 rfl (lv_at hl 0 rfl) ?_
                refine dk_get (k := 0) hx hb hts iX5_shows_5 hown hK (dk_at0 hW) rfl 5 (by decide) (hts (.fieldLink RX5 31 "DogKings" "now" "LDogKings$Town;") (List.mem_of_getElem? (i := 3) rfl)) rfl dX5_shows_48 ?_
                refine dk_get (k := 25) hx hb hts iX5_shows_4 hown hK (dk_at25 hW) rfl 8 (by decide) (hts (.fieldLink RX5 143 "DogKings$Town" "bones" "[I") (List.mem_of_getElem? (i := 4) rfl)) rfl dX5_shows_51 ?_
                refine lv_iload_n hx hb dX5_shows_54 rfl (lv_at hl 2 rfl) ?_
                refine dk_ild (k := 29) hx hb hK (dk_at29 hW) (dkN_in (n := 5) d7 rfl) dX5_shows_55 ?_
                refine lv_topi (fun v16 ev16 => ?_)
                refine lv_iconst (v := 2) hx hb dX5_shows_56 (by decide) ?_
                refine lv_iload_n hx hb dX5_shows_57 rfl (lv_at hl 3 rfl) ?_
                refine lv_imul hx hb dX5_shows_58 ?_
                refine lv_topi (fun v17 ev17 => ?_)
                have dv17 : dkN [(0, 4)] v17 := by rw [ev17]; exact dkN_mulL 2 (by decide) (dkN_lit (x := 2) (2) rfl) d13 rfl
                refine dk_ViN (As := [.int p0, .int p1, .int v15, .int v16, .int v17]) (rest := []) ⟨hx, hb, hml, hown, hts⟩ (c_X3_outcome_0 l g z I10 p0 p1 v15 v16 v17 d3 d7 dv17 hO) ⟨va_cnB 5 hts gX5_shows_X3_outcome_n216 rfl rfl rfl (hK.2.1 (RX5, 216, yX3_outcome) (by decide)) (hts (.initialized RX3) (List.mem_of_getElem? (i := 15) rfl)) (by decide +kernel) ⟨Nat.le_of_ble_eq_true rfl, Nat.le_of_ble_eq_true rfl⟩, (hts (.instanceMethod yX3_outcome) (List.mem_of_getElem? (i := 14) rfl)), (hts (.selects RX3 yX3_outcome yX3_outcome) (List.mem_of_getElem? (i := 16) rfl))⟩ (dk_at325 hW) rfl hK hT hW hS rfl hl.1 rfl (Nat.le_of_ble_eq_true rfl) dX5_shows_59 ⟨Nat.zero_le _, Nat.zero_le _⟩ (fun v18 I18 H18 L18 hp18 hW hS => ?_)
                obtain ⟨hF18, hO, hc18⟩ := hp18
                have hF := dkF_call hF hF18 rfl
                obtain ⟨dv18, -⟩ := hc18
                exact W.iret (v := v18) hx hb hr (fun t ht hW9 => ⟨⟨v18, I18, rfl, ⟨hF, hO, Or.inr (⟨dkN_sub dv18 rfl, dkN_sub d3 rfl, dkN_sub d7 rfl, dkN_sub d13 rfl, (show dkN [(1, 5)] (I18 25 4) from dkN_sub (by rw [hF18 25 4 rfl]; exact (by rw [hF10 25 4 rfl]; exact f5_25_4)) rfl), trivial⟩)⟩, dkW_eq ht hW⟩, hS.F ht⟩) hS.2.2 dX5_shows_62
              ·
                exact (dkN_nil (show dkN [] v10 from dkN_eq1 dv10 (dkN_lit (x := 0) (0) rfl) (congrArg Int32.toInt c14) rfl)).elim
set_option maxHeartbeats 4000000 in
set_option maxRecDepth 100000 in
theorem c_X6_showing_0 (l : Launch) (g : dkG) (z : Nat) (I0 : dkI) (p0 : Int32) (p1 : Int32) (p2 : Int32) (p3 : Int32) (dp0 : dkN [(0, 4)] p0) (dp1 : dkN [(0, 4)] p1) (dp2 : dkN [(0, 0)] p2) (dp3 : dkN [(0, 0)] p3)  (hO : dkOk I0) : Met l yX6_showing wsX6_showing (dkR 6) (dkPc g z [.ref (z + 340), .int p0, .int p1, .int p2, .int p3] I0) (dkQi g z (fun r I1 => dkF [(340, 340, 20, 22), (348, 348, 0, 53)] I0 I1 ∧ dkOk I1 ∧ ((True ∧ dkN [(0, 0)] (I1 340 20) ∧ dkN [(0, 0)] (I1 340 21) ∧ dkN [(0, 0)] (I1 340 22) ∧ dkN [(0, 2147483647)] (I1 348 3) ∧ True)))) 0 0 (dkA z) := by
  refine Met.ofW (cc := cX6_showing) (maxL := 7) (ret := (some .int)) (by decide) rfl ?_
  intro p e s m args below meth c s₁ B hml hv
  obtain ⟨ha, hW, hK, hT⟩ := hv
  have hx := B.exec
  have hb := B.bytes
  have hr := B.returns
  have hts := atoms_spec (ws := wsX6_showing) B.pre
  have hown : s.vm.findClass RX6 = some m.cls := findClass_of_methodNamed B.named
  have hlocks := B.notSynchronized
  have hS : va_S (dkA z) s.heap s.heap [] := va_S.rf
  have hF : dkF [(340, 340, 20, 22), (348, 348, 0, 53)] I0 I0 := dkF_rf _ _
  have hl := lv_entry ([.ref (z + 340), .int p0, .int p1, .int p2, .int p3]) (n := 7) (Nat.le_of_ble_eq_true rfl)
  have hgo : entryFrame m args 7 = entryFrame m ([.ref (z + 340), .int p0, .int p1, .int p2, .int p3] : List Value).toArray 7 := by rw [ha]
  rw [hgo, lg_entry_eq]
  generalize (lg_sl ([.ref (z + 340), .int p0, .int p1, .int p2, .int p3]) ++ List.replicate (7 - (lg_sl ([.ref (z + 340), .int p0, .int p1, .int p2, .int p3])).length) Slot.unset).toArray = ls at hl ⊢
  have hl : lv_has ls 7 [(0, .ref (z + 340)), (1, .int p0), (2, .int p1), (3, .int p2), (4, .int p3)] := hl
  have C7 : ∀ (I : dkI) (H : Heap) (locs : List Loc) (ls : Array Slot) (x7_5 : Int32), dkW g z I H → va_S (dkA z) s.heap H locs → dkF [(340, 340, 20, 22), (348, 348, 0, 53)] I0 I → dkOk I → dkN [(0, 0)] x7_5 → dkN [(0, 0)] (I 340 20) → dkN [(0, 0)] (I 340 21) → dkN [(0, 0)] (I 340 22) → lv_has ls 7 [(0, .ref (z + 340)), (1, .int p0), (2, .int p1), (3, .int p2), (4, .int p3), (5, .int x7_5)] → W p l e (headSpec wsX6_showing (dkR 6)).room s m args below meth c H locs 0 0 (MQ below (dkQi g z (fun r I1 => dkF [(340, 340, 20, 22), (348, 348, 0, 53)] I0 I1 ∧ dkOk I1 ∧ ((True ∧ dkN [(0, 0)] (I1 340 20) ∧ dkN [(0, 0)] (I1 340 21) ∧ dkN [(0, 0)] (I1 340 22) ∧ dkN [(0, 2147483647)] (I1 348 3) ∧ True)))) args s 0 0 (dkA z)) (F0 m 7 ls []) := by
    intro I7_ H locs ls x7_5 hW hS hF_7 hO k7_0 f7_0 f7_1 f7_2 hl
    have hF := hF_7
    refine lv_iload hx hb dX6_showing_7 (lv_at hl 5 rfl) ?_
    refine lv_iconst (v := 2) hx hb dX6_showing_9 (by decide) ?_
    refine lv_iload_n hx hb dX6_showing_10 rfl (lv_at hl 3 rfl) ?_
    refine lv_imul hx hb dX6_showing_11 ?_
    refine lv_topi (fun v1 ev1 => ?_)
    have dv1 : dkN [(0, 0)] v1 := by rw [ev1]; exact dkN_mulR 0 (by decide) (dkN_lit (x := 2) (2) rfl) dp2 rfl
    refine lv_icmp_ge (tgt := 80) hx hb dX6_showing_12 (by decide) (fun c2 => ?_) (fun c2 => ?_)
    ·
      refine lv_aload_n hx hb dX6_showing_80 rfl (lv_at hl 0 rfl) ?_
      refine dk_Vv (As := []) (rest := []) ⟨hx, hb, hml, hown, hts⟩ (c_X6_toBell_0 l g z I7_ hO) (cwV 0 hts gX6_showing_X6_toBell rfl rfl rfl (by decide +kernel) ⟨Nat.le_of_ble_eq_true rfl, Nat.le_of_ble_eq_true rfl⟩) (dk_at340 hW) rfl hK hT hW hS rfl hl.1 rfl (Nat.le_of_ble_eq_true rfl) dX6_showing_81 ⟨Nat.zero_le _, Nat.zero_le _⟩ (fun I3 H3 L3 hp3 hW hS => ?_)
      obtain ⟨hF3, hO, hc3⟩ := hp3
      have hF := dkF_call hF hF3 rfl
      obtain ⟨f3_348_3, -⟩ := hc3
      refine lv_aload_n hx hb dX6_showing_84 rfl (lv_at hl 0 rfl) ?_
      refine dk_get (k := 340) hx hb hts iX6_showing_6 hown hK (dk_at340 hW) rfl 15 (by decide) (hts (.fieldLink RX6 31 "DogKingsModel" "tried" "[I") (List.mem_of_getElem? (i := 1) rfl)) rfl dX6_showing_85 ?_
      refine lv_aload_n hx hb dX6_showing_88 rfl (lv_at hl 0 rfl) ?_
      refine dk_get (k := 340) hx hb hts iX6_showing_6 hown hK (dk_at340 hW) rfl 15 (by decide) (hts (.fieldLink RX6 31 "DogKingsModel" "tried" "[I") (List.mem_of_getElem? (i := 1) rfl)) rfl dX6_showing_89 ?_
      refine lv_bipush (v := 6) hx hb dX6_showing_92 (by decide) ?_
      refine lv_bipush (v := 6) hx hb dX6_showing_94 (by decide) ?_
      refine lv_iload_n hx hb dX6_showing_96 rfl (lv_at hl 1 rfl) ?_
      refine lv_imul hx hb dX6_showing_97 ?_
      refine lv_topi (fun v4 ev4 => ?_)
      have dv4 : dkN [(0, 24)] v4 := by rw [ev4]; exact dkN_mulL 6 (by decide) (dkN_lit (x := 6) (6) rfl) dp0 rfl
      refine lv_iadd hx hb dX6_showing_98 ?_
      refine lv_topi (fun v5 ev5 => ?_)
      have dv5 : dkN [(6, 30)] v5 := by rw [ev5]; exact dkN_add (dkN_lit (x := 6) (6) rfl) dv4 rfl
      refine lv_iconst (v := 4) hx hb dX6_showing_99 (by decide) ?_
      refine lv_iadd hx hb dX6_showing_100 ?_
      refine lv_topi (fun v6 ev6 => ?_)
      have dv6 : dkN [(10, 34)] v6 := by rw [ev6]; exact dkN_add dv5 (dkN_lit (x := 4) (4) rfl) rfl
      refine dk_ild (k := 348) hx hb hK (dk_at348 hW) (dkN_in (n := 54) dv6 rfl) dX6_showing_101 ?_
      refine lv_topi (fun v7 ev7 => ?_)
      refine lv_ldc (v := (-1000000)) hx hb hown (hts (.constant RX6 50 (-1000000)) (List.mem_of_getElem? (i := 2) rfl)) dX6_showing_102 ?_
      refine lv_iconst (v := 0) hx hb dX6_showing_104 (by decide) ?_
      refine dk_Si (As := [.ref (z + 348), .int v7, .int ((-1000000)), .int 0]) (rest := []) ⟨hx, hb, hml, hown, hts⟩ (c_X6_othersIn_1 l g z I3 v7 ((-1000000)) 0 (dkN_sub (dkN_lit (x := (-1000000)) (-1000000) rfl) rfl) hO) (va_cwS 4 hts gX6_showing_X6_othersIn rfl rfl rfl (by decide +kernel) ⟨Nat.le_of_ble_eq_true rfl, Nat.le_of_ble_eq_true rfl⟩) hK hT hW hS rfl hl.1 rfl (Nat.le_of_ble_eq_true rfl) dX6_showing_105 ⟨Nat.zero_le _, Nat.zero_le _⟩ (fun v8 I8 H8 L8 hp8 hW hS => ?_)
      obtain ⟨hF8, hO, hc8⟩ := hp8
      have hF := dkF_call hF hF8 rfl
      obtain ⟨_, -⟩ := hc8
      refine lv_aload_n hx hb dX6_showing_108 rfl (lv_at hl 0 rfl) ?_
      refine dk_get (k := 340) hx hb hts iX6_showing_6 hown hK (dk_at340 hW) rfl 15 (by decide) (hts (.fieldLink RX6 31 "DogKingsModel" "tried" "[I") (List.mem_of_getElem? (i := 1) rfl)) rfl dX6_showing_109 ?_
      refine lv_aload_n hx hb dX6_showing_112 rfl (lv_at hl 0 rfl) ?_
      refine dk_get (k := 340) hx hb hts iX6_showing_6 hown hK (dk_at340 hW) rfl 15 (by decide) (hts (.fieldLink RX6 31 "DogKingsModel" "tried" "[I") (List.mem_of_getElem? (i := 1) rfl)) rfl dX6_showing_113 ?_
      refine lv_bipush (v := 6) hx hb dX6_showing_116 (by decide) ?_
      refine lv_bipush (v := 6) hx hb dX6_showing_118 (by decide) ?_
      refine lv_iload_n hx hb dX6_showing_120 rfl (lv_at hl 2 rfl) ?_
      refine lv_imul hx hb dX6_showing_121 ?_
      refine lv_topi (fun v9 ev9 => ?_)
      have dv9 : dkN [(0, 24)] v9 := by rw [ev9]; exact dkN_mulL 6 (by decide) (dkN_lit (x := 6) (6) rfl) dp1 rfl
      refine lv_iadd hx hb dX6_showing_122 ?_
      refine lv_topi (fun v10 ev10 => ?_)
      have dv10 : dkN [(6, 30)] v10 := by rw [ev10]; exact dkN_add (dkN_lit (x := 6) (6) rfl) dv9 rfl
      refine lv_iconst (v := 4) hx hb dX6_showing_123 (by decide) ?_
      refine lv_iadd hx hb dX6_showing_124 ?_
      refine lv_topi (fun v11 ev11 => ?_)
      have dv11 : dkN [(10, 34)] v11 := by rw [ev11]; exact dkN_add dv10 (dkN_lit (x := 4) (4) rfl) rfl
      refine dk_ild (k := 348) hx hb hK (dk_at348 hW) (dkN_in (n := 54) dv11 rfl) dX6_showing_125 ?_
      refine lv_topi (fun v12 ev12 => ?_)
      refine lv_ldc (v := (-1000000)) hx hb hown (hts (.constant RX6 50 (-1000000)) (List.mem_of_getElem? (i := 2) rfl)) dX6_showing_126 ?_
      refine lv_iconst (v := 0) hx hb dX6_showing_128 (by decide) ?_
      refine dk_Si (As := [.ref (z + 348), .int v12, .int ((-1000000)), .int 0]) (rest := [.int v8]) ⟨hx, hb, hml, hown, hts⟩ (c_X6_othersIn_1 l g z I8 v12 ((-1000000)) 0 (dkN_sub (dkN_lit (x := (-1000000)) (-1000000) rfl) rfl) hO) (va_cwS 4 hts gX6_showing_X6_othersIn rfl rfl rfl (by decide +kernel) ⟨Nat.le_of_ble_eq_true rfl, Nat.le_of_ble_eq_true rfl⟩) hK hT hW hS rfl hl.1 rfl (Nat.le_of_ble_eq_true rfl) dX6_showing_129 ⟨Nat.zero_le _, Nat.zero_le _⟩ (fun v13 I13 H13 L13 hp13 hW hS => ?_)
      obtain ⟨hF13, hO, hc13⟩ := hp13
      have hF := dkF_call hF hF13 rfl
      obtain ⟨_, -⟩ := hc13
      refine lv_isub hx hb dX6_showing_132 ?_
      refine lv_topi (fun v14 ev14 => ?_)
      exact W.iret (v := v14) hx hb hr (fun t ht hW9 => ⟨⟨v14, I13, rfl, ⟨hF, hO, ⟨trivial, (show dkN [(0, 0)] (I13 340 20) from dkN_sub (by rw [hF13 340 20 rfl]; exact (by rw [hF8 340 20 rfl]; exact (by rw [hF3 340 20 rfl]; exact f7_0))) rfl), (show dkN [(0, 0)] (I13 340 21) from dkN_sub (by rw [hF13 340 21 rfl]; exact (by rw [hF8 340 21 rfl]; exact (by rw [hF3 340 21 rfl]; exact f7_1))) rfl), (show dkN [(0, 0)] (I13 340 22) from dkN_sub (by rw [hF13 340 22 rfl]; exact (by rw [hF8 340 22 rfl]; exact (by rw [hF3 340 22 rfl]; exact f7_2))) rfl), (show dkN [(0, 2147483647)] (I13 348 3) from dkN_sub (by rw [hF13 348 3 rfl]; exact (by rw [hF8 348 3 rfl]; exact f3_348_3)) rfl), trivial⟩⟩, dkW_eq ht hW⟩, hS.F ht⟩) hS.2.2 dX6_showing_133
    ·
      exact (dkN_nil (show dkN [] v1 from dkN_le2 1 k7_0 dv1 (dkc_nle c2) rfl)).elim
  refine lv_aload_n hx hb dX6_showing_0 rfl (lv_at hl 0 rfl) ?_
  refine dk_Vv (As := []) (rest := []) ⟨hx, hb, hml, hown, hts⟩ (c_X6_tries_0 l g z I0 hO) (cwV 0 hts gX6_showing_X6_tries rfl rfl rfl (by decide +kernel) ⟨Nat.le_of_ble_eq_true rfl, Nat.le_of_ble_eq_true rfl⟩) (dk_at340 hW) rfl hK hT hW hS rfl hl.1 rfl (Nat.le_of_ble_eq_true rfl) dX6_showing_1 ⟨Nat.zero_le _, Nat.zero_le _⟩ (fun I15 H15 L15 hp15 hW hS => ?_)
  obtain ⟨hF15, hO, hc15⟩ := hp15
  have hF := dkF_call hF hF15 rfl
  obtain ⟨f15_340_20, f15_340_21, f15_340_22, -⟩ := hc15
  refine lv_iconst (v := 0) hx hb dX6_showing_4 (by decide) ?_
  refine lv_istore (lv' := [(5, .int 0), (0, .ref (z + 340)), (1, .int p0), (2, .int p1), (3, .int p2), (4, .int p3)]) hx hb dX6_showing_5 hl (by decide) rfl (fun ls hl => ?_)
  exact C7 I15 _ _ ls 0 hW hS hF hO (dkN_sub (dkN_lit (x := 0) (0) rfl) rfl) (show dkN [(0, 0)] (I15 340 20) from dkN_sub f15_340_20 rfl) (show dkN [(0, 0)] (I15 340 21) from dkN_sub f15_340_21 rfl) (show dkN [(0, 0)] (I15 340 22) from dkN_sub f15_340_22 rfl) (lv_sub hl [1, 2, 3, 4, 5, 0] rfl)
set_option maxHeartbeats 4000000 in
set_option maxRecDepth 100000 in
theorem c_X6_showing_1 (l : Launch) (g : dkG) (z : Nat) (I0 : dkI) (p0 : Int32) (p1 : Int32) (p2 : Int32) (p3 : Int32) (dp0 : dkN [(0, 4)] p0) (dp1 : dkN [(0, 4)] p1) (dp2 : dkN [(1, 2)] p2)  (hO : dkOk I0) : Met l yX6_showing wsX6_showing (dkR 6) (dkPc g z [.ref (z + 340), .int p0, .int p1, .int p2, .int p3] I0) (dkQi g z (fun r I1 => dkF [(340, 340, 20, 22), (348, 348, 0, 53)] I0 I1 ∧ dkOk I1 ∧ ((True ∧ dkN [(0, 0)] (I1 340 20) ∧ dkN [(0, 0)] (I1 340 21) ∧ dkN [(0, 0)] (I1 340 22) ∧ dkN [(0, 2147483647)] (I1 348 3) ∧ True)))) 0 0 (dkA z) := by
  refine Met.ofW (cc := cX6_showing) (maxL := 7) (ret := (some .int)) (by decide) rfl ?_
  intro p e s m args below meth c s₁ B hml hv
  obtain ⟨ha, hW, hK, hT⟩ := hv
  have hx := B.exec
  have hb := B.bytes
  have hr := B.returns
  have hts := atoms_spec (ws := wsX6_showing) B.pre
  have hown : s.vm.findClass RX6 = some m.cls := findClass_of_methodNamed B.named
  have hlocks := B.notSynchronized
  have hS : va_S (dkA z) s.heap s.heap [] := va_S.rf
  have hF : dkF [(340, 340, 20, 22), (348, 348, 0, 53)] I0 I0 := dkF_rf _ _
  have hl := lv_entry ([.ref (z + 340), .int p0, .int p1, .int p2, .int p3]) (n := 7) (Nat.le_of_ble_eq_true rfl)
  have hgo : entryFrame m args 7 = entryFrame m ([.ref (z + 340), .int p0, .int p1, .int p2, .int p3] : List Value).toArray 7 := by rw [ha]
  rw [hgo, lg_entry_eq]
  generalize (lg_sl ([.ref (z + 340), .int p0, .int p1, .int p2, .int p3]) ++ List.replicate (7 - (lg_sl ([.ref (z + 340), .int p0, .int p1, .int p2, .int p3])).length) Slot.unset).toArray = ls at hl ⊢
  have hl : lv_has ls 7 [(0, .ref (z + 340)), (1, .int p0), (2, .int p1), (3, .int p2), (4, .int p3)] := hl
  have C7 : ∀ (n : Nat), ∀ (I : dkI) (H : Heap) (locs : List Loc) (ls : Array Slot) (x7_5 : Int32), (4 - x7_5.toInt).toNat < n → dkW g z I H → va_S (dkA z) s.heap H locs → dkF [(340, 340, 20, 22), (348, 348, 0, 53)] I0 I → dkOk I → dkN [(0, 4)] x7_5 → dkN [(0, 0)] (I 340 20) → dkN [(0, 0)] (I 340 21) → dkN [(0, 0)] (I 340 22) → lv_has ls 7 [(0, .ref (z + 340)), (1, .int p0), (2, .int p1), (3, .int p2), (4, .int p3), (5, .int x7_5)] → W p l e (headSpec wsX6_showing (dkR 6)).room s m args below meth c H locs 0 0 (MQ below (dkQi g z (fun r I1 => dkF [(340, 340, 20, 22), (348, 348, 0, 53)] I0 I1 ∧ dkOk I1 ∧ ((True ∧ dkN [(0, 0)] (I1 340 20) ∧ dkN [(0, 0)] (I1 340 21) ∧ dkN [(0, 0)] (I1 340 22) ∧ dkN [(0, 2147483647)] (I1 348 3) ∧ True)))) args s 0 0 (dkA z)) (F0 m 7 ls []) := by
    intro n
    induction n with
    | zero => intro I H locs ls x7_5 hn; exact absurd hn (Nat.not_lt_zero _)
    | succ n ih7 =>
      intro I7_ H locs ls x7_5 hn7 hW hS hF_7 hO k7_0 f7_0 f7_1 f7_2 hl
      have hF := hF_7
      have C72 : ∀ (I : dkI) (H : Heap) (locs : List Loc) (ls : Array Slot) (x72_6 : Int32) (x72_s0 : Int32) (x72_s1 : Int32) (x72_s2 : Int32), dkW g z I H → va_S (dkA z) s.heap H locs → dkF [(340, 340, 20, 22), (348, 348, 0, 53)] I0 I → dkOk I → dkN [(9, 33)] x72_6 → dkN [(0, 1)] x72_s0 → dkN [(9, 33)] x72_s2 → dkN [(0, 3)] x7_5 → dkN [(0, 0)] (I 340 20) → dkN [(0, 0)] (I 340 21) → dkN [(0, 0)] (I 340 22) → lv_has ls 7 [(0, .ref (z + 340)), (1, .int p0), (2, .int p1), (3, .int p2), (4, .int p3), (5, .int x7_5), (6, .int x72_6)] → W p l e (headSpec wsX6_showing (dkR 6)).room s m args below meth c H locs 0 0 (MQ below (dkQi g z (fun r I1 => dkF [(340, 340, 20, 22), (348, 348, 0, 53)] I0 I1 ∧ dkOk I1 ∧ ((True ∧ dkN [(0, 0)] (I1 340 20) ∧ dkN [(0, 0)] (I1 340 21) ∧ dkN [(0, 0)] (I1 340 22) ∧ dkN [(0, 2147483647)] (I1 348 3) ∧ True)))) args s 0 0 (dkA z)) (F0 m 72 ls [.int x72_s0, .int x72_s1, .int x72_s2, .ref (z + 348)]) := by
        intro I72_ H locs ls x72_6 x72_s0 x72_s1 x72_s2 hW hS hF_72 hO k72_0 k72_1 k72_3 r72_0 f72_0 f72_1 f72_2 hl
        have hF := hF_72
        refine lv_iadd hx hb dX6_showing_72 ?_
        refine lv_topi (fun v1 ev1 => ?_)
        refine dk_ist (k := 348) hx hb hK hW (fun _ => rfl) (by decide) hS (dkN_in (n := 54) k72_3 rfl) dX6_showing_73 (fun I2 H2 L2 eI2 hW hS => ?_)
        have hO := dkO_set hO eI2 (by rw [dkB_w (k := 348) (B := [(-2147483648, 2147483647)]) (by decide) k72_3 rfl]; exact dkN_top _)
        have hF := dkF_set hF eI2 (dkIn_v k72_3 rfl)
        obtain ⟨v3, ev3⟩ : ∃ y : Int32, y = x7_5 + 1 := ⟨_, rfl⟩
        have dv3 : dkN [(1, 4)] v3 := by rw [ev3]; exact dkN_add r72_0 (dkN_lit (x := 1) (1) rfl) rfl
        refine lv_iinc (v := v3) (lv' := [(5, .int v3), (0, .ref (z + 340)), (1, .int p0), (2, .int p1), (3, .int p2), (4, .int p3), (6, .int x72_6)]) hx hb dX6_showing_74 hl (k := 5) rfl (by rw [ev3]; rfl) (by decide) rfl (fun ls hl => ?_)
        refine lv_goto (tgt := 7) hx hb dX6_showing_77 (by decide) ?_
        exact ih7 I2 _ _ ls v3 (dk_near hn7 (by rw [ev3]; exact dk_inc r72_0 rfl) (dkN_lt r72_0 rfl)) hW hS hF hO (dkN_sub dv3 rfl) (show dkN [(0, 0)] (I2 340 20) from dkN_sub (by rw [eI2, dkU_n (by decide)]; exact f72_0) rfl) (show dkN [(0, 0)] (I2 340 21) from dkN_sub (by rw [eI2, dkU_n (by decide)]; exact f72_1) rfl) (show dkN [(0, 0)] (I2 340 22) from dkN_sub (by rw [eI2, dkU_n (by decide)]; exact f72_2) rfl) (lv_sub hl [1, 2, 3, 4, 5, 0] rfl)
      have C71 : ∀ (I : dkI) (H : Heap) (locs : List Loc) (ls : Array Slot) (x71_6 : Int32) (x71_s0 : Int32) (x71_s1 : Int32), dkW g z I H → va_S (dkA z) s.heap H locs → dkF [(340, 340, 20, 22), (348, 348, 0, 53)] I0 I → dkOk I → dkN [(9, 33)] x71_6 → dkN [(9, 33)] x71_s1 → dkN [(0, 3)] x7_5 → dkN [(0, 0)] (I 340 20) → dkN [(0, 0)] (I 340 21) → dkN [(0, 0)] (I 340 22) → lv_has ls 7 [(0, .ref (z + 340)), (1, .int p0), (2, .int p1), (3, .int p2), (4, .int p3), (5, .int x7_5), (6, .int x71_6)] → W p l e (headSpec wsX6_showing (dkR 6)).room s m args below meth c H locs 0 0 (MQ below (dkQi g z (fun r I1 => dkF [(340, 340, 20, 22), (348, 348, 0, 53)] I0 I1 ∧ dkOk I1 ∧ ((True ∧ dkN [(0, 0)] (I1 340 20) ∧ dkN [(0, 0)] (I1 340 21) ∧ dkN [(0, 0)] (I1 340 22) ∧ dkN [(0, 2147483647)] (I1 348 3) ∧ True)))) args s 0 0 (dkA z)) (F0 m 71 ls [.int x71_s0, .int x71_s1, .ref (z + 348)]) := by
        intro I71_ H locs ls x71_6 x71_s0 x71_s1 hW hS hF_71 hO k71_0 k71_2 r71_0 f71_0 f71_1 f71_2 hl
        have hF := hF_71
        refine lv_iconst (v := 0) hx hb dX6_showing_71 (by decide) ?_
        exact C72 I71_ _ _ ls x71_6 0 x71_s0 x71_s1 hW hS hF hO (dkN_sub k71_0 rfl) (dkN_sub (dkN_lit (x := 0) (0) rfl) rfl) (dkN_sub k71_2 rfl) (dkN_sub r71_0 rfl) (show dkN [(0, 0)] (I71_ 340 20) from dkN_sub f71_0 rfl) (show dkN [(0, 0)] (I71_ 340 21) from dkN_sub f71_1 rfl) (show dkN [(0, 0)] (I71_ 340 22) from dkN_sub f71_2 rfl) (lv_sub hl [0, 1, 2, 3, 4, 5, 6] rfl)
      have C31 : ∀ (I : dkI) (H : Heap) (locs : List Loc) (ls : Array Slot) (x31_s0 : Int32) (x31_s1 : Int32) (x31_s2 : Int32), dkW g z I H → va_S (dkA z) s.heap H locs → dkF [(340, 340, 20, 22), (348, 348, 0, 53)] I0 I → dkOk I → dkN [(0, 4)] x31_s0 → dkN [(6, 6)] x31_s1 → dkN [(6, 6)] x31_s2 → dkN [(0, 3)] x7_5 → dkN [(0, 0)] (I 340 20) → dkN [(0, 0)] (I 340 21) → dkN [(0, 0)] (I 340 22) → lv_has ls 7 [(0, .ref (z + 340)), (1, .int p0), (2, .int p1), (3, .int p2), (4, .int p3), (5, .int x7_5)] → W p l e (headSpec wsX6_showing (dkR 6)).room s m args below meth c H locs 0 0 (MQ below (dkQi g z (fun r I1 => dkF [(340, 340, 20, 22), (348, 348, 0, 53)] I0 I1 ∧ dkOk I1 ∧ ((True ∧ dkN [(0, 0)] (I1 340 20) ∧ dkN [(0, 0)] (I1 340 21) ∧ dkN [(0, 0)] (I1 340 22) ∧ dkN [(0, 2147483647)] (I1 348 3) ∧ True)))) args s 0 0 (dkA z)) (F0 m 31 ls [.int x31_s0, .int x31_s1, .int x31_s2]) := by
        intro I31_ H locs ls x31_s0 x31_s1 x31_s2 hW hS hF_31 hO k31_0 k31_1 k31_2 r31_0 f31_0 f31_1 f31_2 hl
        have hF := hF_31
        refine lv_imul hx hb dX6_showing_31 ?_
        refine lv_topi (fun v4 ev4 => ?_)
        have dv4 : dkN [(0, 24)] v4 := by rw [ev4]; exact dkN_mulL 6 (by decide) k31_1 k31_0 rfl
        refine lv_iadd hx hb dX6_showing_32 ?_
        refine lv_topi (fun v5 ev5 => ?_)
        have dv5 : dkN [(6, 30)] v5 := by rw [ev5]; exact dkN_add k31_2 dv4 rfl
        refine lv_iconst (v := 3) hx hb dX6_showing_33 (by decide) ?_
        refine lv_iadd hx hb dX6_showing_34 ?_
        refine lv_topi (fun v6 ev6 => ?_)
        have dv6 : dkN [(9, 33)] v6 := by rw [ev6]; exact dkN_add dv5 (dkN_lit (x := 3) (3) rfl) rfl
        refine lv_istore (lv' := [(6, .int v6), (0, .ref (z + 340)), (1, .int p0), (2, .int p1), (3, .int p2), (4, .int p3), (5, .int x7_5)]) hx hb dX6_showing_35 hl (by decide) rfl (fun ls hl => ?_)
        refine lv_aload_n hx hb dX6_showing_37 rfl (lv_at hl 1 rfl) ?_
        refine dk_get (k := 340) hx hb hts iX6_showing_6 hown hK (dk_at340 hW) rfl 15 (by decide) (hts (.fieldLink RX6 31 "DogKingsModel" "tried" "[I") (List.mem_of_getElem? (i := 1) rfl)) rfl dX6_showing_38 ?_
        refine lv_iload hx hb dX6_showing_41 (lv_at hl 0 rfl) ?_
        refine lv_dup2_11 hx hb dX6_showing_43 rfl rfl ?_
        refine dk_ild (k := 348) hx hb hK (dk_at348 hW) (dkN_in (n := 54) dv6 rfl) dX6_showing_44 ?_
        refine lv_topi (fun v7 ev7 => ?_)
        refine lv_iload hx hb dX6_showing_45 (lv_at hl 5 rfl) ?_
        refine lv_iload hx hb dX6_showing_47 (lv_at hl 6 rfl) ?_
        refine dk_Si (As := [.int p3, .int x7_5]) (rest := [.int v7, .int v6, .ref (z + 348)]) ⟨hx, hb, hml, hown, hts⟩ (c_X6_has_0 l g z I31_ p3 x7_5 hO) (va_cwS 2 hts gX6_showing_X6_has rfl rfl rfl (by decide +kernel) ⟨Nat.le_of_ble_eq_true rfl, Nat.le_of_ble_eq_true rfl⟩) hK hT hW hS rfl hl.1 rfl (Nat.le_of_ble_eq_true rfl) dX6_showing_49 ⟨Nat.zero_le _, Nat.zero_le _⟩ (fun v8 I8 H8 L8 hp8 hW hS => ?_)
        obtain ⟨hF8, hO, hc8⟩ := hp8
        have hF := dkF_call hF hF8 rfl
        obtain ⟨dv8, -⟩ := hc8
        refine lv_if_eq (tgt := 71) hx hb dX6_showing_52 (by decide) (fun c9 => ?_) (fun c9 => ?_)
        ·
          have d10 : dkN [(0, 0)] v8 := dkN_eq1 dv8 (dkN_lit (x := 0) (0) rfl) (congrArg Int32.toInt c9) rfl
          exact C71 I8 _ _ ls v6 v7 v6 hW hS hF hO (dkN_sub dv6 rfl) (dkN_sub dv6 rfl) (dkN_sub r31_0 rfl) (show dkN [(0, 0)] (I8 340 20) from dkN_sub (by rw [hF8 340 20 rfl]; exact f31_0) rfl) (show dkN [(0, 0)] (I8 340 21) from dkN_sub (by rw [hF8 340 21 rfl]; exact f31_1) rfl) (show dkN [(0, 0)] (I8 340 22) from dkN_sub (by rw [hF8 340 22 rfl]; exact f31_2) rfl) (lv_sub hl [1, 2, 3, 4, 5, 6, 0] rfl)
        ·
          have d11 : dkN [(1, 1)] v8 := dkN_ne1 (0) dv8 (dkN_lit (x := 0) (0) rfl) (dk_ne c9) rfl
          refine lv_aload_n hx hb dX6_showing_55 rfl (lv_at hl 1 rfl) ?_
          refine dk_get (k := 340) hx hb hts iX6_showing_6 hown hK (dk_at340 hW) rfl 15 (by decide) (hts (.fieldLink RX6 31 "DogKingsModel" "tried" "[I") (List.mem_of_getElem? (i := 1) rfl)) rfl dX6_showing_56 ?_
          refine lv_iload hx hb dX6_showing_59 (lv_at hl 0 rfl) ?_
          refine dk_ild (k := 348) hx hb hK (dk_at348 hW) (dkN_in (n := 54) dv6 rfl) dX6_showing_61 ?_
          refine lv_topi (fun v12 ev12 => ?_)
          refine lv_bipush (v := 9) hx hb dX6_showing_62 (by decide) ?_
          refine lv_icmp_ge (tgt := 71) hx hb dX6_showing_64 (by decide) (fun c13 => ?_) (fun c13 => ?_)
          ·
            have d14 : dkN [(9, 2147483647)] v12 := dkN_le2 0 (dkN_lit (x := 9) (9) rfl) (dkN_top v12) (dkc_le c13) rfl
            exact C71 I8 _ _ ls v6 v7 v6 hW hS hF hO (dkN_sub dv6 rfl) (dkN_sub dv6 rfl) (dkN_sub r31_0 rfl) (show dkN [(0, 0)] (I8 340 20) from dkN_sub (by rw [hF8 340 20 rfl]; exact f31_0) rfl) (show dkN [(0, 0)] (I8 340 21) from dkN_sub (by rw [hF8 340 21 rfl]; exact f31_1) rfl) (show dkN [(0, 0)] (I8 340 22) from dkN_sub (by rw [hF8 340 22 rfl]; exact f31_2) rfl) (lv_sub hl [1, 2, 3, 4, 5, 6, 0] rfl)
          ·
            have d15 : dkN [(-2147483648, 8)] v12 := dkN_le1 1 (dkN_top v12) (dkN_lit (x := 9) (9) rfl) (dkc_nle c13) rfl
            refine lv_iconst (v := 1) hx hb dX6_showing_67 (by decide) ?_
            refine lv_goto (tgt := 72) hx hb dX6_showing_68 (by decide) ?_
            exact C72 I8 _ _ ls v6 1 v7 v6 hW hS hF hO (dkN_sub dv6 rfl) (dkN_sub (dkN_lit (x := 1) (1) rfl) rfl) (dkN_sub dv6 rfl) (dkN_sub r31_0 rfl) (show dkN [(0, 0)] (I8 340 20) from dkN_sub (by rw [hF8 340 20 rfl]; exact f31_0) rfl) (show dkN [(0, 0)] (I8 340 21) from dkN_sub (by rw [hF8 340 21 rfl]; exact f31_1) rfl) (show dkN [(0, 0)] (I8 340 22) from dkN_sub (by rw [hF8 340 22 rfl]; exact f31_2) rfl) (lv_sub hl [1, 2, 3, 4, 5, 6, 0] rfl)
      refine lv_iload hx hb dX6_showing_7 (lv_at hl 5 rfl) ?_
      refine lv_iconst (v := 2) hx hb dX6_showing_9 (by decide) ?_
      refine lv_iload_n hx hb dX6_showing_10 rfl (lv_at hl 3 rfl) ?_
      refine lv_imul hx hb dX6_showing_11 ?_
      refine lv_topi (fun v16 ev16 => ?_)
      have dv16 : dkN [(2, 4)] v16 := by rw [ev16]; exact dkN_mulL 2 (by decide) (dkN_lit (x := 2) (2) rfl) dp2 rfl
      refine lv_icmp_ge (tgt := 80) hx hb dX6_showing_12 (by decide) (fun c17 => ?_) (fun c17 => ?_)
      ·
        have d18 : dkN [(2, 4)] x7_5 := dkN_le2 0 dv16 k7_0 (dkc_le c17) rfl
        refine lv_aload_n hx hb dX6_showing_80 rfl (lv_at hl 0 rfl) ?_
        refine dk_Vv (As := []) (rest := []) ⟨hx, hb, hml, hown, hts⟩ (c_X6_toBell_0 l g z I7_ hO) (cwV 0 hts gX6_showing_X6_toBell rfl rfl rfl (by decide +kernel) ⟨Nat.le_of_ble_eq_true rfl, Nat.le_of_ble_eq_true rfl⟩) (dk_at340 hW) rfl hK hT hW hS rfl hl.1 rfl (Nat.le_of_ble_eq_true rfl) dX6_showing_81 ⟨Nat.zero_le _, Nat.zero_le _⟩ (fun I19 H19 L19 hp19 hW hS => ?_)
        obtain ⟨hF19, hO, hc19⟩ := hp19
        have hF := dkF_call hF hF19 rfl
        obtain ⟨f19_348_3, -⟩ := hc19
        refine lv_aload_n hx hb dX6_showing_84 rfl (lv_at hl 0 rfl) ?_
        refine dk_get (k := 340) hx hb hts iX6_showing_6 hown hK (dk_at340 hW) rfl 15 (by decide) (hts (.fieldLink RX6 31 "DogKingsModel" "tried" "[I") (List.mem_of_getElem? (i := 1) rfl)) rfl dX6_showing_85 ?_
        refine lv_aload_n hx hb dX6_showing_88 rfl (lv_at hl 0 rfl) ?_
        refine dk_get (k := 340) hx hb hts iX6_showing_6 hown hK (dk_at340 hW) rfl 15 (by decide) (hts (.fieldLink RX6 31 "DogKingsModel" "tried" "[I") (List.mem_of_getElem? (i := 1) rfl)) rfl dX6_showing_89 ?_
        refine lv_bipush (v := 6) hx hb dX6_showing_92 (by decide) ?_
        refine lv_bipush (v := 6) hx hb dX6_showing_94 (by decide) ?_
        refine lv_iload_n hx hb dX6_showing_96 rfl (lv_at hl 1 rfl) ?_
        refine lv_imul hx hb dX6_showing_97 ?_
        refine lv_topi (fun v20 ev20 => ?_)
        have dv20 : dkN [(0, 24)] v20 := by rw [ev20]; exact dkN_mulL 6 (by decide) (dkN_lit (x := 6) (6) rfl) dp0 rfl
        refine lv_iadd hx hb dX6_showing_98 ?_
        refine lv_topi (fun v21 ev21 => ?_)
        have dv21 : dkN [(6, 30)] v21 := by rw [ev21]; exact dkN_add (dkN_lit (x := 6) (6) rfl) dv20 rfl
        refine lv_iconst (v := 4) hx hb dX6_showing_99 (by decide) ?_
        refine lv_iadd hx hb dX6_showing_100 ?_
        refine lv_topi (fun v22 ev22 => ?_)
        have dv22 : dkN [(10, 34)] v22 := by rw [ev22]; exact dkN_add dv21 (dkN_lit (x := 4) (4) rfl) rfl
        refine dk_ild (k := 348) hx hb hK (dk_at348 hW) (dkN_in (n := 54) dv22 rfl) dX6_showing_101 ?_
        refine lv_topi (fun v23 ev23 => ?_)
        refine lv_ldc (v := (-1000000)) hx hb hown (hts (.constant RX6 50 (-1000000)) (List.mem_of_getElem? (i := 2) rfl)) dX6_showing_102 ?_
        refine lv_iconst (v := 0) hx hb dX6_showing_104 (by decide) ?_
        refine dk_Si (As := [.ref (z + 348), .int v23, .int ((-1000000)), .int 0]) (rest := []) ⟨hx, hb, hml, hown, hts⟩ (c_X6_othersIn_1 l g z I19 v23 ((-1000000)) 0 (dkN_sub (dkN_lit (x := (-1000000)) (-1000000) rfl) rfl) hO) (va_cwS 4 hts gX6_showing_X6_othersIn rfl rfl rfl (by decide +kernel) ⟨Nat.le_of_ble_eq_true rfl, Nat.le_of_ble_eq_true rfl⟩) hK hT hW hS rfl hl.1 rfl (Nat.le_of_ble_eq_true rfl) dX6_showing_105 ⟨Nat.zero_le _, Nat.zero_le _⟩ (fun v24 I24 H24 L24 hp24 hW hS => ?_)
        obtain ⟨hF24, hO, hc24⟩ := hp24
        have hF := dkF_call hF hF24 rfl
        obtain ⟨_, -⟩ := hc24
        refine lv_aload_n hx hb dX6_showing_108 rfl (lv_at hl 0 rfl) ?_
        refine dk_get (k := 340) hx hb hts iX6_showing_6 hown hK (dk_at340 hW) rfl 15 (by decide) (hts (.fieldLink RX6 31 "DogKingsModel" "tried" "[I") (List.mem_of_getElem? (i := 1) rfl)) rfl dX6_showing_109 ?_
        refine lv_aload_n hx hb dX6_showing_112 rfl (lv_at hl 0 rfl) ?_
        refine dk_get (k := 340) hx hb hts iX6_showing_6 hown hK (dk_at340 hW) rfl 15 (by decide) (hts (.fieldLink RX6 31 "DogKingsModel" "tried" "[I") (List.mem_of_getElem? (i := 1) rfl)) rfl dX6_showing_113 ?_
        refine lv_bipush (v := 6) hx hb dX6_showing_116 (by decide) ?_
        refine lv_bipush (v := 6) hx hb dX6_showing_118 (by decide) ?_
        refine lv_iload_n hx hb dX6_showing_120 rfl (lv_at hl 2 rfl) ?_
        refine lv_imul hx hb dX6_showing_121 ?_
        refine lv_topi (fun v25 ev25 => ?_)
        have dv25 : dkN [(0, 24)] v25 := by rw [ev25]; exact dkN_mulL 6 (by decide) (dkN_lit (x := 6) (6) rfl) dp1 rfl
        refine lv_iadd hx hb dX6_showing_122 ?_
        refine lv_topi (fun v26 ev26 => ?_)
        have dv26 : dkN [(6, 30)] v26 := by rw [ev26]; exact dkN_add (dkN_lit (x := 6) (6) rfl) dv25 rfl
        refine lv_iconst (v := 4) hx hb dX6_showing_123 (by decide) ?_
        refine lv_iadd hx hb dX6_showing_124 ?_
        refine lv_topi (fun v27 ev27 => ?_)
        have dv27 : dkN [(10, 34)] v27 := by rw [ev27]; exact dkN_add dv26 (dkN_lit (x := 4) (4) rfl) rfl
        refine dk_ild (k := 348) hx hb hK (dk_at348 hW) (dkN_in (n := 54) dv27 rfl) dX6_showing_125 ?_
        refine lv_topi (fun v28 ev28 => ?_)
        refine lv_ldc (v := (-1000000)) hx hb hown (hts (.constant RX6 50 (-1000000)) (List.mem_of_getElem? (i := 2) rfl)) dX6_showing_126 ?_
        refine lv_iconst (v := 0) hx hb dX6_showing_128 (by decide) ?_
        refine dk_Si (As := [.ref (z + 348), .int v28, .int ((-1000000)), .int 0]) (rest := [.int v24]) ⟨hx, hb, hml, hown, hts⟩ (c_X6_othersIn_1 l g z I24 v28 ((-1000000)) 0 (dkN_sub (dkN_lit (x := (-1000000)) (-1000000) rfl) rfl) hO) (va_cwS 4 hts gX6_showing_X6_othersIn rfl rfl rfl (by decide +kernel) ⟨Nat.le_of_ble_eq_true rfl, Nat.le_of_ble_eq_true rfl⟩) hK hT hW hS rfl hl.1 rfl (Nat.le_of_ble_eq_true rfl) dX6_showing_129 ⟨Nat.zero_le _, Nat.zero_le _⟩ (fun v29 I29 H29 L29 hp29 hW hS => ?_)
        obtain ⟨hF29, hO, hc29⟩ := hp29
        have hF := dkF_call hF hF29 rfl
        obtain ⟨_, -⟩ := hc29
        refine lv_isub hx hb dX6_showing_132 ?_
        refine lv_topi (fun v30 ev30 => ?_)
        exact W.iret (v := v30) hx hb hr (fun t ht hW9 => ⟨⟨v30, I29, rfl, ⟨hF, hO, ⟨trivial, (show dkN [(0, 0)] (I29 340 20) from dkN_sub (by rw [hF29 340 20 rfl]; exact (by rw [hF24 340 20 rfl]; exact (by rw [hF19 340 20 rfl]; exact f7_0))) rfl), (show dkN [(0, 0)] (I29 340 21) from dkN_sub (by rw [hF29 340 21 rfl]; exact (by rw [hF24 340 21 rfl]; exact (by rw [hF19 340 21 rfl]; exact f7_1))) rfl), (show dkN [(0, 0)] (I29 340 22) from dkN_sub (by rw [hF29 340 22 rfl]; exact (by rw [hF24 340 22 rfl]; exact (by rw [hF19 340 22 rfl]; exact f7_2))) rfl), (show dkN [(0, 2147483647)] (I29 348 3) from dkN_sub (by rw [hF29 348 3 rfl]; exact (by rw [hF24 348 3 rfl]; exact f19_348_3)) rfl), trivial⟩⟩, dkW_eq ht hW⟩, hS.F ht⟩) hS.2.2 dX6_showing_133
      ·
        have d31 : dkN [(0, 3)] x7_5 := dkN_le1 1 k7_0 dv16 (dkc_nle c17) rfl
        refine lv_bipush (v := 6) hx hb dX6_showing_15 (by decide) ?_
        refine lv_bipush (v := 6) hx hb dX6_showing_17 (by decide) ?_
        refine lv_iload hx hb dX6_showing_19 (lv_at hl 5 rfl) ?_
        refine lv_iconst (v := 2) hx hb dX6_showing_21 (by decide) ?_
        refine lv_irem hx hb dX6_showing_22 (dkN_ne0 (dkN_lit (x := 2) (2) rfl) rfl) ?_
        refine lv_topi (fun v32 ev32 => ?_)
        have dv32 : dkN [(0, 1)] v32 := by rw [ev32]; exact dkN_rem 2 (by decide) d31 (dkN_lit (x := 2) (2) rfl) rfl
        refine lv_if_ne (tgt := 30) hx hb dX6_showing_23 (by decide) (fun c33 => ?_) (fun c33 => ?_)
        ·
          have d34 : dkN [(1, 1)] v32 := dkN_ne1 (0) dv32 (dkN_lit (x := 0) (0) rfl) (dk_ne c33) rfl
          refine lv_iload_n hx hb dX6_showing_30 rfl (lv_at hl 2 rfl) ?_
          exact C31 I7_ _ _ ls p1 6 6 hW hS hF hO (dkN_sub dp1 rfl) (dkN_sub (dkN_lit (x := 6) (6) rfl) rfl) (dkN_sub (dkN_lit (x := 6) (6) rfl) rfl) (dkN_sub d31 rfl) (show dkN [(0, 0)] (I7_ 340 20) from dkN_sub f7_0 rfl) (show dkN [(0, 0)] (I7_ 340 21) from dkN_sub f7_1 rfl) (show dkN [(0, 0)] (I7_ 340 22) from dkN_sub f7_2 rfl) (lv_sub hl [0, 1, 2, 3, 4, 5] rfl)
        ·
          have d35 : dkN [(0, 0)] v32 := dkN_eq1 dv32 (dkN_lit (x := 0) (0) rfl) (congrArg Int32.toInt c33) rfl
          refine lv_iload_n hx hb dX6_showing_26 rfl (lv_at hl 1 rfl) ?_
          refine lv_goto (tgt := 31) hx hb dX6_showing_27 (by decide) ?_
          exact C31 I7_ _ _ ls p0 6 6 hW hS hF hO (dkN_sub dp0 rfl) (dkN_sub (dkN_lit (x := 6) (6) rfl) rfl) (dkN_sub (dkN_lit (x := 6) (6) rfl) rfl) (dkN_sub d31 rfl) (show dkN [(0, 0)] (I7_ 340 20) from dkN_sub f7_0 rfl) (show dkN [(0, 0)] (I7_ 340 21) from dkN_sub f7_1 rfl) (show dkN [(0, 0)] (I7_ 340 22) from dkN_sub f7_2 rfl) (lv_sub hl [0, 1, 2, 3, 4, 5] rfl)
  refine lv_aload_n hx hb dX6_showing_0 rfl (lv_at hl 0 rfl) ?_
  refine dk_Vv (As := []) (rest := []) ⟨hx, hb, hml, hown, hts⟩ (c_X6_tries_0 l g z I0 hO) (cwV 0 hts gX6_showing_X6_tries rfl rfl rfl (by decide +kernel) ⟨Nat.le_of_ble_eq_true rfl, Nat.le_of_ble_eq_true rfl⟩) (dk_at340 hW) rfl hK hT hW hS rfl hl.1 rfl (Nat.le_of_ble_eq_true rfl) dX6_showing_1 ⟨Nat.zero_le _, Nat.zero_le _⟩ (fun I36 H36 L36 hp36 hW hS => ?_)
  obtain ⟨hF36, hO, hc36⟩ := hp36
  have hF := dkF_call hF hF36 rfl
  obtain ⟨f36_340_20, f36_340_21, f36_340_22, -⟩ := hc36
  refine lv_iconst (v := 0) hx hb dX6_showing_4 (by decide) ?_
  refine lv_istore (lv' := [(5, .int 0), (0, .ref (z + 340)), (1, .int p0), (2, .int p1), (3, .int p2), (4, .int p3)]) hx hb dX6_showing_5 hl (by decide) rfl (fun ls hl => ?_)
  exact C7 _ I36 _ _ ls 0 (Nat.lt_succ_self _) hW hS hF hO (dkN_sub (dkN_lit (x := 0) (0) rfl) rfl) (show dkN [(0, 0)] (I36 340 20) from dkN_sub f36_340_20 rfl) (show dkN [(0, 0)] (I36 340 21) from dkN_sub f36_340_21 rfl) (show dkN [(0, 0)] (I36 340 22) from dkN_sub f36_340_22 rfl) (lv_sub hl [1, 2, 3, 4, 5, 0] rfl)
