set_option maxHeartbeats 4000000 in
set_option maxRecDepth 100000 in
theorem c_X6_isPart_0 (l : Launch) (g : dkG) (z : Nat) (I0 : dkI) (p0 : Int32) (p1 : Int32) (p2 : Int32) (dp0 : dkN [(0, 7)] p0)  (hO : dkOk I0) : Met l yX6_isPart wsX6_isPart (dkR 0) (dkPc g z [.ref (z + 340), .int p0, .int p1, .int p2] I0) (dkQi g z (fun r I1 => dkF [] I0 I1 ∧ dkOk I1 ∧ ((dkN [(0, 0)] r ∧ True) ∨ (dkN [(1, 1)] r ∧ dkN [(0, 40)] p1 ∧ dkN [(0, 40)] p2 ∧ p1.toInt + p2.toInt ≤ 40 ∧ True)))) 0 0 (dkA z) := by
  refine Met.ofW (cc := cX6_isPart) (maxL := 4) (ret := (some .boolean)) (by decide) rfl ?_
  intro p e s m args below meth c s₁ B hml hv
  obtain ⟨ha, hW, hK, hT⟩ := hv
  have hx := B.exec
  have hb := B.bytes
  have hr := B.returns
  have hts := atoms_spec (ws := wsX6_isPart) B.pre
  have hown : s.vm.findClass RX6 = some m.cls := findClass_of_methodNamed B.named
  have hlocks := B.notSynchronized
  have hS : va_S (dkA z) s.heap s.heap [] := va_S.rf
  have hF : dkF [] I0 I0 := dkF_rf _ _
  have hl := lv_entry ([.ref (z + 340), .int p0, .int p1, .int p2]) (n := 4) (Nat.le_of_ble_eq_true rfl)
  have hgo : entryFrame m args 4 = entryFrame m ([.ref (z + 340), .int p0, .int p1, .int p2] : List Value).toArray 4 := by rw [ha]
  rw [hgo, lg_entry_eq]
  generalize (lg_sl ([.ref (z + 340), .int p0, .int p1, .int p2]) ++ List.replicate (4 - (lg_sl ([.ref (z + 340), .int p0, .int p1, .int p2])).length) Slot.unset).toArray = ls at hl ⊢
  have hl : lv_has ls 4 [(0, .ref (z + 340)), (1, .int p0), (2, .int p1), (3, .int p2)] := hl
  refine lv_iload_n hx hb dX6_isPart_0 rfl (lv_at hl 2 rfl) ?_
  refine lv_if_lt (tgt := 34) hx hb dX6_isPart_1 (by decide) (fun c1 => ?_) (fun c1 => ?_)
  ·
    have d2 : dkN [(-2147483648, -1)] p1 := dkN_le1 1 (dkN_top p1) (dkN_lit (x := 0) (0) rfl) (dkc_lt c1) rfl
    refine lv_iconst (v := 0) hx hb dX6_isPart_34 (by decide) ?_
    exact W.zret (v := 0) (ty := .boolean) hx hb hr rfl (fun t ht hW9 => ⟨⟨0, I0, rfl, ⟨hF, hO, Or.inl ⟨dkN_sub (dkN_lit (x := 0) (0) rfl) rfl, trivial⟩⟩, dkW_eq ht hW⟩, hS.F ht⟩) hS.2.2 dX6_isPart_35
  ·
    have d3 : dkN [(0, 2147483647)] p1 := dkN_le2 0 (dkN_lit (x := 0) (0) rfl) (dkN_top p1) (dkc_nlt c1) rfl
    refine lv_iload_n hx hb dX6_isPart_4 rfl (lv_at hl 3 rfl) ?_
    refine lv_if_lt (tgt := 34) hx hb dX6_isPart_5 (by decide) (fun c4 => ?_) (fun c4 => ?_)
    ·
      have d5 : dkN [(-2147483648, -1)] p2 := dkN_le1 1 (dkN_top p2) (dkN_lit (x := 0) (0) rfl) (dkc_lt c4) rfl
      refine lv_iconst (v := 0) hx hb dX6_isPart_34 (by decide) ?_
      exact W.zret (v := 0) (ty := .boolean) hx hb hr rfl (fun t ht hW9 => ⟨⟨0, I0, rfl, ⟨hF, hO, Or.inl ⟨dkN_sub (dkN_lit (x := 0) (0) rfl) rfl, trivial⟩⟩, dkW_eq ht hW⟩, hS.F ht⟩) hS.2.2 dX6_isPart_35
    ·
      have d6 : dkN [(0, 2147483647)] p2 := dkN_le2 0 (dkN_lit (x := 0) (0) rfl) (dkN_top p2) (dkc_nlt c4) rfl
      refine lv_iload_n hx hb dX6_isPart_8 rfl (lv_at hl 2 rfl) ?_
      refine lv_aload_n hx hb dX6_isPart_9 rfl (lv_at hl 0 rfl) ?_
      refine dk_get (k := 340) hx hb hts iX6_isPart_6 hown hK (dk_at340 hW) rfl 1 (by decide) (hts (.fieldLink RX6 13 "DogKingsModel" "many" "[I") (List.mem_of_getElem? (i := 1) rfl)) rfl dX6_isPart_10 ?_
      refine lv_iload_n hx hb dX6_isPart_13 rfl (lv_at hl 1 rfl) ?_
      refine dk_ild (k := 342) hx hb hK (dk_at342 hW) (dkN_in (n := 8) dp0 rfl) dX6_isPart_14 ?_
      refine lv_topi (fun v7 ev7 => ?_)
      have dv7 : dkN [(0, 40)] v7 := by rw [ev7]; exact (hO 342 _)
      refine lv_icmp_gt (tgt := 34) hx hb dX6_isPart_15 (by decide) (fun c8 => ?_) (fun c8 => ?_)
      ·
        have d9 : dkN [(1, 2147483647)] p1 := dkN_le2 1 dv7 d3 (dkc_lt c8) rfl
        refine lv_iconst (v := 0) hx hb dX6_isPart_34 (by decide) ?_
        exact W.zret (v := 0) (ty := .boolean) hx hb hr rfl (fun t ht hW9 => ⟨⟨0, I0, rfl, ⟨hF, hO, Or.inl ⟨dkN_sub (dkN_lit (x := 0) (0) rfl) rfl, trivial⟩⟩, dkW_eq ht hW⟩, hS.F ht⟩) hS.2.2 dX6_isPart_35
      ·
        have d10 : dkN [(0, 40)] p1 := dkN_le1 0 d3 dv7 (dkc_nlt c8) rfl
        refine lv_iload_n hx hb dX6_isPart_18 rfl (lv_at hl 3 rfl) ?_
        refine lv_aload_n hx hb dX6_isPart_19 rfl (lv_at hl 0 rfl) ?_
        refine dk_get (k := 340) hx hb hts iX6_isPart_6 hown hK (dk_at340 hW) rfl 1 (by decide) (hts (.fieldLink RX6 13 "DogKingsModel" "many" "[I") (List.mem_of_getElem? (i := 1) rfl)) rfl dX6_isPart_20 ?_
        refine lv_iload_n hx hb dX6_isPart_23 rfl (lv_at hl 1 rfl) ?_
        refine dk_ild (k := 342) hx hb hK (dk_at342 hW) (dkN_in (n := 8) dp0 rfl) dX6_isPart_24 ?_
        refine lv_topi (fun v11 ev11 => ?_)
        have dv11 : dkN [(0, 40)] v11 := by rw [ev11]; exact (hO 342 _)
        refine lv_iload_n hx hb dX6_isPart_25 rfl (lv_at hl 2 rfl) ?_
        refine lv_isub hx hb dX6_isPart_26 ?_
        refine lv_topi (fun v12 ev12 => ?_)
        have dv12 : dkN [(-40, 40)] v12 := by rw [ev12]; exact dkN_subt dv11 d10 rfl
        refine lv_icmp_gt (tgt := 34) hx hb dX6_isPart_27 (by decide) (fun c13 => ?_) (fun c13 => ?_)
        ·
          refine lv_iconst (v := 0) hx hb dX6_isPart_34 (by decide) ?_
          exact W.zret (v := 0) (ty := .boolean) hx hb hr rfl (fun t ht hW9 => ⟨⟨0, I0, rfl, ⟨hF, hO, Or.inl ⟨dkN_sub (dkN_lit (x := 0) (0) rfl) rfl, trivial⟩⟩, dkW_eq ht hW⟩, hS.F ht⟩) hS.2.2 dX6_isPart_35
        ·
          have d14 : dkN [(0, 40)] v12 := dkN_le2 0 d6 dv12 (dkc_nlt c13) rfl
          have d15 : dkN [(0, 40)] p2 := dkN_le1 0 d6 dv12 (dkc_nlt c13) rfl
          refine lv_iconst (v := 1) hx hb dX6_isPart_30 (by decide) ?_
          refine lv_goto (tgt := 35) hx hb dX6_isPart_31 (by decide) ?_
          exact W.zret (v := 1) (ty := .boolean) hx hb hr rfl (fun t ht hW9 => ⟨⟨1, I0, rfl, ⟨hF, hO, Or.inr (⟨dkN_sub (dkN_lit (x := 1) (1) rfl) rfl, dkN_sub d10 rfl, dkN_sub d15 rfl, (dk_relsub ev12 dv11 d10 (dkc_nlt c13) rfl), trivial⟩)⟩, dkW_eq ht hW⟩, hS.F ht⟩) hS.2.2 dX6_isPart_35
set_option maxHeartbeats 4000000 in
set_option maxRecDepth 100000 in
theorem c_X6_isPart_1 (l : Launch) (g : dkG) (z : Nat) (I0 : dkI) (p0 : Int32) (p1 : Int32) (p2 : Int32) (dp0 : dkN [(0, 7)] p0) (dp2 : dkN [(0, 40)] p2)  (hO : dkOk I0) : Met l yX6_isPart wsX6_isPart (dkR 0) (dkPc g z [.ref (z + 340), .int p0, .int p1, .int p2] I0) (dkQi g z (fun r I1 => dkF [] I0 I1 ∧ dkOk I1 ∧ ((dkN [(0, 0)] r ∧ True) ∨ (dkN [(1, 1)] r ∧ dkN [(0, 40)] p1 ∧ p1.toInt + p2.toInt ≤ 40 ∧ True)))) 0 0 (dkA z) := by
  refine Met.ofW (cc := cX6_isPart) (maxL := 4) (ret := (some .boolean)) (by decide) rfl ?_
  intro p e s m args below meth c s₁ B hml hv
  obtain ⟨ha, hW, hK, hT⟩ := hv
  have hx := B.exec
  have hb := B.bytes
  have hr := B.returns
  have hts := atoms_spec (ws := wsX6_isPart) B.pre
  have hown : s.vm.findClass RX6 = some m.cls := findClass_of_methodNamed B.named
  have hlocks := B.notSynchronized
  have hS : va_S (dkA z) s.heap s.heap [] := va_S.rf
  have hF : dkF [] I0 I0 := dkF_rf _ _
  have hl := lv_entry ([.ref (z + 340), .int p0, .int p1, .int p2]) (n := 4) (Nat.le_of_ble_eq_true rfl)
  have hgo : entryFrame m args 4 = entryFrame m ([.ref (z + 340), .int p0, .int p1, .int p2] : List Value).toArray 4 := by rw [ha]
  rw [hgo, lg_entry_eq]
  generalize (lg_sl ([.ref (z + 340), .int p0, .int p1, .int p2]) ++ List.replicate (4 - (lg_sl ([.ref (z + 340), .int p0, .int p1, .int p2])).length) Slot.unset).toArray = ls at hl ⊢
  have hl : lv_has ls 4 [(0, .ref (z + 340)), (1, .int p0), (2, .int p1), (3, .int p2)] := hl
  refine lv_iload_n hx hb dX6_isPart_0 rfl (lv_at hl 2 rfl) ?_
  refine lv_if_lt (tgt := 34) hx hb dX6_isPart_1 (by decide) (fun c1 => ?_) (fun c1 => ?_)
  ·
    have d2 : dkN [(-2147483648, -1)] p1 := dkN_le1 1 (dkN_top p1) (dkN_lit (x := 0) (0) rfl) (dkc_lt c1) rfl
    refine lv_iconst (v := 0) hx hb dX6_isPart_34 (by decide) ?_
    exact W.zret (v := 0) (ty := .boolean) hx hb hr rfl (fun t ht hW9 => ⟨⟨0, I0, rfl, ⟨hF, hO, Or.inl ⟨dkN_sub (dkN_lit (x := 0) (0) rfl) rfl, trivial⟩⟩, dkW_eq ht hW⟩, hS.F ht⟩) hS.2.2 dX6_isPart_35
  ·
    have d3 : dkN [(0, 2147483647)] p1 := dkN_le2 0 (dkN_lit (x := 0) (0) rfl) (dkN_top p1) (dkc_nlt c1) rfl
    refine lv_iload_n hx hb dX6_isPart_4 rfl (lv_at hl 3 rfl) ?_
    refine lv_if_lt (tgt := 34) hx hb dX6_isPart_5 (by decide) (fun c4 => ?_) (fun c4 => ?_)
    ·
      exact (dkN_nil (show dkN [] p2 from dkN_le1 1 dp2 (dkN_lit (x := 0) (0) rfl) (dkc_lt c4) rfl)).elim
    ·
      refine lv_iload_n hx hb dX6_isPart_8 rfl (lv_at hl 2 rfl) ?_
      refine lv_aload_n hx hb dX6_isPart_9 rfl (lv_at hl 0 rfl) ?_
      refine dk_get (k := 340) hx hb hts iX6_isPart_6 hown hK (dk_at340 hW) rfl 1 (by decide) (hts (.fieldLink RX6 13 "DogKingsModel" "many" "[I") (List.mem_of_getElem? (i := 1) rfl)) rfl dX6_isPart_10 ?_
      refine lv_iload_n hx hb dX6_isPart_13 rfl (lv_at hl 1 rfl) ?_
      refine dk_ild (k := 342) hx hb hK (dk_at342 hW) (dkN_in (n := 8) dp0 rfl) dX6_isPart_14 ?_
      refine lv_topi (fun v5 ev5 => ?_)
      have dv5 : dkN [(0, 40)] v5 := by rw [ev5]; exact (hO 342 _)
      refine lv_icmp_gt (tgt := 34) hx hb dX6_isPart_15 (by decide) (fun c6 => ?_) (fun c6 => ?_)
      ·
        have d7 : dkN [(1, 2147483647)] p1 := dkN_le2 1 dv5 d3 (dkc_lt c6) rfl
        refine lv_iconst (v := 0) hx hb dX6_isPart_34 (by decide) ?_
        exact W.zret (v := 0) (ty := .boolean) hx hb hr rfl (fun t ht hW9 => ⟨⟨0, I0, rfl, ⟨hF, hO, Or.inl ⟨dkN_sub (dkN_lit (x := 0) (0) rfl) rfl, trivial⟩⟩, dkW_eq ht hW⟩, hS.F ht⟩) hS.2.2 dX6_isPart_35
      ·
        have d8 : dkN [(0, 40)] p1 := dkN_le1 0 d3 dv5 (dkc_nlt c6) rfl
        refine lv_iload_n hx hb dX6_isPart_18 rfl (lv_at hl 3 rfl) ?_
        refine lv_aload_n hx hb dX6_isPart_19 rfl (lv_at hl 0 rfl) ?_
        refine dk_get (k := 340) hx hb hts iX6_isPart_6 hown hK (dk_at340 hW) rfl 1 (by decide) (hts (.fieldLink RX6 13 "DogKingsModel" "many" "[I") (List.mem_of_getElem? (i := 1) rfl)) rfl dX6_isPart_20 ?_
        refine lv_iload_n hx hb dX6_isPart_23 rfl (lv_at hl 1 rfl) ?_
        refine dk_ild (k := 342) hx hb hK (dk_at342 hW) (dkN_in (n := 8) dp0 rfl) dX6_isPart_24 ?_
        refine lv_topi (fun v9 ev9 => ?_)
        have dv9 : dkN [(0, 40)] v9 := by rw [ev9]; exact (hO 342 _)
        refine lv_iload_n hx hb dX6_isPart_25 rfl (lv_at hl 2 rfl) ?_
        refine lv_isub hx hb dX6_isPart_26 ?_
        refine lv_topi (fun v10 ev10 => ?_)
        have dv10 : dkN [(-40, 40)] v10 := by rw [ev10]; exact dkN_subt dv9 d8 rfl
        refine lv_icmp_gt (tgt := 34) hx hb dX6_isPart_27 (by decide) (fun c11 => ?_) (fun c11 => ?_)
        ·
          have d12 : dkN [(-40, 39)] v10 := dkN_le1 1 dv10 dp2 (dkc_lt c11) rfl
          refine lv_iconst (v := 0) hx hb dX6_isPart_34 (by decide) ?_
          exact W.zret (v := 0) (ty := .boolean) hx hb hr rfl (fun t ht hW9 => ⟨⟨0, I0, rfl, ⟨hF, hO, Or.inl ⟨dkN_sub (dkN_lit (x := 0) (0) rfl) rfl, trivial⟩⟩, dkW_eq ht hW⟩, hS.F ht⟩) hS.2.2 dX6_isPart_35
        ·
          have d13 : dkN [(0, 40)] v10 := dkN_le2 0 dp2 dv10 (dkc_nlt c11) rfl
          refine lv_iconst (v := 1) hx hb dX6_isPart_30 (by decide) ?_
          refine lv_goto (tgt := 35) hx hb dX6_isPart_31 (by decide) ?_
          exact W.zret (v := 1) (ty := .boolean) hx hb hr rfl (fun t ht hW9 => ⟨⟨1, I0, rfl, ⟨hF, hO, Or.inr (⟨dkN_sub (dkN_lit (x := 1) (1) rfl) rfl, dkN_sub d8 rfl, (dk_relsub ev10 dv9 d8 (dkc_nlt c11) rfl), trivial⟩)⟩, dkW_eq ht hW⟩, hS.F ht⟩) hS.2.2 dX6_isPart_35
set_option maxHeartbeats 4000000 in
set_option maxRecDepth 100000 in
theorem c_X6_found_3 (l : Launch) (g : dkG) (z : Nat) (I0 : dkI) (p0 : Int32) (dp0 : dkN [(5, 5)] p0)  (hO : dkOk I0) : Met l yX6_found wsX6_found (dkR 0) (dkPc g z [.ref (z + 340), .int p0] I0) (dkQi g z (fun r I1 => dkF [(340, 340, 4, 4)] I0 I1 ∧ dkOk I1 ∧ ((dkN [(-1000015, -1000015)] r ∧ dkN [(5, 5)] (I1 340 4) ∧ True)))) 0 0 (dkA z) := by
  refine Met.ofW (cc := cX6_found) (maxL := 2) (ret := (some .int)) (by decide) rfl ?_
  intro p e s m args below meth c s₁ B hml hv
  obtain ⟨ha, hW, hK, hT⟩ := hv
  have hx := B.exec
  have hb := B.bytes
  have hr := B.returns
  have hts := atoms_spec (ws := wsX6_found) B.pre
  have hown : s.vm.findClass RX6 = some m.cls := findClass_of_methodNamed B.named
  have hlocks := B.notSynchronized
  have hS : va_S (dkA z) s.heap s.heap [] := va_S.rf
  have hF : dkF [(340, 340, 4, 4)] I0 I0 := dkF_rf _ _
  have hl := lv_entry ([.ref (z + 340), .int p0]) (n := 2) (Nat.le_of_ble_eq_true rfl)
  have hgo : entryFrame m args 2 = entryFrame m ([.ref (z + 340), .int p0] : List Value).toArray 2 := by rw [ha]
  rw [hgo, lg_entry_eq]
  generalize (lg_sl ([.ref (z + 340), .int p0]) ++ List.replicate (2 - (lg_sl ([.ref (z + 340), .int p0])).length) Slot.unset).toArray = ls at hl ⊢
  have hl : lv_has ls 2 [(0, .ref (z + 340)), (1, .int p0)] := hl
  refine lv_aload_n hx hb dX6_found_0 rfl (lv_at hl 0 rfl) ?_
  refine lv_iload_n hx hb dX6_found_1 rfl (lv_at hl 1 rfl) ?_
  refine dk_put (k := 340) hx hb hts iX6_found_6 tyX6 tyX6_ok nmX6 hown hK hW (dk_at340 hW) hS rfl 4 (by decide) (hts (.fieldLink RX6 51 "DogKingsModel" "status" "I") (List.mem_of_getElem? (i := 1) rfl)) rfl rfl (Nat.le_of_ble_eq_true rfl) rfl dX6_found_2 (fun I1 H1 L1 eI1 hW hS => ?_)
  have eI1 : I1 = dkU I0 340 4 p0 := eI1
  have hO := dkO_set hO eI1 (dkN_sub dp0 rfl)
  have hF := dkF_set hF eI1 rfl
  refine lv_ldc (v := (-1000010)) hx hb hown (hts (.constant RX6 55 (-1000010)) (List.mem_of_getElem? (i := 2) rfl)) dX6_found_5 ?_
  refine lv_iload_n hx hb dX6_found_7 rfl (lv_at hl 1 rfl) ?_
  refine lv_isub hx hb dX6_found_8 ?_
  refine lv_topi (fun v2 ev2 => ?_)
  have dv2 : dkN [(-1000015, -1000015)] v2 := by rw [ev2]; exact dkN_subt (dkN_lit (x := (-1000010)) (-1000010) rfl) dp0 rfl
  exact W.iret (v := v2) hx hb hr (fun t ht hW9 => ⟨⟨v2, I1, rfl, ⟨hF, hO, ⟨dkN_sub dv2 rfl, (show dkN [(5, 5)] (I1 340 4) from dkN_sub (by rw [eI1, dkU_ss]; exact dp0) rfl), trivial⟩⟩, dkW_eq ht hW⟩, hS.F ht⟩) hS.2.2 dX6_found_9
set_option maxHeartbeats 4000000 in
set_option maxRecDepth 100000 in
theorem c_X6_copy_0 (l : Launch) (g : dkG) (z : Nat) (I0 : dkI) (p0 : Int32) (p1 : Int32) (p2 : Int32) (p3 : Int32) (p4 : Int32)  (hO : dkOk I0) : Met l yX6_copy wsX6_copy (dkR 2) (dkPc g z [.ref (z + 340), .int p0, .int p1, .int p2, .int p3, .int p4] I0) (dkQi g z (fun r I1 => dkF [(340, 340, 4, 4), (343, 343, 0, 359), (344, 344, 0, 39)] I0 I1 ∧ dkOk I1 ∧ ((dkN [(-1000015, -1000015), (-1000012, -1000011), (-1000001, -1000001), (0, 40)] r ∧ True)))) 0 0 (dkA z) := by
  refine Met.ofW (cc := cX6_copy) (maxL := 7) (ret := (some .int)) (by decide) rfl ?_
  intro p e s m args below meth c s₁ B hml hv
  obtain ⟨ha, hW, hK, hT⟩ := hv
  have hx := B.exec
  have hb := B.bytes
  have hr := B.returns
  have hts := atoms_spec (ws := wsX6_copy) B.pre
  have hown : s.vm.findClass RX6 = some m.cls := findClass_of_methodNamed B.named
  have hlocks := B.notSynchronized
  have hS : va_S (dkA z) s.heap s.heap [] := va_S.rf
  have hF : dkF [(340, 340, 4, 4), (343, 343, 0, 359), (344, 344, 0, 39)] I0 I0 := dkF_rf _ _
  have hl := lv_entry ([.ref (z + 340), .int p0, .int p1, .int p2, .int p3, .int p4]) (n := 7) (Nat.le_of_ble_eq_true rfl)
  have hgo : entryFrame m args 7 = entryFrame m ([.ref (z + 340), .int p0, .int p1, .int p2, .int p3, .int p4] : List Value).toArray 7 := by rw [ha]
  rw [hgo, lg_entry_eq]
  generalize (lg_sl ([.ref (z + 340), .int p0, .int p1, .int p2, .int p3, .int p4]) ++ List.replicate (7 - (lg_sl ([.ref (z + 340), .int p0, .int p1, .int p2, .int p3, .int p4])).length) Slot.unset).toArray = ls at hl ⊢
  have hl : lv_has ls 7 [(0, .ref (z + 340)), (1, .int p0), (2, .int p1), (3, .int p2), (4, .int p3), (5, .int p4)] := hl
  have C33 : ∀ (I : dkI) (H : Heap) (locs : List Loc) (ls : Array Slot), dkW g z I H → va_S (dkA z) s.heap H locs → dkF [(340, 340, 4, 4), (343, 343, 0, 359), (344, 344, 0, 39)] I0 I → dkOk I → dkN [(0, 7)] p0 → dkN [(0, 7)] p2 → lv_has ls 7 [(0, .ref (z + 340)), (1, .int p0), (2, .int p1), (3, .int p2), (4, .int p3), (5, .int p4)] → W p l e (headSpec wsX6_copy (dkR 2)).room s m args below meth c H locs 0 0 (MQ below (dkQi g z (fun r I1 => dkF [(340, 340, 4, 4), (343, 343, 0, 359), (344, 344, 0, 39)] I0 I1 ∧ dkOk I1 ∧ ((dkN [(-1000015, -1000015), (-1000012, -1000011), (-1000001, -1000001), (0, 40)] r ∧ True)))) args s 0 0 (dkA z)) (F0 m 33 ls []) := by
    intro I33_ H locs ls hW hS hF_33 hO r33_0 r33_1 hl
    have hF := hF_33
    refine lv_aload_n hx hb dX6_copy_33 rfl (lv_at hl 0 rfl) ?_
    refine lv_iconst (v := 1) hx hb dX6_copy_34 (by decide) ?_
    refine dk_Vi (As := [.int 1]) (rest := []) ⟨hx, hb, hml, hown, hts⟩ (c_X6_found_2 l g z I33_ 1 (dkN_lit (x := 1) (1) rfl) hO) (cwV 1 hts gX6_copy_X6_found rfl rfl rfl (by decide +kernel) ⟨Nat.le_of_ble_eq_true rfl, Nat.le_of_ble_eq_true rfl⟩) (dk_at340 hW) rfl hK hT hW hS rfl hl.1 rfl (Nat.le_of_ble_eq_true rfl) dX6_copy_35 ⟨Nat.zero_le _, Nat.zero_le _⟩ (fun v1 I1 H1 L1 hp1 hW hS => ?_)
    obtain ⟨hF1, hO, hc1⟩ := hp1
    have hF := dkF_call hF hF1 rfl
    obtain ⟨dv1, f1_340_4, -⟩ := hc1
    exact W.iret (v := v1) hx hb hr (fun t ht hW9 => ⟨⟨v1, I1, rfl, ⟨hF, hO, ⟨dkN_sub dv1 rfl, trivial⟩⟩, dkW_eq ht hW⟩, hS.F ht⟩) hS.2.2 dX6_copy_38
  have C83 : ∀ (I : dkI) (H : Heap) (locs : List Loc) (ls : Array Slot), dkW g z I H → va_S (dkA z) s.heap H locs → dkF [(340, 340, 4, 4), (343, 343, 0, 359), (344, 344, 0, 39)] I0 I → dkOk I → dkN [(0, 7)] p0 → dkN [(0, 7)] p2 → lv_has ls 7 [(0, .ref (z + 340)), (1, .int p0), (2, .int p1), (3, .int p2), (4, .int p3), (5, .int p4)] → W p l e (headSpec wsX6_copy (dkR 2)).room s m args below meth c H locs 0 0 (MQ below (dkQi g z (fun r I1 => dkF [(340, 340, 4, 4), (343, 343, 0, 359), (344, 344, 0, 39)] I0 I1 ∧ dkOk I1 ∧ ((dkN [(-1000015, -1000015), (-1000012, -1000011), (-1000001, -1000001), (0, 40)] r ∧ True)))) args s 0 0 (dkA z)) (F0 m 83 ls []) := by
    intro I83_ H locs ls hW hS hF_83 hO r83_0 r83_1 hl
    have hF := hF_83
    refine lv_aload_n hx hb dX6_copy_83 rfl (lv_at hl 0 rfl) ?_
    refine lv_iconst (v := 2) hx hb dX6_copy_84 (by decide) ?_
    refine dk_Vi (As := [.int 2]) (rest := []) ⟨hx, hb, hml, hown, hts⟩ (c_X6_found_1 l g z I83_ 2 (dkN_lit (x := 2) (2) rfl) hO) (cwV 1 hts gX6_copy_X6_found rfl rfl rfl (by decide +kernel) ⟨Nat.le_of_ble_eq_true rfl, Nat.le_of_ble_eq_true rfl⟩) (dk_at340 hW) rfl hK hT hW hS rfl hl.1 rfl (Nat.le_of_ble_eq_true rfl) dX6_copy_85 ⟨Nat.zero_le _, Nat.zero_le _⟩ (fun v2 I2 H2 L2 hp2 hW hS => ?_)
    obtain ⟨hF2, hO, hc2⟩ := hp2
    have hF := dkF_call hF hF2 rfl
    obtain ⟨dv2, f2_340_4, -⟩ := hc2
    exact W.iret (v := v2) hx hb hr (fun t ht hW9 => ⟨⟨v2, I2, rfl, ⟨hF, hO, ⟨dkN_sub dv2 rfl, trivial⟩⟩, dkW_eq ht hW⟩, hS.F ht⟩) hS.2.2 dX6_copy_88
  have C129 : ∀ (n : Nat), ∀ (I : dkI) (H : Heap) (locs : List Loc) (ls : Array Slot) (x129_6 : Int32), (40 - x129_6.toInt).toNat < n → dkW g z I H → va_S (dkA z) s.heap H locs → dkF [(340, 340, 4, 4), (343, 343, 0, 359), (344, 344, 0, 39)] I0 I → dkOk I → dkN [(0, 40)] x129_6 → dkN [(0, 7)] p0 → dkN [(0, 40)] p1 → dkN [(0, 7)] p2 → dkN [(0, 40)] p3 → dkN [(0, 40)] p4 → p1.toInt + p4.toInt ≤ 40 → p3.toInt + p4.toInt ≤ 40 → lv_has ls 7 [(0, .ref (z + 340)), (1, .int p0), (2, .int p1), (3, .int p2), (4, .int p3), (5, .int p4), (6, .int x129_6)] → W p l e (headSpec wsX6_copy (dkR 2)).room s m args below meth c H locs 0 0 (MQ below (dkQi g z (fun r I1 => dkF [(340, 340, 4, 4), (343, 343, 0, 359), (344, 344, 0, 39)] I0 I1 ∧ dkOk I1 ∧ ((dkN [(-1000015, -1000015), (-1000012, -1000011), (-1000001, -1000001), (0, 40)] r ∧ True)))) args s 0 0 (dkA z)) (F0 m 129 ls []) := by
    intro n
    induction n with
    | zero => intro I H locs ls x129_6 hn; exact absurd hn (Nat.not_lt_zero _)
    | succ n ih129 =>
      intro I129_ H locs ls x129_6 hn129 hW hS hF_129 hO k129_0 r129_0 r129_1 r129_2 r129_3 r129_4 q129_0 q129_1 hl
      have hF := hF_129
      refine lv_iload hx hb dX6_copy_129 (lv_at hl 6 rfl) ?_
      refine lv_iload hx hb dX6_copy_131 (lv_at hl 5 rfl) ?_
      refine lv_icmp_ge (tgt := 164) hx hb dX6_copy_133 (by decide) (fun c3 => ?_) (fun c3 => ?_)
      ·
        refine lv_aload_n hx hb dX6_copy_164 rfl (lv_at hl 0 rfl) ?_
        refine lv_iload hx hb dX6_copy_165 (lv_at hl 5 rfl) ?_
        refine dk_Vi (As := [.int p4]) (rest := []) ⟨hx, hb, hml, hown, hts⟩ (c_X6_well_0 l g z I129_ p4 hO) (cwV 1 hts gX6_copy_X6_well rfl rfl rfl (by decide +kernel) ⟨Nat.le_of_ble_eq_true rfl, Nat.le_of_ble_eq_true rfl⟩) (dk_at340 hW) rfl hK hT hW hS rfl hl.1 rfl (Nat.le_of_ble_eq_true rfl) dX6_copy_167 ⟨Nat.zero_le _, Nat.zero_le _⟩ (fun v4 I4 H4 L4 hp4 hW hS => ?_)
        obtain ⟨hF4, hO, ev4, hc4⟩ := hp4
        have hF := dkF_call hF hF4 rfl
        obtain ⟨_, f4_340_4, -⟩ := hc4
        rw [ev4]
        exact W.iret (v := p4) hx hb hr (fun t ht hW9 => ⟨⟨p4, I4, rfl, ⟨hF, hO, ⟨dkN_sub r129_4 rfl, trivial⟩⟩, dkW_eq ht hW⟩, hS.F ht⟩) hS.2.2 dX6_copy_170
      ·
        have d5 : dkN [(1, 40)] p4 := dkN_le2 1 k129_0 r129_4 (dkc_nle c3) rfl
        have d6 : dkN [(0, 39)] x129_6 := dkN_le1 1 k129_0 r129_4 (dkc_nle c3) rfl
        refine lv_aload_n hx hb dX6_copy_136 rfl (lv_at hl 0 rfl) ?_
        refine dk_get (k := 340) hx hb hts iX6_copy_6 hown hK (dk_at340 hW) rfl 2 (by decide) (hts (.fieldLink RX6 16 "DogKingsModel" "items" "[I") (List.mem_of_getElem? (i := 4) rfl)) rfl dX6_copy_137 ?_
        refine lv_bipush (v := 40) hx hb dX6_copy_140 (by decide) ?_
        refine lv_iload_n hx hb dX6_copy_142 rfl (lv_at hl 3 rfl) ?_
        refine lv_imul hx hb dX6_copy_143 ?_
        refine lv_topi (fun v7 ev7 => ?_)
        have dv7 : dkN [(0, 280)] v7 := by rw [ev7]; exact dkN_mulL 40 (by decide) (dkN_lit (x := 40) (40) rfl) r129_2 rfl
        refine lv_iload hx hb dX6_copy_144 (lv_at hl 4 rfl) ?_
        refine lv_iadd hx hb dX6_copy_146 ?_
        refine lv_topi (fun v8 ev8 => ?_)
        have dv8 : dkN [(0, 320)] v8 := by rw [ev8]; exact dkN_add dv7 r129_3 rfl
        refine lv_iload hx hb dX6_copy_147 (lv_at hl 6 rfl) ?_
        refine lv_iadd hx hb dX6_copy_149 ?_
        refine lv_topi (fun v9 ev9 => ?_)
        have dv9 : dkN [(0, 359)] v9 := by rw [ev9]; exact dkN_add dv8 d6 rfl
        refine lv_aload_n hx hb dX6_copy_150 rfl (lv_at hl 0 rfl) ?_
        refine dk_get (k := 340) hx hb hts iX6_copy_6 hown hK (dk_at340 hW) rfl 3 (by decide) (hts (.fieldLink RX6 19 "DogKingsModel" "spare" "[I") (List.mem_of_getElem? (i := 3) rfl)) rfl dX6_copy_151 ?_
        refine lv_iload hx hb dX6_copy_154 (lv_at hl 6 rfl) ?_
        refine dk_ild (k := 344) hx hb hK (dk_at344 hW) (dkN_in (n := 40) d6 rfl) dX6_copy_156 ?_
        refine lv_topi (fun v10 ev10 => ?_)
        refine dk_ist (k := 343) hx hb hK hW (fun _ => rfl) (by decide) hS (dk_in320 ev7 ev8 ev9 r129_2 r129_3 d6 (dkc_nle c3) q129_1 rfl) dX6_copy_157 (fun I11 H11 L11 eI11 hW hS => ?_)
        have hO := dkO_set hO eI11 (dkN_sub (dkN_top v10) rfl)
        have hF := dkF_set hF eI11 (dkIn_v dv9 rfl)
        obtain ⟨v12, ev12⟩ : ∃ y : Int32, y = x129_6 + 1 := ⟨_, rfl⟩
        have dv12 : dkN [(1, 40)] v12 := by rw [ev12]; exact dkN_add d6 (dkN_lit (x := 1) (1) rfl) rfl
        refine lv_iinc (v := v12) (lv' := [(6, .int v12), (0, .ref (z + 340)), (1, .int p0), (2, .int p1), (3, .int p2), (4, .int p3), (5, .int p4)]) hx hb dX6_copy_158 hl (k := 6) rfl (by rw [ev12]; rfl) (by decide) rfl (fun ls hl => ?_)
        refine lv_goto (tgt := 129) hx hb dX6_copy_161 (by decide) ?_
        exact ih129 I11 _ _ ls v12 (dk_near hn129 (by rw [ev12]; exact dk_inc d6 rfl) (dkN_lt d6 rfl)) hW hS hF hO (dkN_sub dv12 rfl) (dkN_sub r129_0 rfl) (dkN_sub r129_1 rfl) (dkN_sub r129_2 rfl) (dkN_sub r129_3 rfl) (dkN_sub d5 rfl) q129_0 q129_1 (lv_sub hl [1, 2, 3, 4, 5, 6, 0] rfl)
  have C92 : ∀ (n : Nat), ∀ (I : dkI) (H : Heap) (locs : List Loc) (ls : Array Slot) (x92_6 : Int32), (40 - x92_6.toInt).toNat < n → dkW g z I H → va_S (dkA z) s.heap H locs → dkF [(340, 340, 4, 4), (343, 343, 0, 359), (344, 344, 0, 39)] I0 I → dkOk I → dkN [(0, 40)] x92_6 → dkN [(0, 7)] p0 → dkN [(0, 40)] p1 → dkN [(0, 7)] p2 → dkN [(0, 40)] p3 → dkN [(0, 40)] p4 → p1.toInt + p4.toInt ≤ 40 → p3.toInt + p4.toInt ≤ 40 → lv_has ls 7 [(0, .ref (z + 340)), (1, .int p0), (2, .int p1), (3, .int p2), (4, .int p3), (5, .int p4), (6, .int x92_6)] → W p l e (headSpec wsX6_copy (dkR 2)).room s m args below meth c H locs 0 0 (MQ below (dkQi g z (fun r I1 => dkF [(340, 340, 4, 4), (343, 343, 0, 359), (344, 344, 0, 39)] I0 I1 ∧ dkOk I1 ∧ ((dkN [(-1000015, -1000015), (-1000012, -1000011), (-1000001, -1000001), (0, 40)] r ∧ True)))) args s 0 0 (dkA z)) (F0 m 92 ls []) := by
    intro n
    induction n with
    | zero => intro I H locs ls x92_6 hn; exact absurd hn (Nat.not_lt_zero _)
    | succ n ih92 =>
      intro I92_ H locs ls x92_6 hn92 hW hS hF_92 hO k92_0 r92_0 r92_1 r92_2 r92_3 r92_4 q92_0 q92_1 hl
      have hF := hF_92
      refine lv_iload hx hb dX6_copy_92 (lv_at hl 6 rfl) ?_
      refine lv_iload hx hb dX6_copy_94 (lv_at hl 5 rfl) ?_
      refine lv_icmp_ge (tgt := 126) hx hb dX6_copy_96 (by decide) (fun c13 => ?_) (fun c13 => ?_)
      ·
        refine lv_iconst (v := 0) hx hb dX6_copy_126 (by decide) ?_
        refine lv_istore (lv' := [(6, .int 0), (0, .ref (z + 340)), (1, .int p0), (2, .int p1), (3, .int p2), (4, .int p3), (5, .int p4)]) hx hb dX6_copy_127 hl (by decide) rfl (fun ls hl => ?_)
        exact C129 _ I92_ _ _ ls 0 (Nat.lt_succ_self _) hW hS hF hO (dkN_sub (dkN_lit (x := 0) (0) rfl) rfl) (dkN_sub r92_0 rfl) (dkN_sub r92_1 rfl) (dkN_sub r92_2 rfl) (dkN_sub r92_3 rfl) (dkN_sub r92_4 rfl) q92_0 q92_1 (lv_sub hl [1, 2, 3, 4, 5, 6, 0] rfl)
      ·
        have d14 : dkN [(1, 40)] p4 := dkN_le2 1 k92_0 r92_4 (dkc_nle c13) rfl
        have d15 : dkN [(0, 39)] x92_6 := dkN_le1 1 k92_0 r92_4 (dkc_nle c13) rfl
        refine lv_aload_n hx hb dX6_copy_99 rfl (lv_at hl 0 rfl) ?_
        refine dk_get (k := 340) hx hb hts iX6_copy_6 hown hK (dk_at340 hW) rfl 3 (by decide) (hts (.fieldLink RX6 19 "DogKingsModel" "spare" "[I") (List.mem_of_getElem? (i := 3) rfl)) rfl dX6_copy_100 ?_
        refine lv_iload hx hb dX6_copy_103 (lv_at hl 6 rfl) ?_
        refine lv_aload_n hx hb dX6_copy_105 rfl (lv_at hl 0 rfl) ?_
        refine dk_get (k := 340) hx hb hts iX6_copy_6 hown hK (dk_at340 hW) rfl 2 (by decide) (hts (.fieldLink RX6 16 "DogKingsModel" "items" "[I") (List.mem_of_getElem? (i := 4) rfl)) rfl dX6_copy_106 ?_
        refine lv_bipush (v := 40) hx hb dX6_copy_109 (by decide) ?_
        refine lv_iload_n hx hb dX6_copy_111 rfl (lv_at hl 1 rfl) ?_
        refine lv_imul hx hb dX6_copy_112 ?_
        refine lv_topi (fun v16 ev16 => ?_)
        have dv16 : dkN [(0, 280)] v16 := by rw [ev16]; exact dkN_mulL 40 (by decide) (dkN_lit (x := 40) (40) rfl) r92_0 rfl
        refine lv_iload_n hx hb dX6_copy_113 rfl (lv_at hl 2 rfl) ?_
        refine lv_iadd hx hb dX6_copy_114 ?_
        refine lv_topi (fun v17 ev17 => ?_)
        have dv17 : dkN [(0, 320)] v17 := by rw [ev17]; exact dkN_add dv16 r92_1 rfl
        refine lv_iload hx hb dX6_copy_115 (lv_at hl 6 rfl) ?_
        refine lv_iadd hx hb dX6_copy_117 ?_
        refine lv_topi (fun v18 ev18 => ?_)
        have dv18 : dkN [(0, 359)] v18 := by rw [ev18]; exact dkN_add dv17 d15 rfl
        refine dk_ild (k := 343) hx hb hK (dk_at343 hW) (dk_in320 ev16 ev17 ev18 r92_0 r92_1 d15 (dkc_nle c13) q92_0 rfl) dX6_copy_118 ?_
        refine lv_topi (fun v19 ev19 => ?_)
        refine dk_ist (k := 344) hx hb hK hW (fun _ => rfl) (by decide) hS (dkN_in (n := 40) d15 rfl) dX6_copy_119 (fun I20 H20 L20 eI20 hW hS => ?_)
        have hO := dkO_set hO eI20 (dkN_sub (dkN_top v19) rfl)
        have hF := dkF_set hF eI20 (dkIn_v d15 rfl)
        obtain ⟨v21, ev21⟩ : ∃ y : Int32, y = x92_6 + 1 := ⟨_, rfl⟩
        have dv21 : dkN [(1, 40)] v21 := by rw [ev21]; exact dkN_add d15 (dkN_lit (x := 1) (1) rfl) rfl
        refine lv_iinc (v := v21) (lv' := [(6, .int v21), (0, .ref (z + 340)), (1, .int p0), (2, .int p1), (3, .int p2), (4, .int p3), (5, .int p4)]) hx hb dX6_copy_120 hl (k := 6) rfl (by rw [ev21]; rfl) (by decide) rfl (fun ls hl => ?_)
        refine lv_goto (tgt := 92) hx hb dX6_copy_123 (by decide) ?_
        exact ih92 I20 _ _ ls v21 (dk_near hn92 (by rw [ev21]; exact dk_inc d15 rfl) (dkN_lt d15 rfl)) hW hS hF hO (dkN_sub dv21 rfl) (dkN_sub r92_0 rfl) (dkN_sub r92_1 rfl) (dkN_sub r92_2 rfl) (dkN_sub r92_3 rfl) (dkN_sub d14 rfl) q92_0 q92_1 (lv_sub hl [1, 2, 3, 4, 5, 6, 0] rfl)
  refine lv_iload_n hx hb dX6_copy_0 rfl (lv_at hl 1 rfl) ?_
  refine dk_Si (As := [.int p0]) (rest := []) ⟨hx, hb, hml, hown, hts⟩ (c_X6_isRow_0 l g z I0 p0 hO) (va_cwS 1 hts gX6_copy_X6_isRow rfl rfl rfl (by decide +kernel) ⟨Nat.le_of_ble_eq_true rfl, Nat.le_of_ble_eq_true rfl⟩) hK hT hW hS rfl hl.1 rfl (Nat.le_of_ble_eq_true rfl) dX6_copy_1 ⟨Nat.zero_le _, Nat.zero_le _⟩ (fun v22 I22 H22 L22 hp22 hW hS => ?_)
  obtain ⟨hF22, hO, hc22⟩ := hp22
  have hF := dkF_call hF hF22 rfl
  rcases hc22 with ⟨dv22, a22_0, -⟩ | hc22
  ·
    have d23 : dkN [(-2147483648, -1), (8, 2147483647)] p0 := dkN_eq1 (dkN_top p0) a22_0 rfl rfl
    refine lv_if_eq (tgt := 14) hx hb dX6_copy_4 (by decide) (fun c24 => ?_) (fun c24 => ?_)
    ·
      refine lv_ldc (v := (-1000001)) hx hb hown (hts (.constant RX6 64 (-1000001)) (List.mem_of_getElem? (i := 1) rfl)) dX6_copy_14 ?_
      exact W.iret (v := (-1000001)) hx hb hr (fun t ht hW9 => ⟨⟨(-1000001), I22, rfl, ⟨hF, hO, ⟨dkN_sub (dkN_lit (x := (-1000001)) (-1000001) rfl) rfl, trivial⟩⟩, dkW_eq ht hW⟩, hS.F ht⟩) hS.2.2 dX6_copy_16
    ·
      exact (dkN_nil (show dkN [] v22 from dkN_ne1 (0) dv22 (dkN_lit (x := 0) (0) rfl) (dk_ne c24) rfl)).elim
  ·
    obtain ⟨dv22, a22_0, -⟩ := hc22
    have d25 : dkN [(0, 7)] p0 := dkN_eq1 (dkN_top p0) a22_0 rfl rfl
    refine lv_if_eq (tgt := 14) hx hb dX6_copy_4 (by decide) (fun c26 => ?_) (fun c26 => ?_)
    ·
      exact (dkN_nil (show dkN [] v22 from dkN_eq1 dv22 (dkN_lit (x := 0) (0) rfl) (congrArg Int32.toInt c26) rfl)).elim
    ·
      refine lv_iload_n hx hb dX6_copy_7 rfl (lv_at hl 3 rfl) ?_
      refine dk_Si (As := [.int p2]) (rest := []) ⟨hx, hb, hml, hown, hts⟩ (c_X6_isRow_0 l g z I22 p2 hO) (va_cwS 1 hts gX6_copy_X6_isRow rfl rfl rfl (by decide +kernel) ⟨Nat.le_of_ble_eq_true rfl, Nat.le_of_ble_eq_true rfl⟩) hK hT hW hS rfl hl.1 rfl (Nat.le_of_ble_eq_true rfl) dX6_copy_8 ⟨Nat.zero_le _, Nat.zero_le _⟩ (fun v27 I27 H27 L27 hp27 hW hS => ?_)
      obtain ⟨hF27, hO, hc27⟩ := hp27
      have hF := dkF_call hF hF27 rfl
      rcases hc27 with ⟨dv27, a27_0, -⟩ | hc27
      ·
        have d28 : dkN [(-2147483648, -1), (8, 2147483647)] p2 := dkN_eq1 (dkN_top p2) a27_0 rfl rfl
        refine lv_if_ne (tgt := 17) hx hb dX6_copy_11 (by decide) (fun c29 => ?_) (fun c29 => ?_)
        ·
          exact (dkN_nil (show dkN [] v27 from dkN_ne1 (0) dv27 (dkN_lit (x := 0) (0) rfl) (dk_ne c29) rfl)).elim
        ·
          refine lv_ldc (v := (-1000001)) hx hb hown (hts (.constant RX6 64 (-1000001)) (List.mem_of_getElem? (i := 1) rfl)) dX6_copy_14 ?_
          exact W.iret (v := (-1000001)) hx hb hr (fun t ht hW9 => ⟨⟨(-1000001), I27, rfl, ⟨hF, hO, ⟨dkN_sub (dkN_lit (x := (-1000001)) (-1000001) rfl) rfl, trivial⟩⟩, dkW_eq ht hW⟩, hS.F ht⟩) hS.2.2 dX6_copy_16
      ·
        obtain ⟨dv27, a27_0, -⟩ := hc27
        have d30 : dkN [(0, 7)] p2 := dkN_eq1 (dkN_top p2) a27_0 rfl rfl
        refine lv_if_ne (tgt := 17) hx hb dX6_copy_11 (by decide) (fun c31 => ?_) (fun c31 => ?_)
        ·
          refine lv_aload_n hx hb dX6_copy_17 rfl (lv_at hl 0 rfl) ?_
          refine lv_iload_n hx hb dX6_copy_18 rfl (lv_at hl 1 rfl) ?_
          refine dk_Vi (As := [.int p0]) (rest := []) ⟨hx, hb, hml, hown, hts⟩ (c_X6_isMissing_0 l g z I27 p0 d25 hO) (cwV 1 hts gX6_copy_X6_isMissing rfl rfl rfl (by decide +kernel) ⟨Nat.le_of_ble_eq_true rfl, Nat.le_of_ble_eq_true rfl⟩) (dk_at340 hW) rfl hK hT hW hS rfl hl.1 rfl (Nat.le_of_ble_eq_true rfl) dX6_copy_19 ⟨Nat.zero_le _, Nat.zero_le _⟩ (fun v32 I32 H32 L32 hp32 hW hS => ?_)
          obtain ⟨hF32, hO, hc32⟩ := hp32
          have hF := dkF_call hF hF32 rfl
          obtain ⟨dv32, -⟩ := hc32
          refine lv_if_ne (tgt := 33) hx hb dX6_copy_22 (by decide) (fun c33 => ?_) (fun c33 => ?_)
          ·
            have d34 : dkN [(1, 1)] v32 := dkN_ne1 (0) dv32 (dkN_lit (x := 0) (0) rfl) (dk_ne c33) rfl
            exact C33 I32 _ _ ls  hW hS hF hO (dkN_sub d25 rfl) (dkN_sub d30 rfl) (lv_sub hl [0, 1, 2, 3, 4, 5] rfl)
          ·
            have d35 : dkN [(0, 0)] v32 := dkN_eq1 dv32 (dkN_lit (x := 0) (0) rfl) (congrArg Int32.toInt c33) rfl
            refine lv_aload_n hx hb dX6_copy_25 rfl (lv_at hl 0 rfl) ?_
            refine lv_iload_n hx hb dX6_copy_26 rfl (lv_at hl 3 rfl) ?_
            refine dk_Vi (As := [.int p2]) (rest := []) ⟨hx, hb, hml, hown, hts⟩ (c_X6_isMissing_0 l g z I32 p2 d30 hO) (cwV 1 hts gX6_copy_X6_isMissing rfl rfl rfl (by decide +kernel) ⟨Nat.le_of_ble_eq_true rfl, Nat.le_of_ble_eq_true rfl⟩) (dk_at340 hW) rfl hK hT hW hS rfl hl.1 rfl (Nat.le_of_ble_eq_true rfl) dX6_copy_27 ⟨Nat.zero_le _, Nat.zero_le _⟩ (fun v36 I36 H36 L36 hp36 hW hS => ?_)
            obtain ⟨hF36, hO, hc36⟩ := hp36
            have hF := dkF_call hF hF36 rfl
            obtain ⟨dv36, -⟩ := hc36
            refine lv_if_eq (tgt := 39) hx hb dX6_copy_30 (by decide) (fun c37 => ?_) (fun c37 => ?_)
            ·
              have d38 : dkN [(0, 0)] v36 := dkN_eq1 dv36 (dkN_lit (x := 0) (0) rfl) (congrArg Int32.toInt c37) rfl
              refine lv_aload_n hx hb dX6_copy_39 rfl (lv_at hl 0 rfl) ?_
              refine dk_get (k := 340) hx hb hts iX6_copy_6 hown hK (dk_at340 hW) rfl 0 (by decide) (hts (.fieldLink RX6 7 "DogKingsModel" "lane" "[I") (List.mem_of_getElem? (i := 2) rfl)) rfl dX6_copy_40 ?_
              refine lv_iload_n hx hb dX6_copy_43 rfl (lv_at hl 1 rfl) ?_
              refine dk_ild (k := 341) hx hb hK (dk_at341 hW) (dkN_in (n := 8) d25 rfl) dX6_copy_44 ?_
              refine lv_topi (fun v39 ev39 => ?_)
              have dv39 : dkN [(-1000000, -1000000), (0, 2)] v39 := by rw [ev39]; exact (hO 341 _)
              refine lv_aload_n hx hb dX6_copy_45 rfl (lv_at hl 0 rfl) ?_
              refine dk_get (k := 340) hx hb hts iX6_copy_6 hown hK (dk_at340 hW) rfl 0 (by decide) (hts (.fieldLink RX6 7 "DogKingsModel" "lane" "[I") (List.mem_of_getElem? (i := 2) rfl)) rfl dX6_copy_46 ?_
              refine lv_iload_n hx hb dX6_copy_49 rfl (lv_at hl 3 rfl) ?_
              refine dk_ild (k := 341) hx hb hK (dk_at341 hW) (dkN_in (n := 8) d30 rfl) dX6_copy_50 ?_
              refine lv_topi (fun v40 ev40 => ?_)
              have dv40 : dkN [(-1000000, -1000000), (0, 2)] v40 := by rw [ev40]; exact (hO 341 _)
              refine lv_icmp_eq (tgt := 60) hx hb dX6_copy_51 (by decide) (fun c41 => ?_) (fun c41 => ?_)
              ·
                refine lv_aload_n hx hb dX6_copy_60 rfl (lv_at hl 0 rfl) ?_
                refine lv_iload_n hx hb dX6_copy_61 rfl (lv_at hl 1 rfl) ?_
                refine lv_iload_n hx hb dX6_copy_62 rfl (lv_at hl 2 rfl) ?_
                refine lv_iload hx hb dX6_copy_63 (lv_at hl 5 rfl) ?_
                refine dk_Vi (As := [.int p0, .int p1, .int p4]) (rest := []) ⟨hx, hb, hml, hown, hts⟩ (c_X6_isPart_0 l g z I36 p0 p1 p4 d25 hO) (cwV 3 hts gX6_copy_X6_isPart rfl rfl rfl (by decide +kernel) ⟨Nat.le_of_ble_eq_true rfl, Nat.le_of_ble_eq_true rfl⟩) (dk_at340 hW) rfl hK hT hW hS rfl hl.1 rfl (Nat.le_of_ble_eq_true rfl) dX6_copy_65 ⟨Nat.zero_le _, Nat.zero_le _⟩ (fun v42 I42 H42 L42 hp42 hW hS => ?_)
                obtain ⟨hF42, hO, hc42⟩ := hp42
                have hF := dkF_call hF hF42 rfl
                rcases hc42 with ⟨dv42, -⟩ | hc42
                ·
                  refine lv_if_eq (tgt := 83) hx hb dX6_copy_68 (by decide) (fun c43 => ?_) (fun c43 => ?_)
                  ·
                    exact C83 I42 _ _ ls  hW hS hF hO (dkN_sub d25 rfl) (dkN_sub d30 rfl) (lv_sub hl [0, 1, 2, 3, 4, 5] rfl)
                  ·
                    exact (dkN_nil (show dkN [] v42 from dkN_ne1 (0) dv42 (dkN_lit (x := 0) (0) rfl) (dk_ne c43) rfl)).elim
                ·
                  obtain ⟨dv42, a42_1, a42_2, q42_0, -⟩ := hc42
                  have d44 : dkN [(0, 40)] p1 := dkN_eq1 (dkN_top p1) a42_1 rfl rfl
                  have d45 : dkN [(0, 40)] p4 := dkN_eq1 (dkN_top p4) a42_2 rfl rfl
                  refine lv_if_eq (tgt := 83) hx hb dX6_copy_68 (by decide) (fun c46 => ?_) (fun c46 => ?_)
                  ·
                    exact (dkN_nil (show dkN [] v42 from dkN_eq1 dv42 (dkN_lit (x := 0) (0) rfl) (congrArg Int32.toInt c46) rfl)).elim
                  ·
                    refine lv_aload_n hx hb dX6_copy_71 rfl (lv_at hl 0 rfl) ?_
                    refine lv_iload_n hx hb dX6_copy_72 rfl (lv_at hl 3 rfl) ?_
                    refine lv_iload hx hb dX6_copy_73 (lv_at hl 4 rfl) ?_
                    refine lv_iload hx hb dX6_copy_75 (lv_at hl 5 rfl) ?_
                    refine dk_Vi (As := [.int p2, .int p3, .int p4]) (rest := []) ⟨hx, hb, hml, hown, hts⟩ (c_X6_isPart_1 l g z I42 p2 p3 p4 d30 d45 hO) (cwV 3 hts gX6_copy_X6_isPart rfl rfl rfl (by decide +kernel) ⟨Nat.le_of_ble_eq_true rfl, Nat.le_of_ble_eq_true rfl⟩) (dk_at340 hW) rfl hK hT hW hS rfl hl.1 rfl (Nat.le_of_ble_eq_true rfl) dX6_copy_77 ⟨Nat.zero_le _, Nat.zero_le _⟩ (fun v47 I47 H47 L47 hp47 hW hS => ?_)
                    obtain ⟨hF47, hO, hc47⟩ := hp47
                    have hF := dkF_call hF hF47 rfl
                    rcases hc47 with ⟨dv47, -⟩ | hc47
                    ·
                      refine lv_if_ne (tgt := 89) hx hb dX6_copy_80 (by decide) (fun c48 => ?_) (fun c48 => ?_)
                      ·
                        exact (dkN_nil (show dkN [] v47 from dkN_ne1 (0) dv47 (dkN_lit (x := 0) (0) rfl) (dk_ne c48) rfl)).elim
                      ·
                        exact C83 I47 _ _ ls  hW hS hF hO (dkN_sub d25 rfl) (dkN_sub d30 rfl) (lv_sub hl [0, 1, 2, 3, 4, 5] rfl)
                    ·
                      obtain ⟨dv47, a47_1, q47_0, -⟩ := hc47
                      have d49 : dkN [(0, 40)] p3 := dkN_eq1 (dkN_top p3) a47_1 rfl rfl
                      refine lv_if_ne (tgt := 89) hx hb dX6_copy_80 (by decide) (fun c50 => ?_) (fun c50 => ?_)
                      ·
                        refine lv_iconst (v := 0) hx hb dX6_copy_89 (by decide) ?_
                        refine lv_istore (lv' := [(6, .int 0), (0, .ref (z + 340)), (1, .int p0), (2, .int p1), (3, .int p2), (4, .int p3), (5, .int p4)]) hx hb dX6_copy_90 hl (by decide) rfl (fun ls hl => ?_)
                        exact C92 _ I47 _ _ ls 0 (Nat.lt_succ_self _) hW hS hF hO (dkN_sub (dkN_lit (x := 0) (0) rfl) rfl) (dkN_sub d25 rfl) (dkN_sub d44 rfl) (dkN_sub d30 rfl) (dkN_sub d49 rfl) (dkN_sub d45 rfl) q42_0 q47_0 (lv_sub hl [1, 2, 3, 4, 5, 6, 0] rfl)
                      ·
                        exact (dkN_nil (show dkN [] v47 from dkN_eq1 dv47 (dkN_lit (x := 0) (0) rfl) (congrArg Int32.toInt c50) rfl)).elim
              ·
                refine lv_aload_n hx hb dX6_copy_54 rfl (lv_at hl 0 rfl) ?_
                refine lv_iconst (v := 5) hx hb dX6_copy_55 (by decide) ?_
                refine dk_Vi (As := [.int 5]) (rest := []) ⟨hx, hb, hml, hown, hts⟩ (c_X6_found_3 l g z I36 5 (dkN_lit (x := 5) (5) rfl) hO) (cwV 1 hts gX6_copy_X6_found rfl rfl rfl (by decide +kernel) ⟨Nat.le_of_ble_eq_true rfl, Nat.le_of_ble_eq_true rfl⟩) (dk_at340 hW) rfl hK hT hW hS rfl hl.1 rfl (Nat.le_of_ble_eq_true rfl) dX6_copy_56 ⟨Nat.zero_le _, Nat.zero_le _⟩ (fun v51 I51 H51 L51 hp51 hW hS => ?_)
                obtain ⟨hF51, hO, hc51⟩ := hp51
                have hF := dkF_call hF hF51 rfl
                obtain ⟨dv51, f51_340_4, -⟩ := hc51
                exact W.iret (v := v51) hx hb hr (fun t ht hW9 => ⟨⟨v51, I51, rfl, ⟨hF, hO, ⟨dkN_sub dv51 rfl, trivial⟩⟩, dkW_eq ht hW⟩, hS.F ht⟩) hS.2.2 dX6_copy_59
            ·
              have d52 : dkN [(1, 1)] v36 := dkN_ne1 (0) dv36 (dkN_lit (x := 0) (0) rfl) (dk_ne c37) rfl
              exact C33 I36 _ _ ls  hW hS hF hO (dkN_sub d25 rfl) (dkN_sub d30 rfl) (lv_sub hl [0, 1, 2, 3, 4, 5] rfl)
        ·
          exact (dkN_nil (show dkN [] v27 from dkN_eq1 dv27 (dkN_lit (x := 0) (0) rfl) (congrArg Int32.toInt c31) rfl)).elim
set_option maxHeartbeats 4000000 in
set_option maxRecDepth 100000 in
theorem c_X5_drop_0 (l : Launch) (g : dkG) (z : Nat) (I0 : dkI) (p0 : Int32)  (hO : dkOk I0) : Met l yX5_drop wsX5_drop (dkR 2) (dkPc g z [.ref (z + 0), .int p0] I0) (dkQi g z (fun r I1 => dkF [(0, 0, 3, 3), (11, 11, 0, 7)] I0 I1 ∧ dkOk I1 ∧ ((dkN [(-1000011, -1000011)] r ∧ dkN [(0, 7)] p0 ∧ dkN [(1, 1)] (I1 0 3) ∧ True) ∨ (dkN [(-1000001, -1000001)] r ∧ dkN [(-2147483648, -1), (8, 2147483647)] p0 ∧ True) ∨ (dkN [(-1, 40)] r ∧ dkN [(0, 7)] p0 ∧ dkN [(0, 0)] (I1 0 3) ∧ True)))) 0 0 (dkA z) := by
  refine Met.ofW (cc := cX5_drop) (maxL := 3) (ret := (some .int)) (by decide) rfl ?_
  intro p e s m args below meth c s₁ B hml hv
  obtain ⟨ha, hW, hK, hT⟩ := hv
  have hx := B.exec
  have hb := B.bytes
  have hr := B.returns
  have hts := atoms_spec (ws := wsX5_drop) B.pre
  have hown : s.vm.findClass RX5 = some m.cls := findClass_of_methodNamed B.named
  have hlocks := B.notSynchronized
  have hS : va_S (dkA z) s.heap s.heap [] := va_S.rf
  have hF : dkF [(0, 0, 3, 3), (11, 11, 0, 7)] I0 I0 := dkF_rf _ _
  have hl := lv_entry ([.ref (z + 0), .int p0]) (n := 3) (Nat.le_of_ble_eq_true rfl)
  have hgo : entryFrame m args 3 = entryFrame m ([.ref (z + 0), .int p0] : List Value).toArray 3 := by rw [ha]
  rw [hgo, lg_entry_eq]
  generalize (lg_sl ([.ref (z + 0), .int p0]) ++ List.replicate (3 - (lg_sl ([.ref (z + 0), .int p0])).length) Slot.unset).toArray = ls at hl ⊢
  have hl : lv_has ls 3 [(0, .ref (z + 0)), (1, .int p0)] := hl
  refine lv_iload_n hx hb dX5_drop_0 rfl (lv_at hl 1 rfl) ?_
  refine dk_Si (As := [.int p0]) (rest := []) ⟨hx, hb, hml, hown, hts⟩ (c_X5_isRow_0 l g z I0 p0 hO) (va_cwS 1 hts gX5_drop_X5_isRow rfl rfl rfl (by decide +kernel) ⟨Nat.le_of_ble_eq_true rfl, Nat.le_of_ble_eq_true rfl⟩) hK hT hW hS rfl hl.1 rfl (Nat.le_of_ble_eq_true rfl) dX5_drop_1 ⟨Nat.zero_le _, Nat.zero_le _⟩ (fun v1 I1 H1 L1 hp1 hW hS => ?_)
  obtain ⟨hF1, hO, hc1⟩ := hp1
  have hF := dkF_call hF hF1 rfl
  rcases hc1 with ⟨dv1, a1_0, -⟩ | hc1
  ·
    have d2 : dkN [(-2147483648, -1), (8, 2147483647)] p0 := dkN_eq1 (dkN_top p0) a1_0 rfl rfl
    refine lv_if_ne (tgt := 10) hx hb dX5_drop_4 (by decide) (fun c3 => ?_) (fun c3 => ?_)
    ·
      exact (dkN_nil (show dkN [] v1 from dkN_ne1 (0) dv1 (dkN_lit (x := 0) (0) rfl) (dk_ne c3) rfl)).elim
    ·
      refine lv_ldc (v := (-1000001)) hx hb hown (hts (.constant RX5 70 (-1000001)) (List.mem_of_getElem? (i := 1) rfl)) dX5_drop_7 ?_
      exact W.iret (v := (-1000001)) hx hb hr (fun t ht hW9 => ⟨⟨(-1000001), I1, rfl, ⟨hF, hO, Or.inr (Or.inl ⟨dkN_sub (dkN_lit (x := (-1000001)) (-1000001) rfl) rfl, dkN_sub d2 rfl, trivial⟩)⟩, dkW_eq ht hW⟩, hS.F ht⟩) hS.2.2 dX5_drop_9
  ·
    obtain ⟨dv1, a1_0, -⟩ := hc1
    have d4 : dkN [(0, 7)] p0 := dkN_eq1 (dkN_top p0) a1_0 rfl rfl
    refine lv_if_ne (tgt := 10) hx hb dX5_drop_4 (by decide) (fun c5 => ?_) (fun c5 => ?_)
    ·
      refine lv_aload_n hx hb dX5_drop_10 rfl (lv_at hl 0 rfl) ?_
      refine lv_iload_n hx hb dX5_drop_11 rfl (lv_at hl 1 rfl) ?_
      refine dk_Vi (As := [.int p0]) (rest := []) ⟨hx, hb, hml, hown, hts⟩ (c_X5_isMissing_0 l g z I1 p0 d4 hO) (cwV 1 hts gX5_drop_X5_isMissing rfl rfl rfl (by decide +kernel) ⟨Nat.le_of_ble_eq_true rfl, Nat.le_of_ble_eq_true rfl⟩) (dk_at0 hW) rfl hK hT hW hS rfl hl.1 rfl (Nat.le_of_ble_eq_true rfl) dX5_drop_12 ⟨Nat.zero_le _, Nat.zero_le _⟩ (fun v6 I6 H6 L6 hp6 hW hS => ?_)
      obtain ⟨hF6, hO, hc6⟩ := hp6
      have hF := dkF_call hF hF6 rfl
      obtain ⟨dv6, -⟩ := hc6
      refine lv_if_eq (tgt := 24) hx hb dX5_drop_15 (by decide) (fun c7 => ?_) (fun c7 => ?_)
      ·
        have d8 : dkN [(0, 0)] v6 := dkN_eq1 dv6 (dkN_lit (x := 0) (0) rfl) (congrArg Int32.toInt c7) rfl
        refine lv_aload_n hx hb dX5_drop_24 rfl (lv_at hl 0 rfl) ?_
        refine dk_get (k := 0) hx hb hts iX5_drop_5 hown hK (dk_at0 hW) rfl 2 (by decide) (hts (.fieldLink RX5 18 "DogKings" "sizes" "[I") (List.mem_of_getElem? (i := 2) rfl)) rfl dX5_drop_25 ?_
        refine lv_iload_n hx hb dX5_drop_28 rfl (lv_at hl 1 rfl) ?_
        refine dk_ild (k := 11) hx hb hK (dk_at11 hW) (dkN_in (n := 8) d4 rfl) dX5_drop_29 ?_
        refine lv_topi (fun v9 ev9 => ?_)
        have dv9 : dkN [(-1, 40)] v9 := by rw [ev9]; exact (hO 11 _)
        refine lv_istore_n (lv' := [(2, .int v9), (0, .ref (z + 0)), (1, .int p0)]) hx hb dX5_drop_30 rfl hl (by decide) rfl (fun ls hl => ?_)
        refine lv_aload_n hx hb dX5_drop_31 rfl (lv_at hl 1 rfl) ?_
        refine dk_get (k := 0) hx hb hts iX5_drop_5 hown hK (dk_at0 hW) rfl 2 (by decide) (hts (.fieldLink RX5 18 "DogKings" "sizes" "[I") (List.mem_of_getElem? (i := 2) rfl)) rfl dX5_drop_32 ?_
        refine lv_iload_n hx hb dX5_drop_35 rfl (lv_at hl 2 rfl) ?_
        refine lv_iconst (v := (-1)) hx hb dX5_drop_36 (by decide) ?_
        refine dk_ist (k := 11) hx hb hK hW (fun _ => rfl) (by decide) hS (dkN_in (n := 8) d4 rfl) dX5_drop_37 (fun I10 H10 L10 eI10 hW hS => ?_)
        have hO := dkO_set hO eI10 (dkN_sub (dkN_lit (x := (-1)) (-1) rfl) rfl)
        have hF := dkF_set hF eI10 (dkIn_v d4 rfl)
        refine lv_aload_n hx hb dX5_drop_38 rfl (lv_at hl 1 rfl) ?_
        refine lv_iload_n hx hb dX5_drop_39 rfl (lv_at hl 0 rfl) ?_
        refine dk_Vi (As := [.int v9]) (rest := []) ⟨hx, hb, hml, hown, hts⟩ (c_X5_nothingFound_0 l g z I10 v9 hO) (cwV 1 hts gX5_drop_X5_nothingFound rfl rfl rfl (by decide +kernel) ⟨Nat.le_of_ble_eq_true rfl, Nat.le_of_ble_eq_true rfl⟩) (dk_at0 hW) rfl hK hT hW hS rfl hl.1 rfl (Nat.le_of_ble_eq_true rfl) dX5_drop_40 ⟨Nat.zero_le _, Nat.zero_le _⟩ (fun v11 I11 H11 L11 hp11 hW hS => ?_)
        obtain ⟨hF11, hO, ev11, hc11⟩ := hp11
        have hF := dkF_call hF hF11 rfl
        obtain ⟨_, f11_0_3, -⟩ := hc11
        rw [ev11]
        exact W.iret (v := v9) hx hb hr (fun t ht hW9 => ⟨⟨v9, I11, rfl, ⟨hF, hO, Or.inr (Or.inr (⟨dkN_sub dv9 rfl, dkN_sub d4 rfl, (show dkN [(0, 0)] (I11 0 3) from dkN_sub f11_0_3 rfl), trivial⟩))⟩, dkW_eq ht hW⟩, hS.F ht⟩) hS.2.2 dX5_drop_43
      ·
        have d12 : dkN [(1, 1)] v6 := dkN_ne1 (0) dv6 (dkN_lit (x := 0) (0) rfl) (dk_ne c7) rfl
        refine lv_aload_n hx hb dX5_drop_18 rfl (lv_at hl 0 rfl) ?_
        refine lv_iconst (v := 1) hx hb dX5_drop_19 (by decide) ?_
        refine dk_Vi (As := [.int 1]) (rest := []) ⟨hx, hb, hml, hown, hts⟩ (c_X5_found_1 l g z I6 1 (dkN_lit (x := 1) (1) rfl) hO) (cwV 1 hts gX5_drop_X5_found rfl rfl rfl (by decide +kernel) ⟨Nat.le_of_ble_eq_true rfl, Nat.le_of_ble_eq_true rfl⟩) (dk_at0 hW) rfl hK hT hW hS rfl hl.1 rfl (Nat.le_of_ble_eq_true rfl) dX5_drop_20 ⟨Nat.zero_le _, Nat.zero_le _⟩ (fun v13 I13 H13 L13 hp13 hW hS => ?_)
        obtain ⟨hF13, hO, hc13⟩ := hp13
        have hF := dkF_call hF hF13 rfl
        obtain ⟨dv13, f13_0_3, -⟩ := hc13
        exact W.iret (v := v13) hx hb hr (fun t ht hW9 => ⟨⟨v13, I13, rfl, ⟨hF, hO, Or.inl ⟨dkN_sub dv13 rfl, dkN_sub d4 rfl, (show dkN [(1, 1)] (I13 0 3) from dkN_sub f13_0_3 rfl), trivial⟩⟩, dkW_eq ht hW⟩, hS.F ht⟩) hS.2.2 dX5_drop_23
    ·
      exact (dkN_nil (show dkN [] v1 from dkN_eq1 dv1 (dkN_lit (x := 0) (0) rfl) (congrArg Int32.toInt c5) rfl)).elim
set_option maxHeartbeats 4000000 in
set_option maxRecDepth 100000 in
theorem c_X6_drop_0 (l : Launch) (g : dkG) (z : Nat) (I0 : dkI) (p0 : Int32)  (hO : dkOk I0) : Met l yX6_drop wsX6_drop (dkR 2) (dkPc g z [.ref (z + 340), .int p0] I0) (dkQi g z (fun r I1 => dkF [(340, 340, 4, 4), (341, 341, 0, 7)] I0 I1 ∧ dkOk I1 ∧ ((dkN [(-1000011, -1000011)] r ∧ dkN [(0, 7)] p0 ∧ dkN [(1, 1)] (I1 340 4) ∧ True) ∨ (dkN [(-1000001, -1000001)] r ∧ dkN [(-2147483648, -1), (8, 2147483647)] p0 ∧ True) ∨ (dkN [(0, 40)] r ∧ dkN [(0, 7)] p0 ∧ dkN [(0, 0)] (I1 340 4) ∧ True)))) 0 0 (dkA z) := by
  refine Met.ofW (cc := cX6_drop) (maxL := 2) (ret := (some .int)) (by decide) rfl ?_
  intro p e s m args below meth c s₁ B hml hv
  obtain ⟨ha, hW, hK, hT⟩ := hv
  have hx := B.exec
  have hb := B.bytes
  have hr := B.returns
  have hts := atoms_spec (ws := wsX6_drop) B.pre
  have hown : s.vm.findClass RX6 = some m.cls := findClass_of_methodNamed B.named
  have hlocks := B.notSynchronized
  have hS : va_S (dkA z) s.heap s.heap [] := va_S.rf
  have hF : dkF [(340, 340, 4, 4), (341, 341, 0, 7)] I0 I0 := dkF_rf _ _
  have hl := lv_entry ([.ref (z + 340), .int p0]) (n := 2) (Nat.le_of_ble_eq_true rfl)
  have hgo : entryFrame m args 2 = entryFrame m ([.ref (z + 340), .int p0] : List Value).toArray 2 := by rw [ha]
  rw [hgo, lg_entry_eq]
  generalize (lg_sl ([.ref (z + 340), .int p0]) ++ List.replicate (2 - (lg_sl ([.ref (z + 340), .int p0])).length) Slot.unset).toArray = ls at hl ⊢
  have hl : lv_has ls 2 [(0, .ref (z + 340)), (1, .int p0)] := hl
  refine lv_iload_n hx hb dX6_drop_0 rfl (lv_at hl 1 rfl) ?_
  refine dk_Si (As := [.int p0]) (rest := []) ⟨hx, hb, hml, hown, hts⟩ (c_X6_isRow_0 l g z I0 p0 hO) (va_cwS 1 hts gX6_drop_X6_isRow rfl rfl rfl (by decide +kernel) ⟨Nat.le_of_ble_eq_true rfl, Nat.le_of_ble_eq_true rfl⟩) hK hT hW hS rfl hl.1 rfl (Nat.le_of_ble_eq_true rfl) dX6_drop_1 ⟨Nat.zero_le _, Nat.zero_le _⟩ (fun v1 I1 H1 L1 hp1 hW hS => ?_)
  obtain ⟨hF1, hO, hc1⟩ := hp1
  have hF := dkF_call hF hF1 rfl
  rcases hc1 with ⟨dv1, a1_0, -⟩ | hc1
  ·
    have d2 : dkN [(-2147483648, -1), (8, 2147483647)] p0 := dkN_eq1 (dkN_top p0) a1_0 rfl rfl
    refine lv_if_ne (tgt := 10) hx hb dX6_drop_4 (by decide) (fun c3 => ?_) (fun c3 => ?_)
    ·
      exact (dkN_nil (show dkN [] v1 from dkN_ne1 (0) dv1 (dkN_lit (x := 0) (0) rfl) (dk_ne c3) rfl)).elim
    ·
      refine lv_ldc (v := (-1000001)) hx hb hown (hts (.constant RX6 64 (-1000001)) (List.mem_of_getElem? (i := 1) rfl)) dX6_drop_7 ?_
      exact W.iret (v := (-1000001)) hx hb hr (fun t ht hW9 => ⟨⟨(-1000001), I1, rfl, ⟨hF, hO, Or.inr (Or.inl ⟨dkN_sub (dkN_lit (x := (-1000001)) (-1000001) rfl) rfl, dkN_sub d2 rfl, trivial⟩)⟩, dkW_eq ht hW⟩, hS.F ht⟩) hS.2.2 dX6_drop_9
  ·
    obtain ⟨dv1, a1_0, -⟩ := hc1
    have d4 : dkN [(0, 7)] p0 := dkN_eq1 (dkN_top p0) a1_0 rfl rfl
    refine lv_if_ne (tgt := 10) hx hb dX6_drop_4 (by decide) (fun c5 => ?_) (fun c5 => ?_)
    ·
      refine lv_aload_n hx hb dX6_drop_10 rfl (lv_at hl 0 rfl) ?_
      refine lv_iload_n hx hb dX6_drop_11 rfl (lv_at hl 1 rfl) ?_
      refine dk_Vi (As := [.int p0]) (rest := []) ⟨hx, hb, hml, hown, hts⟩ (c_X6_isMissing_0 l g z I1 p0 d4 hO) (cwV 1 hts gX6_drop_X6_isMissing rfl rfl rfl (by decide +kernel) ⟨Nat.le_of_ble_eq_true rfl, Nat.le_of_ble_eq_true rfl⟩) (dk_at340 hW) rfl hK hT hW hS rfl hl.1 rfl (Nat.le_of_ble_eq_true rfl) dX6_drop_12 ⟨Nat.zero_le _, Nat.zero_le _⟩ (fun v6 I6 H6 L6 hp6 hW hS => ?_)
      obtain ⟨hF6, hO, hc6⟩ := hp6
      have hF := dkF_call hF hF6 rfl
      obtain ⟨dv6, -⟩ := hc6
      refine lv_if_eq (tgt := 24) hx hb dX6_drop_15 (by decide) (fun c7 => ?_) (fun c7 => ?_)
      ·
        have d8 : dkN [(0, 0)] v6 := dkN_eq1 dv6 (dkN_lit (x := 0) (0) rfl) (congrArg Int32.toInt c7) rfl
        refine lv_aload_n hx hb dX6_drop_24 rfl (lv_at hl 0 rfl) ?_
        refine dk_get (k := 340) hx hb hts iX6_drop_6 hown hK (dk_at340 hW) rfl 0 (by decide) (hts (.fieldLink RX6 7 "DogKingsModel" "lane" "[I") (List.mem_of_getElem? (i := 2) rfl)) rfl dX6_drop_25 ?_
        refine lv_iload_n hx hb dX6_drop_28 rfl (lv_at hl 1 rfl) ?_
        refine lv_ldc (v := (-1000000)) hx hb hown (hts (.constant RX6 50 (-1000000)) (List.mem_of_getElem? (i := 3) rfl)) dX6_drop_29 ?_
        refine dk_ist (k := 341) hx hb hK hW (fun _ => rfl) (by decide) hS (dkN_in (n := 8) d4 rfl) dX6_drop_31 (fun I9 H9 L9 eI9 hW hS => ?_)
        have hO := dkO_set hO eI9 (dkN_sub (dkN_lit (x := (-1000000)) (-1000000) rfl) rfl)
        have hF := dkF_set hF eI9 (dkIn_v d4 rfl)
        refine lv_aload_n hx hb dX6_drop_32 rfl (lv_at hl 0 rfl) ?_
        refine lv_aload_n hx hb dX6_drop_33 rfl (lv_at hl 0 rfl) ?_
        refine dk_get (k := 340) hx hb hts iX6_drop_6 hown hK (dk_at340 hW) rfl 1 (by decide) (hts (.fieldLink RX6 13 "DogKingsModel" "many" "[I") (List.mem_of_getElem? (i := 4) rfl)) rfl dX6_drop_34 ?_
        refine lv_iload_n hx hb dX6_drop_37 rfl (lv_at hl 1 rfl) ?_
        refine dk_ild (k := 342) hx hb hK (dk_at342 hW) (dkN_in (n := 8) d4 rfl) dX6_drop_38 ?_
        refine lv_topi (fun v10 ev10 => ?_)
        have dv10 : dkN [(0, 40)] v10 := by rw [ev10]; exact (hO 342 _)
        refine dk_Vi (As := [.int v10]) (rest := []) ⟨hx, hb, hml, hown, hts⟩ (c_X6_well_0 l g z I9 v10 hO) (cwV 1 hts gX6_drop_X6_well rfl rfl rfl (by decide +kernel) ⟨Nat.le_of_ble_eq_true rfl, Nat.le_of_ble_eq_true rfl⟩) (dk_at340 hW) rfl hK hT hW hS rfl hl.1 rfl (Nat.le_of_ble_eq_true rfl) dX6_drop_39 ⟨Nat.zero_le _, Nat.zero_le _⟩ (fun v11 I11 H11 L11 hp11 hW hS => ?_)
        obtain ⟨hF11, hO, ev11, hc11⟩ := hp11
        have hF := dkF_call hF hF11 rfl
        obtain ⟨_, f11_340_4, -⟩ := hc11
        rw [ev11]
        exact W.iret (v := v10) hx hb hr (fun t ht hW9 => ⟨⟨v10, I11, rfl, ⟨hF, hO, Or.inr (Or.inr (⟨dkN_sub dv10 rfl, dkN_sub d4 rfl, (show dkN [(0, 0)] (I11 340 4) from dkN_sub f11_340_4 rfl), trivial⟩))⟩, dkW_eq ht hW⟩, hS.F ht⟩) hS.2.2 dX6_drop_42
      ·
        have d12 : dkN [(1, 1)] v6 := dkN_ne1 (0) dv6 (dkN_lit (x := 0) (0) rfl) (dk_ne c7) rfl
        refine lv_aload_n hx hb dX6_drop_18 rfl (lv_at hl 0 rfl) ?_
        refine lv_iconst (v := 1) hx hb dX6_drop_19 (by decide) ?_
        refine dk_Vi (As := [.int 1]) (rest := []) ⟨hx, hb, hml, hown, hts⟩ (c_X6_found_2 l g z I6 1 (dkN_lit (x := 1) (1) rfl) hO) (cwV 1 hts gX6_drop_X6_found rfl rfl rfl (by decide +kernel) ⟨Nat.le_of_ble_eq_true rfl, Nat.le_of_ble_eq_true rfl⟩) (dk_at340 hW) rfl hK hT hW hS rfl hl.1 rfl (Nat.le_of_ble_eq_true rfl) dX6_drop_20 ⟨Nat.zero_le _, Nat.zero_le _⟩ (fun v13 I13 H13 L13 hp13 hW hS => ?_)
        obtain ⟨hF13, hO, hc13⟩ := hp13
        have hF := dkF_call hF hF13 rfl
        obtain ⟨dv13, f13_340_4, -⟩ := hc13
        exact W.iret (v := v13) hx hb hr (fun t ht hW9 => ⟨⟨v13, I13, rfl, ⟨hF, hO, Or.inl ⟨dkN_sub dv13 rfl, dkN_sub d4 rfl, (show dkN [(1, 1)] (I13 340 4) from dkN_sub f13_340_4 rfl), trivial⟩⟩, dkW_eq ht hW⟩, hS.F ht⟩) hS.2.2 dX6_drop_23
    ·
      exact (dkN_nil (show dkN [] v1 from dkN_eq1 dv1 (dkN_lit (x := 0) (0) rfl) (congrArg Int32.toInt c5) rfl)).elim
set_option maxHeartbeats 4000000 in
set_option maxRecDepth 100000 in
theorem c_X5_isUpTo_2 (l : Launch) (g : dkG) (z : Nat) (I0 : dkI) (p0 : Int32) (p1 : Int32) (dp1 : dkN [(255, 255)] p1)  (hO : dkOk I0) : Met l yX5_isUpTo wsX5_isUpTo (dkR 0) (dkPc g z [.int p0, .int p1] I0) (dkQi g z (fun r I1 => dkF [] I0 I1 ∧ dkOk I1 ∧ ((dkN [(0, 0)] r ∧ dkN [(-2147483648, -1), (256, 2147483647)] p0 ∧ True) ∨ (dkN [(1, 1)] r ∧ dkN [(0, 255)] p0 ∧ True)))) 0 0 (dkA z) := by
  refine Met.ofW (cc := cX5_isUpTo) (maxL := 2) (ret := (some .boolean)) (by decide) rfl ?_
  intro p e s m args below meth c s₁ B hml hv
  obtain ⟨ha, hW, hK, hT⟩ := hv
  have hx := B.exec
  have hb := B.bytes
  have hr := B.returns
  have hts := atoms_spec (ws := wsX5_isUpTo) B.pre
  have hown : s.vm.findClass RX5 = some m.cls := findClass_of_methodNamed B.named
  have hlocks := B.notSynchronized
  have hS : va_S (dkA z) s.heap s.heap [] := va_S.rf
  have hF : dkF [] I0 I0 := dkF_rf _ _
  have hl := lv_entry ([.int p0, .int p1]) (n := 2) (Nat.le_of_ble_eq_true rfl)
  have hgo : entryFrame m args 2 = entryFrame m ([.int p0, .int p1] : List Value).toArray 2 := by rw [ha]
  rw [hgo, lg_entry_eq]
  generalize (lg_sl ([.int p0, .int p1]) ++ List.replicate (2 - (lg_sl ([.int p0, .int p1])).length) Slot.unset).toArray = ls at hl ⊢
  have hl : lv_has ls 2 [(0, .int p0), (1, .int p1)] := hl
  refine lv_iload_n hx hb dX5_isUpTo_0 rfl (lv_at hl 0 rfl) ?_
  refine lv_if_lt (tgt := 13) hx hb dX5_isUpTo_1 (by decide) (fun c1 => ?_) (fun c1 => ?_)
  ·
    have d2 : dkN [(-2147483648, -1)] p0 := dkN_le1 1 (dkN_top p0) (dkN_lit (x := 0) (0) rfl) (dkc_lt c1) rfl
    refine lv_iconst (v := 0) hx hb dX5_isUpTo_13 (by decide) ?_
    exact W.zret (v := 0) (ty := .boolean) hx hb hr rfl (fun t ht hW9 => ⟨⟨0, I0, rfl, ⟨hF, hO, Or.inl ⟨dkN_sub (dkN_lit (x := 0) (0) rfl) rfl, dkN_sub d2 rfl, trivial⟩⟩, dkW_eq ht hW⟩, hS.F ht⟩) hS.2.2 dX5_isUpTo_14
  ·
    have d3 : dkN [(0, 2147483647)] p0 := dkN_le2 0 (dkN_lit (x := 0) (0) rfl) (dkN_top p0) (dkc_nlt c1) rfl
    refine lv_iload_n hx hb dX5_isUpTo_4 rfl (lv_at hl 0 rfl) ?_
    refine lv_iload_n hx hb dX5_isUpTo_5 rfl (lv_at hl 1 rfl) ?_
    refine lv_icmp_gt (tgt := 13) hx hb dX5_isUpTo_6 (by decide) (fun c4 => ?_) (fun c4 => ?_)
    ·
      have d5 : dkN [(256, 2147483647)] p0 := dkN_le2 1 dp1 d3 (dkc_lt c4) rfl
      refine lv_iconst (v := 0) hx hb dX5_isUpTo_13 (by decide) ?_
      exact W.zret (v := 0) (ty := .boolean) hx hb hr rfl (fun t ht hW9 => ⟨⟨0, I0, rfl, ⟨hF, hO, Or.inl ⟨dkN_sub (dkN_lit (x := 0) (0) rfl) rfl, dkN_sub d5 rfl, trivial⟩⟩, dkW_eq ht hW⟩, hS.F ht⟩) hS.2.2 dX5_isUpTo_14
    ·
      have d6 : dkN [(0, 255)] p0 := dkN_le1 0 d3 dp1 (dkc_nlt c4) rfl
      refine lv_iconst (v := 1) hx hb dX5_isUpTo_9 (by decide) ?_
      refine lv_goto (tgt := 14) hx hb dX5_isUpTo_10 (by decide) ?_
      exact W.zret (v := 1) (ty := .boolean) hx hb hr rfl (fun t ht hW9 => ⟨⟨1, I0, rfl, ⟨hF, hO, Or.inr (⟨dkN_sub (dkN_lit (x := 1) (1) rfl) rfl, dkN_sub d6 rfl, trivial⟩)⟩, dkW_eq ht hW⟩, hS.F ht⟩) hS.2.2 dX5_isUpTo_14
set_option maxHeartbeats 4000000 in
set_option maxRecDepth 100000 in
theorem c_X2_isFull_0 (l : Launch) (g : dkG) (z : Nat) (I0 : dkI)  (hO : dkOk I0) : Met l yX2_isFull wsX2_isFull (dkR 0) (dkPc g z [.ref (z + 12)] I0) (dkQi g z (fun r I1 => dkF [] I0 I1 ∧ dkOk I1 ∧ ((dkN [(0, 0)] r ∧ dkN [(0, 89)] (I1 12 1) ∧ True) ∨ (dkN [(1, 1)] r ∧ dkN [(90, 90)] (I1 12 1) ∧ True)))) 0 0 (dkA z) := by
  refine Met.ofW (cc := cX2_isFull) (maxL := 1) (ret := (some .boolean)) (by decide) rfl ?_
  intro p e s m args below meth c s₁ B hml hv
  obtain ⟨ha, hW, hK, hT⟩ := hv
  have hx := B.exec
  have hb := B.bytes
  have hr := B.returns
  have hts := atoms_spec (ws := wsX2_isFull) B.pre
  have hown : s.vm.findClass RX2 = some m.cls := findClass_of_methodNamed B.named
  have hlocks := B.notSynchronized
  have hS : va_S (dkA z) s.heap s.heap [] := va_S.rf
  have hF : dkF [] I0 I0 := dkF_rf _ _
  have hl := lv_entry ([.ref (z + 12)]) (n := 1) (Nat.le_of_ble_eq_true rfl)
  have hgo : entryFrame m args 1 = entryFrame m ([.ref (z + 12)] : List Value).toArray 1 := by rw [ha]
  rw [hgo, lg_entry_eq]
  generalize (lg_sl ([.ref (z + 12)]) ++ List.replicate (1 - (lg_sl ([.ref (z + 12)])).length) Slot.unset).toArray = ls at hl ⊢
  have hl : lv_has ls 1 [(0, .ref (z + 12))] := hl
  refine lv_aload_n hx hb dX2_isFull_0 rfl (lv_at hl 0 rfl) ?_
  refine dk_get (k := 12) hx hb hts iX2_isFull_2 hown hK (dk_at12 hW) rfl 1 (by decide) (hts (.fieldLink RX2 22 "DogKings$Reader" "bytes" "I") (List.mem_of_getElem? (i := 1) rfl)) rfl dX2_isFull_1 ?_
  refine lv_topi (fun v1 ev1 => ?_)
  have dv1 : dkN [(0, 90)] v1 := by rw [ev1]; exact (hO 12 1)
  refine lv_bipush (v := 90) hx hb dX2_isFull_4 (by decide) ?_
  refine lv_icmp_lt (tgt := 13) hx hb dX2_isFull_6 (by decide) (fun c2 => ?_) (fun c2 => ?_)
  ·
    have d3 : dkN [(0, 89)] v1 := dkN_le1 1 dv1 (dkN_lit (x := 90) (90) rfl) (dkc_lt c2) rfl
    have f4 : dkN [(0, 89)] (I0 12 1) := by rw [← ev1]; exact d3
    refine lv_iconst (v := 0) hx hb dX2_isFull_13 (by decide) ?_
    exact W.zret (v := 0) (ty := .boolean) hx hb hr rfl (fun t ht hW9 => ⟨⟨0, I0, rfl, ⟨hF, hO, Or.inl ⟨dkN_sub (dkN_lit (x := 0) (0) rfl) rfl, (show dkN [(0, 89)] (I0 12 1) from dkN_sub f4 rfl), trivial⟩⟩, dkW_eq ht hW⟩, hS.F ht⟩) hS.2.2 dX2_isFull_14
  ·
    have d5 : dkN [(90, 90)] v1 := dkN_le2 0 (dkN_lit (x := 90) (90) rfl) dv1 (dkc_nlt c2) rfl
    have f6 : dkN [(90, 90)] (I0 12 1) := by rw [← ev1]; exact d5
    refine lv_iconst (v := 1) hx hb dX2_isFull_9 (by decide) ?_
    refine lv_goto (tgt := 14) hx hb dX2_isFull_10 (by decide) ?_
    exact W.zret (v := 1) (ty := .boolean) hx hb hr rfl (fun t ht hW9 => ⟨⟨1, I0, rfl, ⟨hF, hO, Or.inr (⟨dkN_sub (dkN_lit (x := 1) (1) rfl) rfl, (show dkN [(90, 90)] (I0 12 1) from dkN_sub f6 rfl), trivial⟩)⟩, dkW_eq ht hW⟩, hS.F ht⟩) hS.2.2 dX2_isFull_14
set_option maxHeartbeats 4000000 in
set_option maxRecDepth 100000 in
theorem c_X2_append_0 (l : Launch) (g : dkG) (z : Nat) (I0 : dkI) (p0 : Int32) (dp0 : dkN [(0, 255)] p0)  (hO : dkOk I0) : Met l yX2_append wsX2_append (dkR 1) (dkPc g z [.ref (z + 12), .int p0] I0) (dkQi g z (fun r I1 => dkF [(12, 12, 1, 1), (13, 13, 0, 89)] I0 I1 ∧ dkOk I1 ∧ ((dkN [(1, 90)] r ∧ dkN [(1, 90)] (I1 12 1) ∧ True)))) 0 0 (dkA z) := by
  refine Met.ofW (cc := cX2_append) (maxL := 2) (ret := (some .int)) (by decide) rfl ?_
  intro p e s m args below meth c s₁ B hml hv
  obtain ⟨ha, hW, hK, hT⟩ := hv
  have hx := B.exec
  have hb := B.bytes
  have hr := B.returns
  have hts := atoms_spec (ws := wsX2_append) B.pre
  have hown : s.vm.findClass RX2 = some m.cls := findClass_of_methodNamed B.named
  have hlocks := B.notSynchronized
  have hS : va_S (dkA z) s.heap s.heap [] := va_S.rf
  have hF : dkF [(12, 12, 1, 1), (13, 13, 0, 89)] I0 I0 := dkF_rf _ _
  have hl := lv_entry ([.ref (z + 12), .int p0]) (n := 2) (Nat.le_of_ble_eq_true rfl)
  have hgo : entryFrame m args 2 = entryFrame m ([.ref (z + 12), .int p0] : List Value).toArray 2 := by rw [ha]
  rw [hgo, lg_entry_eq]
  generalize (lg_sl ([.ref (z + 12), .int p0]) ++ List.replicate (2 - (lg_sl ([.ref (z + 12), .int p0])).length) Slot.unset).toArray = ls at hl ⊢
  have hl : lv_has ls 2 [(0, .ref (z + 12)), (1, .int p0)] := hl
  refine lv_aload_n hx hb dX2_append_0 rfl (lv_at hl 0 rfl) ?_
  refine dk_Vi (As := []) (rest := []) ⟨hx, hb, hml, hown, hts⟩ (c_X2_isFull_0 l g z I0 hO) (cwV 0 hts gX2_append_X2_isFull rfl rfl rfl (by decide +kernel) ⟨Nat.le_of_ble_eq_true rfl, Nat.le_of_ble_eq_true rfl⟩) (dk_at12 hW) rfl hK hT hW hS rfl hl.1 rfl (Nat.le_of_ble_eq_true rfl) dX2_append_1 ⟨Nat.zero_le _, Nat.zero_le _⟩ (fun v1 I1 H1 L1 hp1 hW hS => ?_)
  obtain ⟨hF1, hO, hc1⟩ := hp1
  have hF := dkF_call hF hF1 rfl
  rcases hc1 with ⟨dv1, f1_12_1, -⟩ | hc1
  ·
    refine lv_if_ne (tgt := 27) hx hb dX2_append_4 (by decide) (fun c2 => ?_) (fun c2 => ?_)
    ·
      exact (dkN_nil (show dkN [] v1 from dkN_ne1 (0) dv1 (dkN_lit (x := 0) (0) rfl) (dk_ne c2) rfl)).elim
    ·
      refine lv_aload_n hx hb dX2_append_7 rfl (lv_at hl 0 rfl) ?_
      refine dk_get (k := 12) hx hb hts iX2_append_2 hown hK (dk_at12 hW) rfl 0 (by decide) (hts (.fieldLink RX2 11 "DogKings$Reader" "tape" "[I") (List.mem_of_getElem? (i := 1) rfl)) rfl dX2_append_8 ?_
      refine lv_aload_n hx hb dX2_append_11 rfl (lv_at hl 0 rfl) ?_
      refine dk_get (k := 12) hx hb hts iX2_append_2 hown hK (dk_at12 hW) rfl 1 (by decide) (hts (.fieldLink RX2 22 "DogKings$Reader" "bytes" "I") (List.mem_of_getElem? (i := 2) rfl)) rfl dX2_append_12 ?_
      refine lv_topi (fun v3 ev3 => ?_)
      have dv3 : dkN [(0, 89)] v3 := by rw [ev3]; exact f1_12_1
      refine lv_iload_n hx hb dX2_append_15 rfl (lv_at hl 1 rfl) ?_
      refine dk_ist (k := 13) hx hb hK hW (fun _ => rfl) (by decide) hS (dkN_in (n := 90) dv3 rfl) dX2_append_16 (fun I4 H4 L4 eI4 hW hS => ?_)
      have hO := dkO_set hO eI4 (dkN_sub dp0 rfl)
      have hF := dkF_set hF eI4 (dkIn_v dv3 rfl)
      refine lv_aload_n hx hb dX2_append_17 rfl (lv_at hl 0 rfl) ?_
      refine lv_dup hx hb dX2_append_18 rfl ?_
      refine dk_get (k := 12) hx hb hts iX2_append_2 hown hK (dk_at12 hW) rfl 1 (by decide) (hts (.fieldLink RX2 22 "DogKings$Reader" "bytes" "I") (List.mem_of_getElem? (i := 2) rfl)) rfl dX2_append_19 ?_
      refine lv_topi (fun v5 ev5 => ?_)
      have dv5 : dkN [(0, 89)] v5 := by rw [ev5]; exact (by rw [eI4, dkU_n (by decide)]; exact f1_12_1)
      refine lv_iconst (v := 1) hx hb dX2_append_22 (by decide) ?_
      refine lv_iadd hx hb dX2_append_23 ?_
      refine lv_topi (fun v6 ev6 => ?_)
      have dv6 : dkN [(1, 90)] v6 := by rw [ev6]; exact dkN_add dv5 (dkN_lit (x := 1) (1) rfl) rfl
      refine dk_put (k := 12) hx hb hts iX2_append_2 tyX2 tyX2_ok nmX2 hown hK hW (dk_at12 hW) hS rfl 1 (by decide) (hts (.fieldLink RX2 22 "DogKings$Reader" "bytes" "I") (List.mem_of_getElem? (i := 2) rfl)) rfl rfl (Nat.le_of_ble_eq_true rfl) rfl dX2_append_24 (fun I7 H7 L7 eI7 hW hS => ?_)
      have eI7 : I7 = dkU I4 12 1 v6 := eI7
      have hO := dkO_set hO eI7 (dkN_sub dv6 rfl)
      have hF := dkF_set hF eI7 rfl
      refine lv_aload_n hx hb dX2_append_27 rfl (lv_at hl 0 rfl) ?_
      refine dk_get (k := 12) hx hb hts iX2_append_2 hown hK (dk_at12 hW) rfl 1 (by decide) (hts (.fieldLink RX2 22 "DogKings$Reader" "bytes" "I") (List.mem_of_getElem? (i := 2) rfl)) rfl dX2_append_28 ?_
      refine lv_topi (fun v8 ev8 => ?_)
      have dv8 : dkN [(1, 90)] v8 := by rw [ev8]; exact (by rw [eI7, dkU_ss]; exact dv6)
      exact W.iret (v := v8) hx hb hr (fun t ht hW9 => ⟨⟨v8, I7, rfl, ⟨hF, hO, ⟨dkN_sub dv8 rfl, (show dkN [(1, 90)] (I7 12 1) from dkN_sub (by rw [eI7, dkU_ss]; exact dv6) rfl), trivial⟩⟩, dkW_eq ht hW⟩, hS.F ht⟩) hS.2.2 dX2_append_31
  ·
    obtain ⟨dv1, f1_12_1, -⟩ := hc1
    refine lv_if_ne (tgt := 27) hx hb dX2_append_4 (by decide) (fun c9 => ?_) (fun c9 => ?_)
    ·
      refine lv_aload_n hx hb dX2_append_27 rfl (lv_at hl 0 rfl) ?_
      refine dk_get (k := 12) hx hb hts iX2_append_2 hown hK (dk_at12 hW) rfl 1 (by decide) (hts (.fieldLink RX2 22 "DogKings$Reader" "bytes" "I") (List.mem_of_getElem? (i := 2) rfl)) rfl dX2_append_28 ?_
      refine lv_topi (fun v10 ev10 => ?_)
      have dv10 : dkN [(90, 90)] v10 := by rw [ev10]; exact f1_12_1
      exact W.iret (v := v10) hx hb hr (fun t ht hW9 => ⟨⟨v10, I1, rfl, ⟨hF, hO, ⟨dkN_sub dv10 rfl, (show dkN [(1, 90)] (I1 12 1) from dkN_sub f1_12_1 rfl), trivial⟩⟩, dkW_eq ht hW⟩, hS.F ht⟩) hS.2.2 dX2_append_31
    ·
      exact (dkN_nil (show dkN [] v1 from dkN_eq1 dv1 (dkN_lit (x := 0) (0) rfl) (congrArg Int32.toInt c9) rfl)).elim
set_option maxHeartbeats 4000000 in
set_option maxRecDepth 100000 in
theorem c_X5_feed_0 (l : Launch) (g : dkG) (z : Nat) (I0 : dkI) (p0 : Int32)  (hO : dkOk I0) : Met l yX5_feed wsX5_feed (dkR 2) (dkPc g z [.ref (z + 0), .int p0] I0) (dkQi g z (fun r I1 => dkF [(12, 12, 1, 1), (13, 13, 0, 89)] I0 I1 ∧ dkOk I1 ∧ ((dkN [(-1000003, -1000003)] r ∧ dkN [(0, 255)] p0 ∧ dkN [(90, 90)] (I1 12 1) ∧ True) ∨ (dkN [(-1000001, -1000001)] r ∧ dkN [(-2147483648, -1), (256, 2147483647)] p0 ∧ True) ∨ (dkN [(1, 90)] r ∧ dkN [(0, 255)] p0 ∧ dkN [(1, 90)] (I1 12 1) ∧ True)))) 0 0 (dkA z) := by
  refine Met.ofW (cc := cX5_feed) (maxL := 2) (ret := (some .int)) (by decide) rfl ?_
  intro p e s m args below meth c s₁ B hml hv
  obtain ⟨ha, hW, hK, hT⟩ := hv
  have hx := B.exec
  have hb := B.bytes
  have hr := B.returns
  have hts := atoms_spec (ws := wsX5_feed) B.pre
  have hown : s.vm.findClass RX5 = some m.cls := findClass_of_methodNamed B.named
  have hlocks := B.notSynchronized
  have hS : va_S (dkA z) s.heap s.heap [] := va_S.rf
  have hF : dkF [(12, 12, 1, 1), (13, 13, 0, 89)] I0 I0 := dkF_rf _ _
  have hl := lv_entry ([.ref (z + 0), .int p0]) (n := 2) (Nat.le_of_ble_eq_true rfl)
  have hgo : entryFrame m args 2 = entryFrame m ([.ref (z + 0), .int p0] : List Value).toArray 2 := by rw [ha]
  rw [hgo, lg_entry_eq]
  generalize (lg_sl ([.ref (z + 0), .int p0]) ++ List.replicate (2 - (lg_sl ([.ref (z + 0), .int p0])).length) Slot.unset).toArray = ls at hl ⊢
  have hl : lv_has ls 2 [(0, .ref (z + 0)), (1, .int p0)] := hl
  refine lv_iload_n hx hb dX5_feed_0 rfl (lv_at hl 1 rfl) ?_
  refine lv_sipush (v := 255) hx hb dX5_feed_1 (by decide) ?_
  refine dk_Si (As := [.int p0, .int 255]) (rest := []) ⟨hx, hb, hml, hown, hts⟩ (c_X5_isUpTo_2 l g z I0 p0 255 (dkN_lit (x := 255) (255) rfl) hO) (va_cwS 2 hts gX5_feed_X5_isUpTo rfl rfl rfl (by decide +kernel) ⟨Nat.le_of_ble_eq_true rfl, Nat.le_of_ble_eq_true rfl⟩) hK hT hW hS rfl hl.1 rfl (Nat.le_of_ble_eq_true rfl) dX5_feed_4 ⟨Nat.zero_le _, Nat.zero_le _⟩ (fun v1 I1 H1 L1 hp1 hW hS => ?_)
  obtain ⟨hF1, hO, hc1⟩ := hp1
  have hF := dkF_call hF hF1 rfl
  rcases hc1 with ⟨dv1, a1_0, -⟩ | hc1
  ·
    have d2 : dkN [(-2147483648, -1), (256, 2147483647)] p0 := dkN_eq1 (dkN_top p0) a1_0 rfl rfl
    refine lv_if_ne (tgt := 13) hx hb dX5_feed_7 (by decide) (fun c3 => ?_) (fun c3 => ?_)
    ·
      exact (dkN_nil (show dkN [] v1 from dkN_ne1 (0) dv1 (dkN_lit (x := 0) (0) rfl) (dk_ne c3) rfl)).elim
    ·
      refine lv_ldc (v := (-1000001)) hx hb hown (hts (.constant RX5 70 (-1000001)) (List.mem_of_getElem? (i := 1) rfl)) dX5_feed_10 ?_
      exact W.iret (v := (-1000001)) hx hb hr (fun t ht hW9 => ⟨⟨(-1000001), I1, rfl, ⟨hF, hO, Or.inr (Or.inl ⟨dkN_sub (dkN_lit (x := (-1000001)) (-1000001) rfl) rfl, dkN_sub d2 rfl, trivial⟩)⟩, dkW_eq ht hW⟩, hS.F ht⟩) hS.2.2 dX5_feed_12
  ·
    obtain ⟨dv1, a1_0, -⟩ := hc1
    have d4 : dkN [(0, 255)] p0 := dkN_eq1 (dkN_top p0) a1_0 rfl rfl
    refine lv_if_ne (tgt := 13) hx hb dX5_feed_7 (by decide) (fun c5 => ?_) (fun c5 => ?_)
    ·
      refine lv_aload_n hx hb dX5_feed_13 rfl (lv_at hl 0 rfl) ?_
      refine dk_get (k := 0) hx hb hts iX5_feed_5 hown hK (dk_at0 hW) rfl 4 (by decide) (hts (.fieldLink RX5 24 "DogKings" "reader" "LDogKings$Reader;") (List.mem_of_getElem? (i := 2) rfl)) rfl dX5_feed_14 ?_
      refine dk_Vi (As := []) (rest := []) ⟨hx, hb, hml, hown, hts⟩ (c_X2_isFull_0 l g z I1 hO) (cwV 0 hts gX5_feed_X2_isFull rfl rfl rfl (by decide +kernel) ⟨Nat.le_of_ble_eq_true rfl, Nat.le_of_ble_eq_true rfl⟩) (dk_at12 hW) rfl hK hT hW hS rfl hl.1 rfl (Nat.le_of_ble_eq_true rfl) dX5_feed_17 ⟨Nat.zero_le _, Nat.zero_le _⟩ (fun v6 I6 H6 L6 hp6 hW hS => ?_)
      obtain ⟨hF6, hO, hc6⟩ := hp6
      have hF := dkF_call hF hF6 rfl
      rcases hc6 with ⟨dv6, f6_12_1, -⟩ | hc6
      ·
        refine lv_if_eq (tgt := 28) hx hb dX5_feed_20 (by decide) (fun c7 => ?_) (fun c7 => ?_)
        ·
          refine lv_aload_n hx hb dX5_feed_28 rfl (lv_at hl 0 rfl) ?_
          refine dk_get (k := 0) hx hb hts iX5_feed_5 hown hK (dk_at0 hW) rfl 4 (by decide) (hts (.fieldLink RX5 24 "DogKings" "reader" "LDogKings$Reader;") (List.mem_of_getElem? (i := 2) rfl)) rfl dX5_feed_29 ?_
          refine lv_iload_n hx hb dX5_feed_32 rfl (lv_at hl 1 rfl) ?_
          refine dk_Vi (As := [.int p0]) (rest := []) ⟨hx, hb, hml, hown, hts⟩ (c_X2_append_0 l g z I6 p0 d4 hO) (cwV 1 hts gX5_feed_X2_append rfl rfl rfl (by decide +kernel) ⟨Nat.le_of_ble_eq_true rfl, Nat.le_of_ble_eq_true rfl⟩) (dk_at12 hW) rfl hK hT hW hS rfl hl.1 rfl (Nat.le_of_ble_eq_true rfl) dX5_feed_33 ⟨Nat.zero_le _, Nat.zero_le _⟩ (fun v8 I8 H8 L8 hp8 hW hS => ?_)
          obtain ⟨hF8, hO, hc8⟩ := hp8
          have hF := dkF_call hF hF8 rfl
          obtain ⟨dv8, f8_12_1, -⟩ := hc8
          exact W.iret (v := v8) hx hb hr (fun t ht hW9 => ⟨⟨v8, I8, rfl, ⟨hF, hO, Or.inr (Or.inr (⟨dkN_sub dv8 rfl, dkN_sub d4 rfl, (show dkN [(1, 90)] (I8 12 1) from dkN_sub f8_12_1 rfl), trivial⟩))⟩, dkW_eq ht hW⟩, hS.F ht⟩) hS.2.2 dX5_feed_36
        ·
          exact (dkN_nil (show dkN [] v6 from dkN_ne1 (0) dv6 (dkN_lit (x := 0) (0) rfl) (dk_ne c7) rfl)).elim
      ·
        obtain ⟨dv6, f6_12_1, -⟩ := hc6
        refine lv_if_eq (tgt := 28) hx hb dX5_feed_20 (by decide) (fun c9 => ?_) (fun c9 => ?_)
        ·
          exact (dkN_nil (show dkN [] v6 from dkN_eq1 dv6 (dkN_lit (x := 0) (0) rfl) (congrArg Int32.toInt c9) rfl)).elim
        ·
          refine lv_ldc (v := (-1000003)) hx hb hown (hts (.constant RX5 99 (-1000003)) (List.mem_of_getElem? (i := 3) rfl)) dX5_feed_23 ?_
          refine lv_goto (tgt := 36) hx hb dX5_feed_25 (by decide) ?_
          exact W.iret (v := (-1000003)) hx hb hr (fun t ht hW9 => ⟨⟨(-1000003), I6, rfl, ⟨hF, hO, Or.inl ⟨dkN_sub (dkN_lit (x := (-1000003)) (-1000003) rfl) rfl, dkN_sub d4 rfl, (show dkN [(90, 90)] (I6 12 1) from dkN_sub f6_12_1 rfl), trivial⟩⟩, dkW_eq ht hW⟩, hS.F ht⟩) hS.2.2 dX5_feed_36
    ·
      exact (dkN_nil (show dkN [] v1 from dkN_eq1 dv1 (dkN_lit (x := 0) (0) rfl) (congrArg Int32.toInt c5) rfl)).elim
set_option maxHeartbeats 4000000 in
set_option maxRecDepth 100000 in
theorem c_X6_in_3 (l : Launch) (g : dkG) (z : Nat) (I0 : dkI) (p0 : Int32) (p1 : Int32) (p2 : Int32) (dp1 : dkN [(0, 0)] p1) (dp2 : dkN [(255, 255)] p2)  (hO : dkOk I0) : Met l yX6_in wsX6_in (dkR 0) (dkPc g z [.int p0, .int p1, .int p2] I0) (dkQi g z (fun r I1 => dkF [] I0 I1 ∧ dkOk I1 ∧ ((dkN [(0, 0)] r ∧ dkN [(-2147483648, -1), (256, 2147483647)] p0 ∧ True) ∨ (dkN [(1, 1)] r ∧ dkN [(0, 255)] p0 ∧ True)))) 0 0 (dkA z) := by
  refine Met.ofW (cc := cX6_in) (maxL := 3) (ret := (some .boolean)) (by decide) rfl ?_
  intro p e s m args below meth c s₁ B hml hv
  obtain ⟨ha, hW, hK, hT⟩ := hv
  have hx := B.exec
  have hb := B.bytes
  have hr := B.returns
  have hts := atoms_spec (ws := wsX6_in) B.pre
  have hown : s.vm.findClass RX6 = some m.cls := findClass_of_methodNamed B.named
  have hlocks := B.notSynchronized
  have hS : va_S (dkA z) s.heap s.heap [] := va_S.rf
  have hF : dkF [] I0 I0 := dkF_rf _ _
  have hl := lv_entry ([.int p0, .int p1, .int p2]) (n := 3) (Nat.le_of_ble_eq_true rfl)
  have hgo : entryFrame m args 3 = entryFrame m ([.int p0, .int p1, .int p2] : List Value).toArray 3 := by rw [ha]
  rw [hgo, lg_entry_eq]
  generalize (lg_sl ([.int p0, .int p1, .int p2]) ++ List.replicate (3 - (lg_sl ([.int p0, .int p1, .int p2])).length) Slot.unset).toArray = ls at hl ⊢
  have hl : lv_has ls 3 [(0, .int p0), (1, .int p1), (2, .int p2)] := hl
  refine lv_iload_n hx hb dX6_in_0 rfl (lv_at hl 0 rfl) ?_
  refine lv_iload_n hx hb dX6_in_1 rfl (lv_at hl 1 rfl) ?_
  refine lv_icmp_lt (tgt := 14) hx hb dX6_in_2 (by decide) (fun c1 => ?_) (fun c1 => ?_)
  ·
    have d2 : dkN [(-2147483648, -1)] p0 := dkN_le1 1 (dkN_top p0) dp1 (dkc_lt c1) rfl
    refine lv_iconst (v := 0) hx hb dX6_in_14 (by decide) ?_
    exact W.zret (v := 0) (ty := .boolean) hx hb hr rfl (fun t ht hW9 => ⟨⟨0, I0, rfl, ⟨hF, hO, Or.inl ⟨dkN_sub (dkN_lit (x := 0) (0) rfl) rfl, dkN_sub d2 rfl, trivial⟩⟩, dkW_eq ht hW⟩, hS.F ht⟩) hS.2.2 dX6_in_15
  ·
    have d3 : dkN [(0, 2147483647)] p0 := dkN_le2 0 dp1 (dkN_top p0) (dkc_nlt c1) rfl
    refine lv_iload_n hx hb dX6_in_5 rfl (lv_at hl 0 rfl) ?_
    refine lv_iload_n hx hb dX6_in_6 rfl (lv_at hl 2 rfl) ?_
    refine lv_icmp_gt (tgt := 14) hx hb dX6_in_7 (by decide) (fun c4 => ?_) (fun c4 => ?_)
    ·
      have d5 : dkN [(256, 2147483647)] p0 := dkN_le2 1 dp2 d3 (dkc_lt c4) rfl
      refine lv_iconst (v := 0) hx hb dX6_in_14 (by decide) ?_
      exact W.zret (v := 0) (ty := .boolean) hx hb hr rfl (fun t ht hW9 => ⟨⟨0, I0, rfl, ⟨hF, hO, Or.inl ⟨dkN_sub (dkN_lit (x := 0) (0) rfl) rfl, dkN_sub d5 rfl, trivial⟩⟩, dkW_eq ht hW⟩, hS.F ht⟩) hS.2.2 dX6_in_15
    ·
      have d6 : dkN [(0, 255)] p0 := dkN_le1 0 d3 dp2 (dkc_nlt c4) rfl
      refine lv_iconst (v := 1) hx hb dX6_in_10 (by decide) ?_
      refine lv_goto (tgt := 15) hx hb dX6_in_11 (by decide) ?_
      exact W.zret (v := 1) (ty := .boolean) hx hb hr rfl (fun t ht hW9 => ⟨⟨1, I0, rfl, ⟨hF, hO, Or.inr (⟨dkN_sub (dkN_lit (x := 1) (1) rfl) rfl, dkN_sub d6 rfl, trivial⟩)⟩, dkW_eq ht hW⟩, hS.F ht⟩) hS.2.2 dX6_in_15
set_option maxHeartbeats 4000000 in
set_option maxRecDepth 100000 in
theorem c_X6_feed_0 (l : Launch) (g : dkG) (z : Nat) (I0 : dkI) (p0 : Int32)  (hO : dkOk I0) : Met l yX6_feed wsX6_feed (dkR 1) (dkPc g z [.ref (z + 340), .int p0] I0) (dkQi g z (fun r I1 => dkF [(340, 340, 6, 6), (345, 345, 0, 89)] I0 I1 ∧ dkOk I1 ∧ ((dkN [(-1000003, -1000003)] r ∧ dkN [(0, 255)] p0 ∧ dkN [(90, 90)] (I1 340 6) ∧ True) ∨ (dkN [(-1000001, -1000001)] r ∧ dkN [(-2147483648, -1), (256, 2147483647)] p0 ∧ True) ∨ (dkN [(1, 90)] r ∧ dkN [(0, 255)] p0 ∧ dkN [(1, 90)] (I1 340 6) ∧ True)))) 0 0 (dkA z) := by
  refine Met.ofW (cc := cX6_feed) (maxL := 2) (ret := (some .int)) (by decide) rfl ?_
  intro p e s m args below meth c s₁ B hml hv
  obtain ⟨ha, hW, hK, hT⟩ := hv
  have hx := B.exec
  have hb := B.bytes
  have hr := B.returns
  have hts := atoms_spec (ws := wsX6_feed) B.pre
  have hown : s.vm.findClass RX6 = some m.cls := findClass_of_methodNamed B.named
  have hlocks := B.notSynchronized
  have hS : va_S (dkA z) s.heap s.heap [] := va_S.rf
  have hF : dkF [(340, 340, 6, 6), (345, 345, 0, 89)] I0 I0 := dkF_rf _ _
  have hl := lv_entry ([.ref (z + 340), .int p0]) (n := 2) (Nat.le_of_ble_eq_true rfl)
  have hgo : entryFrame m args 2 = entryFrame m ([.ref (z + 340), .int p0] : List Value).toArray 2 := by rw [ha]
  rw [hgo, lg_entry_eq]
  generalize (lg_sl ([.ref (z + 340), .int p0]) ++ List.replicate (2 - (lg_sl ([.ref (z + 340), .int p0])).length) Slot.unset).toArray = ls at hl ⊢
  have hl : lv_has ls 2 [(0, .ref (z + 340)), (1, .int p0)] := hl
  refine lv_iload_n hx hb dX6_feed_0 rfl (lv_at hl 1 rfl) ?_
  refine lv_iconst (v := 0) hx hb dX6_feed_1 (by decide) ?_
  refine lv_sipush (v := 255) hx hb dX6_feed_2 (by decide) ?_
  refine dk_Si (As := [.int p0, .int 0, .int 255]) (rest := []) ⟨hx, hb, hml, hown, hts⟩ (c_X6_in_3 l g z I0 p0 0 255 (dkN_lit (x := 0) (0) rfl) (dkN_lit (x := 255) (255) rfl) hO) (va_cwS 3 hts gX6_feed_X6_in rfl rfl rfl (by decide +kernel) ⟨Nat.le_of_ble_eq_true rfl, Nat.le_of_ble_eq_true rfl⟩) hK hT hW hS rfl hl.1 rfl (Nat.le_of_ble_eq_true rfl) dX6_feed_5 ⟨Nat.zero_le _, Nat.zero_le _⟩ (fun v1 I1 H1 L1 hp1 hW hS => ?_)
  obtain ⟨hF1, hO, hc1⟩ := hp1
  have hF := dkF_call hF hF1 rfl
  rcases hc1 with ⟨dv1, a1_0, -⟩ | hc1
  ·
    have d2 : dkN [(-2147483648, -1), (256, 2147483647)] p0 := dkN_eq1 (dkN_top p0) a1_0 rfl rfl
    refine lv_if_ne (tgt := 14) hx hb dX6_feed_8 (by decide) (fun c3 => ?_) (fun c3 => ?_)
    ·
      exact (dkN_nil (show dkN [] v1 from dkN_ne1 (0) dv1 (dkN_lit (x := 0) (0) rfl) (dk_ne c3) rfl)).elim
    ·
      refine lv_ldc (v := (-1000001)) hx hb hown (hts (.constant RX6 64 (-1000001)) (List.mem_of_getElem? (i := 1) rfl)) dX6_feed_11 ?_
      exact W.iret (v := (-1000001)) hx hb hr (fun t ht hW9 => ⟨⟨(-1000001), I1, rfl, ⟨hF, hO, Or.inr (Or.inl ⟨dkN_sub (dkN_lit (x := (-1000001)) (-1000001) rfl) rfl, dkN_sub d2 rfl, trivial⟩)⟩, dkW_eq ht hW⟩, hS.F ht⟩) hS.2.2 dX6_feed_13
  ·
    obtain ⟨dv1, a1_0, -⟩ := hc1
    have d4 : dkN [(0, 255)] p0 := dkN_eq1 (dkN_top p0) a1_0 rfl rfl
    refine lv_if_ne (tgt := 14) hx hb dX6_feed_8 (by decide) (fun c5 => ?_) (fun c5 => ?_)
    ·
      refine lv_aload_n hx hb dX6_feed_14 rfl (lv_at hl 0 rfl) ?_
      refine dk_get (k := 340) hx hb hts iX6_feed_6 hown hK (dk_at340 hW) rfl 6 (by decide) (hts (.fieldLink RX6 82 "DogKingsModel" "taped" "I") (List.mem_of_getElem? (i := 2) rfl)) rfl dX6_feed_15 ?_
      refine lv_topi (fun v6 ev6 => ?_)
      have dv6 : dkN [(0, 90)] v6 := by rw [ev6]; exact (hO 340 6)
      refine lv_bipush (v := 90) hx hb dX6_feed_18 (by decide) ?_
      refine lv_icmp_ne (tgt := 26) hx hb dX6_feed_20 (by decide) (fun c7 => ?_) (fun c7 => ?_)
      ·
        have d8 : dkN [(0, 89)] v6 := dkN_ne1 (90) dv6 (dkN_lit (x := 90) (90) rfl) (dk_ne c7) rfl
        have f9 : dkN [(0, 89)] (I1 340 6) := by rw [← ev6]; exact d8
        refine lv_aload_n hx hb dX6_feed_26 rfl (lv_at hl 0 rfl) ?_
        refine dk_get (k := 340) hx hb hts iX6_feed_6 hown hK (dk_at340 hW) rfl 5 (by decide) (hts (.fieldLink RX6 22 "DogKingsModel" "tape" "[I") (List.mem_of_getElem? (i := 4) rfl)) rfl dX6_feed_27 ?_
        refine lv_aload_n hx hb dX6_feed_30 rfl (lv_at hl 0 rfl) ?_
        refine dk_get (k := 340) hx hb hts iX6_feed_6 hown hK (dk_at340 hW) rfl 6 (by decide) (hts (.fieldLink RX6 82 "DogKingsModel" "taped" "I") (List.mem_of_getElem? (i := 2) rfl)) rfl dX6_feed_31 ?_
        refine lv_topi (fun v10 ev10 => ?_)
        have dv10 : dkN [(0, 89)] v10 := by rw [ev10]; exact f9
        refine lv_iload_n hx hb dX6_feed_34 rfl (lv_at hl 1 rfl) ?_
        refine dk_ist (k := 345) hx hb hK hW (fun _ => rfl) (by decide) hS (dkN_in (n := 90) dv10 rfl) dX6_feed_35 (fun I11 H11 L11 eI11 hW hS => ?_)
        have hO := dkO_set hO eI11 (dkN_sub d4 rfl)
        have hF := dkF_set hF eI11 (dkIn_v dv10 rfl)
        refine lv_aload_n hx hb dX6_feed_36 rfl (lv_at hl 0 rfl) ?_
        refine lv_dup hx hb dX6_feed_37 rfl ?_
        refine dk_get (k := 340) hx hb hts iX6_feed_6 hown hK (dk_at340 hW) rfl 6 (by decide) (hts (.fieldLink RX6 82 "DogKingsModel" "taped" "I") (List.mem_of_getElem? (i := 2) rfl)) rfl dX6_feed_38 ?_
        refine lv_topi (fun v12 ev12 => ?_)
        have dv12 : dkN [(0, 89)] v12 := by rw [ev12]; exact (by rw [eI11, dkU_n (by decide)]; exact f9)
        refine lv_iconst (v := 1) hx hb dX6_feed_41 (by decide) ?_
        refine lv_iadd hx hb dX6_feed_42 ?_
        refine lv_topi (fun v13 ev13 => ?_)
        have dv13 : dkN [(1, 90)] v13 := by rw [ev13]; exact dkN_add dv12 (dkN_lit (x := 1) (1) rfl) rfl
        refine dk_put (k := 340) hx hb hts iX6_feed_6 tyX6 tyX6_ok nmX6 hown hK hW (dk_at340 hW) hS rfl 6 (by decide) (hts (.fieldLink RX6 82 "DogKingsModel" "taped" "I") (List.mem_of_getElem? (i := 2) rfl)) rfl rfl (Nat.le_of_ble_eq_true rfl) rfl dX6_feed_43 (fun I14 H14 L14 eI14 hW hS => ?_)
        have eI14 : I14 = dkU I11 340 6 v13 := eI14
        have hO := dkO_set hO eI14 (dkN_sub dv13 rfl)
        have hF := dkF_set hF eI14 rfl
        refine lv_aload_n hx hb dX6_feed_46 rfl (lv_at hl 0 rfl) ?_
        refine dk_get (k := 340) hx hb hts iX6_feed_6 hown hK (dk_at340 hW) rfl 6 (by decide) (hts (.fieldLink RX6 82 "DogKingsModel" "taped" "I") (List.mem_of_getElem? (i := 2) rfl)) rfl dX6_feed_47 ?_
        refine lv_topi (fun v15 ev15 => ?_)
        have dv15 : dkN [(1, 90)] v15 := by rw [ev15]; exact (by rw [eI14, dkU_ss]; exact dv13)
        exact W.iret (v := v15) hx hb hr (fun t ht hW9 => ⟨⟨v15, I14, rfl, ⟨hF, hO, Or.inr (Or.inr (⟨dkN_sub dv15 rfl, dkN_sub d4 rfl, (show dkN [(1, 90)] (I14 340 6) from dkN_sub (by rw [eI14, dkU_ss]; exact dv13) rfl), trivial⟩))⟩, dkW_eq ht hW⟩, hS.F ht⟩) hS.2.2 dX6_feed_50
      ·
        have d16 : dkN [(90, 90)] v6 := dkN_eq1 dv6 (dkN_lit (x := 90) (90) rfl) (congrArg Int32.toInt c7) rfl
        have f17 : dkN [(90, 90)] (I1 340 6) := by rw [← ev6]; exact d16
        refine lv_ldc (v := (-1000003)) hx hb hown (hts (.constant RX6 85 (-1000003)) (List.mem_of_getElem? (i := 3) rfl)) dX6_feed_23 ?_
        exact W.iret (v := (-1000003)) hx hb hr (fun t ht hW9 => ⟨⟨(-1000003), I1, rfl, ⟨hF, hO, Or.inl ⟨dkN_sub (dkN_lit (x := (-1000003)) (-1000003) rfl) rfl, dkN_sub d4 rfl, (show dkN [(90, 90)] (I1 340 6) from dkN_sub f17 rfl), trivial⟩⟩, dkW_eq ht hW⟩, hS.F ht⟩) hS.2.2 dX6_feed_25
    ·
      exact (dkN_nil (show dkN [] v1 from dkN_eq1 dv1 (dkN_lit (x := 0) (0) rfl) (congrArg Int32.toInt c5) rfl)).elim
set_option maxHeartbeats 4000000 in
set_option maxRecDepth 100000 in
theorem c_X2_coming_0 (l : Launch) (g : dkG) (z : Nat) (I0 : dkI)  (hO : dkOk I0) : Met l yX2_coming wsX2_coming (dkR 0) (dkPc g z [.ref (z + 12)] I0) (dkQi g z (fun r I1 => dkF [] I0 I1 ∧ dkOk I1 ∧ ((dkN [(-1000000, -1000000)] r ∧ True) ∨ (dkN [(0, 255)] r ∧ dkN [(1, 90)] (I1 12 1) ∧ dkN [(0, 89)] (I1 12 2) ∧ True)))) 0 0 (dkA z) := by
  refine Met.ofW (cc := cX2_coming) (maxL := 1) (ret := (some .int)) (by decide) rfl ?_
  intro p e s m args below meth c s₁ B hml hv
  obtain ⟨ha, hW, hK, hT⟩ := hv
  have hx := B.exec
  have hb := B.bytes
  have hr := B.returns
  have hts := atoms_spec (ws := wsX2_coming) B.pre
  have hown : s.vm.findClass RX2 = some m.cls := findClass_of_methodNamed B.named
  have hlocks := B.notSynchronized
  have hS : va_S (dkA z) s.heap s.heap [] := va_S.rf
  have hF : dkF [] I0 I0 := dkF_rf _ _
  have hl := lv_entry ([.ref (z + 12)]) (n := 1) (Nat.le_of_ble_eq_true rfl)
  have hgo : entryFrame m args 1 = entryFrame m ([.ref (z + 12)] : List Value).toArray 1 := by rw [ha]
  rw [hgo, lg_entry_eq]
  generalize (lg_sl ([.ref (z + 12)]) ++ List.replicate (1 - (lg_sl ([.ref (z + 12)])).length) Slot.unset).toArray = ls at hl ⊢
  have hl : lv_has ls 1 [(0, .ref (z + 12))] := hl
  refine lv_aload_n hx hb dX2_coming_0 rfl (lv_at hl 0 rfl) ?_
  refine dk_get (k := 12) hx hb hts iX2_coming_2 hown hK (dk_at12 hW) rfl 2 (by decide) (hts (.fieldLink RX2 30 "DogKings$Reader" "at" "I") (List.mem_of_getElem? (i := 1) rfl)) rfl dX2_coming_1 ?_
  refine lv_topi (fun v1 ev1 => ?_)
  have dv1 : dkN [(0, 90)] v1 := by rw [ev1]; exact (hO 12 2)
  refine lv_aload_n hx hb dX2_coming_4 rfl (lv_at hl 0 rfl) ?_
  refine dk_get (k := 12) hx hb hts iX2_coming_2 hown hK (dk_at12 hW) rfl 1 (by decide) (hts (.fieldLink RX2 22 "DogKings$Reader" "bytes" "I") (List.mem_of_getElem? (i := 2) rfl)) rfl dX2_coming_5 ?_
  refine lv_topi (fun v2 ev2 => ?_)
  have dv2 : dkN [(0, 90)] v2 := by rw [ev2]; exact (hO 12 1)
  refine lv_icmp_ge (tgt := 23) hx hb dX2_coming_8 (by decide) (fun c3 => ?_) (fun c3 => ?_)
  ·
    refine lv_ldc (v := (-1000000)) hx hb hown (hts (.constant RX2 50 (-1000000)) (List.mem_of_getElem? (i := 4) rfl)) dX2_coming_23 ?_
    exact W.iret (v := (-1000000)) hx hb hr (fun t ht hW9 => ⟨⟨(-1000000), I0, rfl, ⟨hF, hO, Or.inl ⟨dkN_sub (dkN_lit (x := (-1000000)) (-1000000) rfl) rfl, trivial⟩⟩, dkW_eq ht hW⟩, hS.F ht⟩) hS.2.2 dX2_coming_25
  ·
    have d4 : dkN [(1, 90)] v2 := dkN_le2 1 dv1 dv2 (dkc_nle c3) rfl
    have f5 : dkN [(1, 90)] (I0 12 1) := by rw [← ev2]; exact d4
    have d6 : dkN [(0, 89)] v1 := dkN_le1 1 dv1 dv2 (dkc_nle c3) rfl
    have f7 : dkN [(0, 89)] (I0 12 2) := by rw [← ev1]; exact d6
    refine lv_aload_n hx hb dX2_coming_11 rfl (lv_at hl 0 rfl) ?_
    refine dk_get (k := 12) hx hb hts iX2_coming_2 hown hK (dk_at12 hW) rfl 0 (by decide) (hts (.fieldLink RX2 11 "DogKings$Reader" "tape" "[I") (List.mem_of_getElem? (i := 3) rfl)) rfl dX2_coming_12 ?_
    refine lv_aload_n hx hb dX2_coming_15 rfl (lv_at hl 0 rfl) ?_
    refine dk_get (k := 12) hx hb hts iX2_coming_2 hown hK (dk_at12 hW) rfl 2 (by decide) (hts (.fieldLink RX2 30 "DogKings$Reader" "at" "I") (List.mem_of_getElem? (i := 1) rfl)) rfl dX2_coming_16 ?_
    refine lv_topi (fun v8 ev8 => ?_)
    have dv8 : dkN [(0, 89)] v8 := by rw [ev8]; exact f7
    refine dk_ild (k := 13) hx hb hK (dk_at13 hW) (dkN_in (n := 90) dv8 rfl) dX2_coming_19 ?_
    refine lv_topi (fun v9 ev9 => ?_)
    have dv9 : dkN [(0, 255)] v9 := by rw [ev9]; exact (hO 13 _)
    refine lv_goto (tgt := 25) hx hb dX2_coming_20 (by decide) ?_
    exact W.iret (v := v9) hx hb hr (fun t ht hW9 => ⟨⟨v9, I0, rfl, ⟨hF, hO, Or.inr (⟨dkN_sub dv9 rfl, (show dkN [(1, 90)] (I0 12 1) from dkN_sub f5 rfl), (show dkN [(0, 89)] (I0 12 2) from dkN_sub f7 rfl), trivial⟩)⟩, dkW_eq ht hW⟩, hS.F ht⟩) hS.2.2 dX2_coming_25
set_option maxHeartbeats 4000000 in
set_option maxRecDepth 100000 in
theorem c_X2_meets_0 (l : Launch) (g : dkG) (z : Nat) (I0 : dkI) (p0 : Int32) (dp0 : dkN [(1, 1)] p0)  (hO : dkOk I0) : Met l yX2_meets wsX2_meets (dkR 0) (dkPc g z [.ref (z + 12), .int p0] I0) (dkQi g z (fun r I1 => dkF [(12, 12, 4, 5)] I0 I1 ∧ dkOk I1 ∧ ((dkN [(0, 0)] r ∧ dkN [(0, 90)] (I1 12 4) ∧ dkN [(1, 1)] (I1 12 5) ∧ True)))) 0 0 (dkA z) := by
  refine Met.ofW (cc := cX2_meets) (maxL := 2) (ret := (some .boolean)) (by decide) rfl ?_
  intro p e s m args below meth c s₁ B hml hv
  obtain ⟨ha, hW, hK, hT⟩ := hv
  have hx := B.exec
  have hb := B.bytes
  have hr := B.returns
  have hts := atoms_spec (ws := wsX2_meets) B.pre
  have hown : s.vm.findClass RX2 = some m.cls := findClass_of_methodNamed B.named
  have hlocks := B.notSynchronized
  have hS : va_S (dkA z) s.heap s.heap [] := va_S.rf
  have hF : dkF [(12, 12, 4, 5)] I0 I0 := dkF_rf _ _
  have hl := lv_entry ([.ref (z + 12), .int p0]) (n := 2) (Nat.le_of_ble_eq_true rfl)
  have hgo : entryFrame m args 2 = entryFrame m ([.ref (z + 12), .int p0] : List Value).toArray 2 := by rw [ha]
  rw [hgo, lg_entry_eq]
  generalize (lg_sl ([.ref (z + 12), .int p0]) ++ List.replicate (2 - (lg_sl ([.ref (z + 12), .int p0])).length) Slot.unset).toArray = ls at hl ⊢
  have hl : lv_has ls 2 [(0, .ref (z + 12)), (1, .int p0)] := hl
  refine lv_aload_n hx hb dX2_meets_0 rfl (lv_at hl 0 rfl) ?_
  refine lv_aload_n hx hb dX2_meets_1 rfl (lv_at hl 0 rfl) ?_
  refine dk_get (k := 12) hx hb hts iX2_meets_2 hown hK (dk_at12 hW) rfl 2 (by decide) (hts (.fieldLink RX2 30 "DogKings$Reader" "at" "I") (List.mem_of_getElem? (i := 1) rfl)) rfl dX2_meets_2 ?_
  refine lv_topi (fun v1 ev1 => ?_)
  have dv1 : dkN [(0, 90)] v1 := by rw [ev1]; exact (hO 12 2)
  refine dk_put (k := 12) hx hb hts iX2_meets_2 tyX2 tyX2_ok nmX2 hown hK hW (dk_at12 hW) hS rfl 4 (by decide) (hts (.fieldLink RX2 88 "DogKings$Reader" "faultPlace" "I") (List.mem_of_getElem? (i := 2) rfl)) rfl rfl (Nat.le_of_ble_eq_true rfl) rfl dX2_meets_5 (fun I2 H2 L2 eI2 hW hS => ?_)
  have eI2 : I2 = dkU I0 12 4 v1 := eI2
  have hO := dkO_set hO eI2 (dkN_sub dv1 rfl)
  have hF := dkF_set hF eI2 rfl
  refine lv_aload_n hx hb dX2_meets_8 rfl (lv_at hl 0 rfl) ?_
  refine lv_iload_n hx hb dX2_meets_9 rfl (lv_at hl 1 rfl) ?_
  refine dk_put (k := 12) hx hb hts iX2_meets_2 tyX2 tyX2_ok nmX2 hown hK hW (dk_at12 hW) hS rfl 5 (by decide) (hts (.fieldLink RX2 91 "DogKings$Reader" "faultNumber" "I") (List.mem_of_getElem? (i := 3) rfl)) rfl rfl (Nat.le_of_ble_eq_true rfl) rfl dX2_meets_10 (fun I3 H3 L3 eI3 hW hS => ?_)
  have eI3 : I3 = dkU I2 12 5 p0 := eI3
  have hO := dkO_set hO eI3 (dkN_sub dp0 rfl)
  have hF := dkF_set hF eI3 rfl
  refine lv_iconst (v := 0) hx hb dX2_meets_13 (by decide) ?_
  exact W.zret (v := 0) (ty := .boolean) hx hb hr rfl (fun t ht hW9 => ⟨⟨0, I3, rfl, ⟨hF, hO, ⟨dkN_sub (dkN_lit (x := 0) (0) rfl) rfl, (show dkN [(0, 90)] (I3 12 4) from dkN_sub (by rw [eI3, dkU_sn (by decide)]; exact (by rw [eI2, dkU_ss]; exact dv1)) rfl), (show dkN [(1, 1)] (I3 12 5) from dkN_sub (by rw [eI3, dkU_ss]; exact dp0) rfl), trivial⟩⟩, dkW_eq ht hW⟩, hS.F ht⟩) hS.2.2 dX2_meets_14
set_option maxHeartbeats 4000000 in
set_option maxRecDepth 100000 in
theorem c_X2_takes_0 (l : Launch) (g : dkG) (z : Nat) (I0 : dkI) (p0 : Int32) (dp0 : dkN [(116, 116)] p0)  (hO : dkOk I0) : Met l yX2_takes wsX2_takes (dkR 1) (dkPc g z [.ref (z + 12), .int p0] I0) (dkQi g z (fun r I1 => dkF [(12, 12, 2, 2), (12, 12, 4, 5)] I0 I1 ∧ dkOk I1 ∧ ((dkN [(0, 0)] r ∧ dkN [(0, 90)] (I1 12 4) ∧ dkN [(1, 1)] (I1 12 5) ∧ True) ∨ (dkN [(1, 1)] r ∧ dkN [(1, 90)] (I1 12 1) ∧ dkN [(1, 90)] (I1 12 2) ∧ True)))) 0 0 (dkA z) := by
  refine Met.ofW (cc := cX2_takes) (maxL := 2) (ret := (some .boolean)) (by decide) rfl ?_
  intro p e s m args below meth c s₁ B hml hv
  obtain ⟨ha, hW, hK, hT⟩ := hv
  have hx := B.exec
  have hb := B.bytes
  have hr := B.returns
  have hts := atoms_spec (ws := wsX2_takes) B.pre
  have hown : s.vm.findClass RX2 = some m.cls := findClass_of_methodNamed B.named
  have hlocks := B.notSynchronized
  have hS : va_S (dkA z) s.heap s.heap [] := va_S.rf
  have hF : dkF [(12, 12, 2, 2), (12, 12, 4, 5)] I0 I0 := dkF_rf _ _
  have hl := lv_entry ([.ref (z + 12), .int p0]) (n := 2) (Nat.le_of_ble_eq_true rfl)
  have hgo : entryFrame m args 2 = entryFrame m ([.ref (z + 12), .int p0] : List Value).toArray 2 := by rw [ha]
  rw [hgo, lg_entry_eq]
  generalize (lg_sl ([.ref (z + 12), .int p0]) ++ List.replicate (2 - (lg_sl ([.ref (z + 12), .int p0])).length) Slot.unset).toArray = ls at hl ⊢
  have hl : lv_has ls 2 [(0, .ref (z + 12)), (1, .int p0)] := hl
  refine lv_aload_n hx hb dX2_takes_0 rfl (lv_at hl 0 rfl) ?_
  refine dk_Vi (As := []) (rest := []) ⟨hx, hb, hml, hown, hts⟩ (c_X2_coming_0 l g z I0 hO) (cwV 0 hts gX2_takes_X2_coming rfl rfl rfl (by decide +kernel) ⟨Nat.le_of_ble_eq_true rfl, Nat.le_of_ble_eq_true rfl⟩) (dk_at12 hW) rfl hK hT hW hS rfl hl.1 rfl (Nat.le_of_ble_eq_true rfl) dX2_takes_1 ⟨Nat.zero_le _, Nat.zero_le _⟩ (fun v1 I1 H1 L1 hp1 hW hS => ?_)
  obtain ⟨hF1, hO, hc1⟩ := hp1
  have hF := dkF_call hF hF1 rfl
  rcases hc1 with ⟨dv1, -⟩ | hc1
  ·
    refine lv_iload_n hx hb dX2_takes_4 rfl (lv_at hl 1 rfl) ?_
    refine lv_icmp_eq (tgt := 14) hx hb dX2_takes_5 (by decide) (fun c2 => ?_) (fun c2 => ?_)
    ·
      exact (dkN_nil (show dkN [] v1 from dkN_eq1 dv1 dp0 (congrArg Int32.toInt c2) rfl)).elim
    ·
      refine lv_aload_n hx hb dX2_takes_8 rfl (lv_at hl 0 rfl) ?_
      refine lv_iconst (v := 1) hx hb dX2_takes_9 (by decide) ?_
      refine dk_Vi (As := [.int 1]) (rest := []) ⟨hx, hb, hml, hown, hts⟩ (c_X2_meets_0 l g z I1 1 (dkN_lit (x := 1) (1) rfl) hO) (cwV 1 hts gX2_takes_X2_meets rfl rfl rfl (by decide +kernel) ⟨Nat.le_of_ble_eq_true rfl, Nat.le_of_ble_eq_true rfl⟩) (dk_at12 hW) rfl hK hT hW hS rfl hl.1 rfl (Nat.le_of_ble_eq_true rfl) dX2_takes_10 ⟨Nat.zero_le _, Nat.zero_le _⟩ (fun v3 I3 H3 L3 hp3 hW hS => ?_)
      obtain ⟨hF3, hO, hc3⟩ := hp3
      have hF := dkF_call hF hF3 rfl
      obtain ⟨dv3, f3_12_4, f3_12_5, -⟩ := hc3
      exact W.zret (v := v3) (ty := .boolean) hx hb hr (dkN_zr dv3 rfl) (fun t ht hW9 => ⟨⟨v3, I3, rfl, ⟨hF, hO, Or.inl ⟨dkN_sub dv3 rfl, (show dkN [(0, 90)] (I3 12 4) from dkN_sub f3_12_4 rfl), (show dkN [(1, 1)] (I3 12 5) from dkN_sub f3_12_5 rfl), trivial⟩⟩, dkW_eq ht hW⟩, hS.F ht⟩) hS.2.2 dX2_takes_13
  ·
    obtain ⟨dv1, f1_12_1, f1_12_2, -⟩ := hc1
    refine lv_iload_n hx hb dX2_takes_4 rfl (lv_at hl 1 rfl) ?_
    refine lv_icmp_eq (tgt := 14) hx hb dX2_takes_5 (by decide) (fun c4 => ?_) (fun c4 => ?_)
    ·
      have d5 : dkN [(116, 116)] v1 := dkN_eq1 dv1 dp0 (congrArg Int32.toInt c4) rfl
      refine lv_aload_n hx hb dX2_takes_14 rfl (lv_at hl 0 rfl) ?_
      refine lv_dup hx hb dX2_takes_15 rfl ?_
      refine dk_get (k := 12) hx hb hts iX2_takes_2 hown hK (dk_at12 hW) rfl 2 (by decide) (hts (.fieldLink RX2 30 "DogKings$Reader" "at" "I") (List.mem_of_getElem? (i := 1) rfl)) rfl dX2_takes_16 ?_
      refine lv_topi (fun v6 ev6 => ?_)
      have dv6 : dkN [(0, 89)] v6 := by rw [ev6]; exact f1_12_2
      refine lv_iconst (v := 1) hx hb dX2_takes_19 (by decide) ?_
      refine lv_iadd hx hb dX2_takes_20 ?_
      refine lv_topi (fun v7 ev7 => ?_)
      have dv7 : dkN [(1, 90)] v7 := by rw [ev7]; exact dkN_add dv6 (dkN_lit (x := 1) (1) rfl) rfl
      refine dk_put (k := 12) hx hb hts iX2_takes_2 tyX2 tyX2_ok nmX2 hown hK hW (dk_at12 hW) hS rfl 2 (by decide) (hts (.fieldLink RX2 30 "DogKings$Reader" "at" "I") (List.mem_of_getElem? (i := 1) rfl)) rfl rfl (Nat.le_of_ble_eq_true rfl) rfl dX2_takes_21 (fun I8 H8 L8 eI8 hW hS => ?_)
      have eI8 : I8 = dkU I1 12 2 v7 := eI8
      have hO := dkO_set hO eI8 (dkN_sub dv7 rfl)
      have hF := dkF_set hF eI8 rfl
      refine lv_iconst (v := 1) hx hb dX2_takes_24 (by decide) ?_
      exact W.zret (v := 1) (ty := .boolean) hx hb hr rfl (fun t ht hW9 => ⟨⟨1, I8, rfl, ⟨hF, hO, Or.inr (⟨dkN_sub (dkN_lit (x := 1) (1) rfl) rfl, (show dkN [(1, 90)] (I8 12 1) from dkN_sub (by rw [eI8, dkU_sn (by decide)]; exact f1_12_1) rfl), (show dkN [(1, 90)] (I8 12 2) from dkN_sub (by rw [eI8, dkU_ss]; exact dv7) rfl), trivial⟩)⟩, dkW_eq ht hW⟩, hS.F ht⟩) hS.2.2 dX2_takes_25
    ·
      have d9 : dkN [(0, 115), (117, 255)] v1 := dkN_ne1 (116) dv1 dp0 (dk_ne c4) rfl
      refine lv_aload_n hx hb dX2_takes_8 rfl (lv_at hl 0 rfl) ?_
      refine lv_iconst (v := 1) hx hb dX2_takes_9 (by decide) ?_
      refine dk_Vi (As := [.int 1]) (rest := []) ⟨hx, hb, hml, hown, hts⟩ (c_X2_meets_0 l g z I1 1 (dkN_lit (x := 1) (1) rfl) hO) (cwV 1 hts gX2_takes_X2_meets rfl rfl rfl (by decide +kernel) ⟨Nat.le_of_ble_eq_true rfl, Nat.le_of_ble_eq_true rfl⟩) (dk_at12 hW) rfl hK hT hW hS rfl hl.1 rfl (Nat.le_of_ble_eq_true rfl) dX2_takes_10 ⟨Nat.zero_le _, Nat.zero_le _⟩ (fun v10 I10 H10 L10 hp10 hW hS => ?_)
      obtain ⟨hF10, hO, hc10⟩ := hp10
      have hF := dkF_call hF hF10 rfl
      obtain ⟨dv10, f10_12_4, f10_12_5, -⟩ := hc10
      exact W.zret (v := v10) (ty := .boolean) hx hb hr (dkN_zr dv10 rfl) (fun t ht hW9 => ⟨⟨v10, I10, rfl, ⟨hF, hO, Or.inl ⟨dkN_sub dv10 rfl, (show dkN [(0, 90)] (I10 12 4) from dkN_sub f10_12_4 rfl), (show dkN [(1, 1)] (I10 12 5) from dkN_sub f10_12_5 rfl), trivial⟩⟩, dkW_eq ht hW⟩, hS.F ht⟩) hS.2.2 dX2_takes_13
set_option maxHeartbeats 4000000 in
set_option maxRecDepth 100000 in
theorem c_X2_isFigure_0 (l : Launch) (g : dkG) (z : Nat) (I0 : dkI) (p0 : Int32) (dp0 : dkN [(0, 255)] p0)  (hO : dkOk I0) : Met l yX2_isFigure wsX2_isFigure (dkR 0) (dkPc g z [.int p0] I0) (dkQi g z (fun r I1 => dkF [] I0 I1 ∧ dkOk I1 ∧ ((dkN [(0, 0)] r ∧ dkN [(0, 47), (58, 255)] p0 ∧ True) ∨ (dkN [(1, 1)] r ∧ dkN [(48, 57)] p0 ∧ True)))) 0 0 (dkA z) := by
  refine Met.ofW (cc := cX2_isFigure) (maxL := 1) (ret := (some .boolean)) (by decide) rfl ?_
  intro p e s m args below meth c s₁ B hml hv
  obtain ⟨ha, hW, hK, hT⟩ := hv
  have hx := B.exec
  have hb := B.bytes
  have hr := B.returns
  have hts := atoms_spec (ws := wsX2_isFigure) B.pre
  have hown : s.vm.findClass RX2 = some m.cls := findClass_of_methodNamed B.named
  have hlocks := B.notSynchronized
  have hS : va_S (dkA z) s.heap s.heap [] := va_S.rf
  have hF : dkF [] I0 I0 := dkF_rf _ _
  have hl := lv_entry ([.int p0]) (n := 1) (Nat.le_of_ble_eq_true rfl)
  have hgo : entryFrame m args 1 = entryFrame m ([.int p0] : List Value).toArray 1 := by rw [ha]
  rw [hgo, lg_entry_eq]
  generalize (lg_sl ([.int p0]) ++ List.replicate (1 - (lg_sl ([.int p0])).length) Slot.unset).toArray = ls at hl ⊢
  have hl : lv_has ls 1 [(0, .int p0)] := hl
  refine lv_iload_n hx hb dX2_isFigure_0 rfl (lv_at hl 0 rfl) ?_
  refine lv_bipush (v := 48) hx hb dX2_isFigure_1 (by decide) ?_
  refine lv_icmp_lt (tgt := 16) hx hb dX2_isFigure_3 (by decide) (fun c1 => ?_) (fun c1 => ?_)
  ·
    have d2 : dkN [(0, 47)] p0 := dkN_le1 1 dp0 (dkN_lit (x := 48) (48) rfl) (dkc_lt c1) rfl
    refine lv_iconst (v := 0) hx hb dX2_isFigure_16 (by decide) ?_
    exact W.zret (v := 0) (ty := .boolean) hx hb hr rfl (fun t ht hW9 => ⟨⟨0, I0, rfl, ⟨hF, hO, Or.inl ⟨dkN_sub (dkN_lit (x := 0) (0) rfl) rfl, dkN_sub d2 rfl, trivial⟩⟩, dkW_eq ht hW⟩, hS.F ht⟩) hS.2.2 dX2_isFigure_17
  ·
    have d3 : dkN [(48, 255)] p0 := dkN_le2 0 (dkN_lit (x := 48) (48) rfl) dp0 (dkc_nlt c1) rfl
    refine lv_iload_n hx hb dX2_isFigure_6 rfl (lv_at hl 0 rfl) ?_
    refine lv_bipush (v := 57) hx hb dX2_isFigure_7 (by decide) ?_
    refine lv_icmp_gt (tgt := 16) hx hb dX2_isFigure_9 (by decide) (fun c4 => ?_) (fun c4 => ?_)
    ·
      have d5 : dkN [(58, 255)] p0 := dkN_le2 1 (dkN_lit (x := 57) (57) rfl) d3 (dkc_lt c4) rfl
      refine lv_iconst (v := 0) hx hb dX2_isFigure_16 (by decide) ?_
      exact W.zret (v := 0) (ty := .boolean) hx hb hr rfl (fun t ht hW9 => ⟨⟨0, I0, rfl, ⟨hF, hO, Or.inl ⟨dkN_sub (dkN_lit (x := 0) (0) rfl) rfl, dkN_sub d5 rfl, trivial⟩⟩, dkW_eq ht hW⟩, hS.F ht⟩) hS.2.2 dX2_isFigure_17
    ·
      have d6 : dkN [(48, 57)] p0 := dkN_le1 0 d3 (dkN_lit (x := 57) (57) rfl) (dkc_nlt c4) rfl
      refine lv_iconst (v := 1) hx hb dX2_isFigure_12 (by decide) ?_
      refine lv_goto (tgt := 17) hx hb dX2_isFigure_13 (by decide) ?_
      exact W.zret (v := 1) (ty := .boolean) hx hb hr rfl (fun t ht hW9 => ⟨⟨1, I0, rfl, ⟨hF, hO, Or.inr (⟨dkN_sub (dkN_lit (x := 1) (1) rfl) rfl, dkN_sub d6 rfl, trivial⟩)⟩, dkW_eq ht hW⟩, hS.F ht⟩) hS.2.2 dX2_isFigure_17
set_option maxHeartbeats 4000000 in
set_option maxRecDepth 100000 in
theorem c_X2_meets_1 (l : Launch) (g : dkG) (z : Nat) (I0 : dkI) (p0 : Int32) (dp0 : dkN [(2, 2)] p0)  (hO : dkOk I0) : Met l yX2_meets wsX2_meets (dkR 0) (dkPc g z [.ref (z + 12), .int p0] I0) (dkQi g z (fun r I1 => dkF [(12, 12, 4, 5)] I0 I1 ∧ dkOk I1 ∧ ((dkN [(0, 0)] r ∧ dkN [(0, 90)] (I1 12 4) ∧ dkN [(2, 2)] (I1 12 5) ∧ True)))) 0 0 (dkA z) := by
  refine Met.ofW (cc := cX2_meets) (maxL := 2) (ret := (some .boolean)) (by decide) rfl ?_
  intro p e s m args below meth c s₁ B hml hv
  obtain ⟨ha, hW, hK, hT⟩ := hv
  have hx := B.exec
  have hb := B.bytes
  have hr := B.returns
  have hts := atoms_spec (ws := wsX2_meets) B.pre
  have hown : s.vm.findClass RX2 = some m.cls := findClass_of_methodNamed B.named
  have hlocks := B.notSynchronized
  have hS : va_S (dkA z) s.heap s.heap [] := va_S.rf
  have hF : dkF [(12, 12, 4, 5)] I0 I0 := dkF_rf _ _
  have hl := lv_entry ([.ref (z + 12), .int p0]) (n := 2) (Nat.le_of_ble_eq_true rfl)
  have hgo : entryFrame m args 2 = entryFrame m ([.ref (z + 12), .int p0] : List Value).toArray 2 := by rw [ha]
  rw [hgo, lg_entry_eq]
  generalize (lg_sl ([.ref (z + 12), .int p0]) ++ List.replicate (2 - (lg_sl ([.ref (z + 12), .int p0])).length) Slot.unset).toArray = ls at hl ⊢
  have hl : lv_has ls 2 [(0, .ref (z + 12)), (1, .int p0)] := hl
  refine lv_aload_n hx hb dX2_meets_0 rfl (lv_at hl 0 rfl) ?_
  refine lv_aload_n hx hb dX2_meets_1 rfl (lv_at hl 0 rfl) ?_
  refine dk_get (k := 12) hx hb hts iX2_meets_2 hown hK (dk_at12 hW) rfl 2 (by decide) (hts (.fieldLink RX2 30 "DogKings$Reader" "at" "I") (List.mem_of_getElem? (i := 1) rfl)) rfl dX2_meets_2 ?_
  refine lv_topi (fun v1 ev1 => ?_)
  have dv1 : dkN [(0, 90)] v1 := by rw [ev1]; exact (hO 12 2)
  refine dk_put (k := 12) hx hb hts iX2_meets_2 tyX2 tyX2_ok nmX2 hown hK hW (dk_at12 hW) hS rfl 4 (by decide) (hts (.fieldLink RX2 88 "DogKings$Reader" "faultPlace" "I") (List.mem_of_getElem? (i := 2) rfl)) rfl rfl (Nat.le_of_ble_eq_true rfl) rfl dX2_meets_5 (fun I2 H2 L2 eI2 hW hS => ?_)
  have eI2 : I2 = dkU I0 12 4 v1 := eI2
  have hO := dkO_set hO eI2 (dkN_sub dv1 rfl)
  have hF := dkF_set hF eI2 rfl
  refine lv_aload_n hx hb dX2_meets_8 rfl (lv_at hl 0 rfl) ?_
  refine lv_iload_n hx hb dX2_meets_9 rfl (lv_at hl 1 rfl) ?_
  refine dk_put (k := 12) hx hb hts iX2_meets_2 tyX2 tyX2_ok nmX2 hown hK hW (dk_at12 hW) hS rfl 5 (by decide) (hts (.fieldLink RX2 91 "DogKings$Reader" "faultNumber" "I") (List.mem_of_getElem? (i := 3) rfl)) rfl rfl (Nat.le_of_ble_eq_true rfl) rfl dX2_meets_10 (fun I3 H3 L3 eI3 hW hS => ?_)
  have eI3 : I3 = dkU I2 12 5 p0 := eI3
  have hO := dkO_set hO eI3 (dkN_sub dp0 rfl)
  have hF := dkF_set hF eI3 rfl
  refine lv_iconst (v := 0) hx hb dX2_meets_13 (by decide) ?_
  exact W.zret (v := 0) (ty := .boolean) hx hb hr rfl (fun t ht hW9 => ⟨⟨0, I3, rfl, ⟨hF, hO, ⟨dkN_sub (dkN_lit (x := 0) (0) rfl) rfl, (show dkN [(0, 90)] (I3 12 4) from dkN_sub (by rw [eI3, dkU_sn (by decide)]; exact (by rw [eI2, dkU_ss]; exact dv1)) rfl), (show dkN [(2, 2)] (I3 12 5) from dkN_sub (by rw [eI3, dkU_ss]; exact dp0) rfl), trivial⟩⟩, dkW_eq ht hW⟩, hS.F ht⟩) hS.2.2 dX2_meets_14
set_option maxHeartbeats 4000000 in
set_option maxRecDepth 100000 in
theorem c_X2_number_0 (l : Launch) (g : dkG) (z : Nat) (I0 : dkI) (p0 : Int32) (p1 : Int32) (dp0 : dkN [(3, 3)] p0) (dp1 : dkN [(9, 9)] p1)  (hO : dkOk I0) : Met l yX2_number wsX2_number (dkR 1) (dkPc g z [.ref (z + 12), .int p0, .int p1] I0) (dkQi g z (fun r I1 => dkF [(12, 12, 2, 2), (12, 12, 4, 5)] I0 I1 ∧ dkOk I1 ∧ ((dkN [(-1000000, -1000000)] r ∧ dkN [(0, 90)] (I1 12 4) ∧ dkN [(1, 2)] (I1 12 5) ∧ True) ∨ (dkN [(3, 9)] r ∧ True)))) 0 0 (dkA z) := by
  refine Met.ofW (cc := cX2_number) (maxL := 5) (ret := (some .int)) (by decide) rfl ?_
  intro p e s m args below meth c s₁ B hml hv
  obtain ⟨ha, hW, hK, hT⟩ := hv
  have hx := B.exec
  have hb := B.bytes
  have hr := B.returns
  have hts := atoms_spec (ws := wsX2_number) B.pre
  have hown : s.vm.findClass RX2 = some m.cls := findClass_of_methodNamed B.named
  have hlocks := B.notSynchronized
  have hS : va_S (dkA z) s.heap s.heap [] := va_S.rf
  have hF : dkF [(12, 12, 2, 2), (12, 12, 4, 5)] I0 I0 := dkF_rf _ _
  have hl := lv_entry ([.ref (z + 12), .int p0, .int p1]) (n := 5) (Nat.le_of_ble_eq_true rfl)
  have hgo : entryFrame m args 5 = entryFrame m ([.ref (z + 12), .int p0, .int p1] : List Value).toArray 5 := by rw [ha]
  rw [hgo, lg_entry_eq]
  generalize (lg_sl ([.ref (z + 12), .int p0, .int p1]) ++ List.replicate (5 - (lg_sl ([.ref (z + 12), .int p0, .int p1])).length) Slot.unset).toArray = ls at hl ⊢
  have hl : lv_has ls 5 [(0, .ref (z + 12)), (1, .int p0), (2, .int p1)] := hl
  have C83 : ∀ (I : dkI) (H : Heap) (locs : List Loc) (ls : Array Slot) (x83_3 : Int32) (x83_4 : Int32), dkW g z I H → va_S (dkA z) s.heap H locs → dkF [(12, 12, 2, 2), (12, 12, 4, 5)] I0 I → dkOk I → dkN [(0, 90)] x83_4 → lv_has ls 5 [(0, .ref (z + 12)), (1, .int p0), (2, .int p1), (3, .int x83_3), (4, .int x83_4)] → W p l e (headSpec wsX2_number (dkR 1)).room s m args below meth c H locs 0 0 (MQ below (dkQi g z (fun r I1 => dkF [(12, 12, 2, 2), (12, 12, 4, 5)] I0 I1 ∧ dkOk I1 ∧ ((dkN [(-1000000, -1000000)] r ∧ dkN [(0, 90)] (I1 12 4) ∧ dkN [(1, 2)] (I1 12 5) ∧ True) ∨ (dkN [(3, 9)] r ∧ True)))) args s 0 0 (dkA z)) (F0 m 83 ls []) := by
    intro I83_ H locs ls x83_3 x83_4 hW hS hF_83 hO k83_1 hl
    have hF := hF_83
    refine lv_aload_n hx hb dX2_number_83 rfl (lv_at hl 0 rfl) ?_
    refine lv_iconst (v := 1) hx hb dX2_number_84 (by decide) ?_
    refine dk_Vi (As := [.int 1]) (rest := []) ⟨hx, hb, hml, hown, hts⟩ (c_X2_meets_0 l g z I83_ 1 (dkN_lit (x := 1) (1) rfl) hO) (cwV 1 hts gX2_number_X2_meets rfl rfl rfl (by decide +kernel) ⟨Nat.le_of_ble_eq_true rfl, Nat.le_of_ble_eq_true rfl⟩) (dk_at12 hW) rfl hK hT hW hS rfl hl.1 rfl (Nat.le_of_ble_eq_true rfl) dX2_number_85 ⟨Nat.zero_le _, Nat.zero_le _⟩ (fun v1 I1 H1 L1 hp1 hW hS => ?_)
    obtain ⟨hF1, hO, hc1⟩ := hp1
    have hF := dkF_call hF hF1 rfl
    obtain ⟨dv1, f1_12_4, f1_12_5, -⟩ := hc1
    refine lv_pop hx hb dX2_number_88 rfl ?_
    refine lv_ldc (v := (-1000000)) hx hb hown (hts (.constant RX2 50 (-1000000)) (List.mem_of_getElem? (i := 4) rfl)) dX2_number_89 ?_
    exact W.iret (v := (-1000000)) hx hb hr (fun t ht hW9 => ⟨⟨(-1000000), I1, rfl, ⟨hF, hO, Or.inl ⟨dkN_sub (dkN_lit (x := (-1000000)) (-1000000) rfl) rfl, (show dkN [(0, 90)] (I1 12 4) from dkN_sub f1_12_4 rfl), (show dkN [(1, 2)] (I1 12 5) from dkN_sub f1_12_5 rfl), trivial⟩⟩, dkW_eq ht hW⟩, hS.F ht⟩) hS.2.2 dX2_number_91
  have C102 : ∀ (I : dkI) (H : Heap) (locs : List Loc) (ls : Array Slot) (x102_3 : Int32) (x102_4 : Int32), dkW g z I H → va_S (dkA z) s.heap H locs → dkF [(12, 12, 2, 2), (12, 12, 4, 5)] I0 I → dkOk I → dkN [(-2147483648, 2), (10, 2147483647)] x102_3 → dkN [(0, 90)] x102_4 → lv_has ls 5 [(0, .ref (z + 12)), (1, .int p0), (2, .int p1), (3, .int x102_3), (4, .int x102_4)] → W p l e (headSpec wsX2_number (dkR 1)).room s m args below meth c H locs 0 0 (MQ below (dkQi g z (fun r I1 => dkF [(12, 12, 2, 2), (12, 12, 4, 5)] I0 I1 ∧ dkOk I1 ∧ ((dkN [(-1000000, -1000000)] r ∧ dkN [(0, 90)] (I1 12 4) ∧ dkN [(1, 2)] (I1 12 5) ∧ True) ∨ (dkN [(3, 9)] r ∧ True)))) args s 0 0 (dkA z)) (F0 m 102 ls []) := by
    intro I102_ H locs ls x102_3 x102_4 hW hS hF_102 hO k102_0 k102_1 hl
    have hF := hF_102
    refine lv_aload_n hx hb dX2_number_102 rfl (lv_at hl 0 rfl) ?_
    refine lv_iconst (v := 2) hx hb dX2_number_103 (by decide) ?_
    refine dk_Vi (As := [.int 2]) (rest := []) ⟨hx, hb, hml, hown, hts⟩ (c_X2_meets_1 l g z I102_ 2 (dkN_lit (x := 2) (2) rfl) hO) (cwV 1 hts gX2_number_X2_meets rfl rfl rfl (by decide +kernel) ⟨Nat.le_of_ble_eq_true rfl, Nat.le_of_ble_eq_true rfl⟩) (dk_at12 hW) rfl hK hT hW hS rfl hl.1 rfl (Nat.le_of_ble_eq_true rfl) dX2_number_104 ⟨Nat.zero_le _, Nat.zero_le _⟩ (fun v2 I2 H2 L2 hp2 hW hS => ?_)
    obtain ⟨hF2, hO, hc2⟩ := hp2
    have hF := dkF_call hF hF2 rfl
    obtain ⟨dv2, f2_12_4, f2_12_5, -⟩ := hc2
    refine lv_pop hx hb dX2_number_107 rfl ?_
    refine lv_ldc (v := (-1000000)) hx hb hown (hts (.constant RX2 50 (-1000000)) (List.mem_of_getElem? (i := 4) rfl)) dX2_number_108 ?_
    exact W.iret (v := (-1000000)) hx hb hr (fun t ht hW9 => ⟨⟨(-1000000), I2, rfl, ⟨hF, hO, Or.inl ⟨dkN_sub (dkN_lit (x := (-1000000)) (-1000000) rfl) rfl, (show dkN [(0, 90)] (I2 12 4) from dkN_sub f2_12_4 rfl), (show dkN [(1, 2)] (I2 12 5) from dkN_sub f2_12_5 rfl), trivial⟩⟩, dkW_eq ht hW⟩, hS.F ht⟩) hS.2.2 dX2_number_110
  have C63 : ∀ (I : dkI) (H : Heap) (locs : List Loc) (ls : Array Slot) (x63_3 : Int32) (x63_4 : Int32), dkW g z I H → va_S (dkA z) s.heap H locs → dkF [(12, 12, 2, 2), (12, 12, 4, 5)] I0 I → dkOk I → dkN [(0, 90)] x63_4 → lv_has ls 5 [(0, .ref (z + 12)), (1, .int p0), (2, .int p1), (3, .int x63_3), (4, .int x63_4)] → W p l e (headSpec wsX2_number (dkR 1)).room s m args below meth c H locs 0 0 (MQ below (dkQi g z (fun r I1 => dkF [(12, 12, 2, 2), (12, 12, 4, 5)] I0 I1 ∧ dkOk I1 ∧ ((dkN [(-1000000, -1000000)] r ∧ dkN [(0, 90)] (I1 12 4) ∧ dkN [(1, 2)] (I1 12 5) ∧ True) ∨ (dkN [(3, 9)] r ∧ True)))) args s 0 0 (dkA z)) (F0 m 63 ls []) := by
    intro I63_ H locs ls x63_3 x63_4 hW hS hF_63 hO k63_1 hl
    have hF := hF_63
    refine lv_iload hx hb dX2_number_63 (lv_at hl 4 rfl) ?_
    refine lv_aload_n hx hb dX2_number_65 rfl (lv_at hl 0 rfl) ?_
    refine dk_get (k := 12) hx hb hts iX2_number_2 hown hK (dk_at12 hW) rfl 2 (by decide) (hts (.fieldLink RX2 30 "DogKings$Reader" "at" "I") (List.mem_of_getElem? (i := 1) rfl)) rfl dX2_number_66 ?_
    refine lv_topi (fun v3 ev3 => ?_)
    have dv3 : dkN [(0, 90)] v3 := by rw [ev3]; exact (hO 12 2)
    refine lv_icmp_eq (tgt := 83) hx hb dX2_number_69 (by decide) (fun c4 => ?_) (fun c4 => ?_)
    ·
      exact C83 I63_ _ _ ls x63_3 x63_4 hW hS hF hO (dkN_sub k63_1 rfl) (lv_sub hl [0, 1, 2, 3, 4] rfl)
    ·
      refine lv_iload hx hb dX2_number_72 (lv_at hl 4 rfl) ?_
      refine lv_aload_n hx hb dX2_number_74 rfl (lv_at hl 0 rfl) ?_
      refine dk_get (k := 12) hx hb hts iX2_number_2 hown hK (dk_at12 hW) rfl 2 (by decide) (hts (.fieldLink RX2 30 "DogKings$Reader" "at" "I") (List.mem_of_getElem? (i := 1) rfl)) rfl dX2_number_75 ?_
      refine lv_topi (fun v5 ev5 => ?_)
      have dv5 : dkN [(0, 90)] v5 := by rw [ev5]; exact (hO 12 2)
      refine lv_isub hx hb dX2_number_78 ?_
      refine lv_topi (fun v6 ev6 => ?_)
      have dv6 : dkN [(-90, 90)] v6 := by rw [ev6]; exact dkN_subt k63_1 dv5 rfl
      refine lv_iconst (v := 2) hx hb dX2_number_79 (by decide) ?_
      refine lv_icmp_le (tgt := 92) hx hb dX2_number_80 (by decide) (fun c7 => ?_) (fun c7 => ?_)
      ·
        have d8 : dkN [(-90, 2)] v6 := dkN_le1 0 dv6 (dkN_lit (x := 2) (2) rfl) (dkc_le c7) rfl
        refine lv_iload_n hx hb dX2_number_92 rfl (lv_at hl 3 rfl) ?_
        refine lv_iload_n hx hb dX2_number_93 rfl (lv_at hl 1 rfl) ?_
        refine lv_icmp_lt (tgt := 102) hx hb dX2_number_94 (by decide) (fun c9 => ?_) (fun c9 => ?_)
        ·
          have d10 : dkN [(-2147483648, 2)] x63_3 := dkN_le1 1 (dkN_top x63_3) dp0 (dkc_lt c9) rfl
          exact C102 I63_ _ _ ls x63_3 x63_4 hW hS hF hO (dkN_sub d10 rfl) (dkN_sub k63_1 rfl) (lv_sub hl [0, 1, 2, 3, 4] rfl)
        ·
          have d11 : dkN [(3, 2147483647)] x63_3 := dkN_le2 0 dp0 (dkN_top x63_3) (dkc_nlt c9) rfl
          refine lv_iload_n hx hb dX2_number_97 rfl (lv_at hl 3 rfl) ?_
          refine lv_iload_n hx hb dX2_number_98 rfl (lv_at hl 2 rfl) ?_
          refine lv_icmp_le (tgt := 111) hx hb dX2_number_99 (by decide) (fun c12 => ?_) (fun c12 => ?_)
          ·
            have d13 : dkN [(3, 9)] x63_3 := dkN_le1 0 d11 dp1 (dkc_le c12) rfl
            refine lv_aload_n hx hb dX2_number_111 rfl (lv_at hl 0 rfl) ?_
            refine lv_iload hx hb dX2_number_112 (lv_at hl 4 rfl) ?_
            refine dk_put (k := 12) hx hb hts iX2_number_2 tyX2 tyX2_ok nmX2 hown hK hW (dk_at12 hW) hS rfl 2 (by decide) (hts (.fieldLink RX2 30 "DogKings$Reader" "at" "I") (List.mem_of_getElem? (i := 1) rfl)) rfl rfl (Nat.le_of_ble_eq_true rfl) rfl dX2_number_114 (fun I14 H14 L14 eI14 hW hS => ?_)
            have eI14 : I14 = dkU I63_ 12 2 x63_4 := eI14
            have hO := dkO_set hO eI14 (dkN_sub k63_1 rfl)
            have hF := dkF_set hF eI14 rfl
            refine lv_iload_n hx hb dX2_number_117 rfl (lv_at hl 3 rfl) ?_
            exact W.iret (v := x63_3) hx hb hr (fun t ht hW9 => ⟨⟨x63_3, I14, rfl, ⟨hF, hO, Or.inr (⟨dkN_sub d13 rfl, trivial⟩)⟩, dkW_eq ht hW⟩, hS.F ht⟩) hS.2.2 dX2_number_118
          ·
            have d15 : dkN [(10, 2147483647)] x63_3 := dkN_le2 1 dp1 d11 (dkc_nle c12) rfl
            exact C102 I63_ _ _ ls x63_3 x63_4 hW hS hF hO (dkN_sub d15 rfl) (dkN_sub k63_1 rfl) (lv_sub hl [0, 1, 2, 3, 4] rfl)
      ·
        have d16 : dkN [(3, 90)] v6 := dkN_le2 1 (dkN_lit (x := 2) (2) rfl) dv6 (dkc_nle c7) rfl
        exact C83 I63_ _ _ ls x63_3 x63_4 hW hS hF hO (dkN_sub k63_1 rfl) (lv_sub hl [0, 1, 2, 3, 4] rfl)
  have C8 : ∀ (n : Nat), ∀ (I : dkI) (H : Heap) (locs : List Loc) (ls : Array Slot) (x8_3 : Int32) (x8_4 : Int32), (90 - x8_4.toInt).toNat < n → dkW g z I H → va_S (dkA z) s.heap H locs → dkF [(12, 12, 2, 2), (12, 12, 4, 5)] I0 I → dkOk I → dkN [(0, 90)] x8_4 → lv_has ls 5 [(0, .ref (z + 12)), (1, .int p0), (2, .int p1), (3, .int x8_3), (4, .int x8_4)] → W p l e (headSpec wsX2_number (dkR 1)).room s m args below meth c H locs 0 0 (MQ below (dkQi g z (fun r I1 => dkF [(12, 12, 2, 2), (12, 12, 4, 5)] I0 I1 ∧ dkOk I1 ∧ ((dkN [(-1000000, -1000000)] r ∧ dkN [(0, 90)] (I1 12 4) ∧ dkN [(1, 2)] (I1 12 5) ∧ True) ∨ (dkN [(3, 9)] r ∧ True)))) args s 0 0 (dkA z)) (F0 m 8 ls []) := by
    intro n
    induction n with
    | zero => intro I H locs ls x8_3 x8_4 hn; exact absurd hn (Nat.not_lt_zero _)
    | succ n ih8 =>
      intro I8_ H locs ls x8_3 x8_4 hn8 hW hS hF_8 hO k8_1 hl
      have hF := hF_8
      refine lv_iload hx hb dX2_number_8 (lv_at hl 4 rfl) ?_
      refine lv_aload_n hx hb dX2_number_10 rfl (lv_at hl 0 rfl) ?_
      refine dk_get (k := 12) hx hb hts iX2_number_2 hown hK (dk_at12 hW) rfl 1 (by decide) (hts (.fieldLink RX2 22 "DogKings$Reader" "bytes" "I") (List.mem_of_getElem? (i := 2) rfl)) rfl dX2_number_11 ?_
      refine lv_topi (fun v17 ev17 => ?_)
      have dv17 : dkN [(0, 90)] v17 := by rw [ev17]; exact (hO 12 1)
      refine lv_icmp_ge (tgt := 63) hx hb dX2_number_14 (by decide) (fun c18 => ?_) (fun c18 => ?_)
      ·
        exact C63 I8_ _ _ ls x8_3 x8_4 hW hS hF hO (dkN_sub k8_1 rfl) (lv_sub hl [0, 1, 2, 3, 4] rfl)
      ·
        have d19 : dkN [(1, 90)] v17 := dkN_le2 1 k8_1 dv17 (dkc_nle c18) rfl
        have f20 : dkN [(1, 90)] (I8_ 12 1) := by rw [← ev17]; exact d19
        have d21 : dkN [(0, 89)] x8_4 := dkN_le1 1 k8_1 dv17 (dkc_nle c18) rfl
        refine lv_aload_n hx hb dX2_number_17 rfl (lv_at hl 0 rfl) ?_
        refine dk_get (k := 12) hx hb hts iX2_number_2 hown hK (dk_at12 hW) rfl 0 (by decide) (hts (.fieldLink RX2 11 "DogKings$Reader" "tape" "[I") (List.mem_of_getElem? (i := 3) rfl)) rfl dX2_number_18 ?_
        refine lv_iload hx hb dX2_number_21 (lv_at hl 4 rfl) ?_
        refine dk_ild (k := 13) hx hb hK (dk_at13 hW) (dkN_in (n := 90) d21 rfl) dX2_number_23 ?_
        refine lv_topi (fun v22 ev22 => ?_)
        have dv22 : dkN [(0, 255)] v22 := by rw [ev22]; exact (hO 13 _)
        refine dk_Si (As := [.int v22]) (rest := []) ⟨hx, hb, hml, hown, hts⟩ (c_X2_isFigure_0 l g z I8_ v22 dv22 hO) (va_cwS 1 hts gX2_number_X2_isFigure rfl rfl rfl (by decide +kernel) ⟨Nat.le_of_ble_eq_true rfl, Nat.le_of_ble_eq_true rfl⟩) hK hT hW hS rfl hl.1 rfl (Nat.le_of_ble_eq_true rfl) dX2_number_24 ⟨Nat.zero_le _, Nat.zero_le _⟩ (fun v23 I23 H23 L23 hp23 hW hS => ?_)
        obtain ⟨hF23, hO, hc23⟩ := hp23
        have hF := dkF_call hF hF23 rfl
        rcases hc23 with ⟨dv23, a23_0, -⟩ | hc23
        ·
          have d24 : dkN [(0, 47), (58, 255)] v22 := dkN_eq1 dv22 a23_0 rfl rfl
          refine lv_if_eq (tgt := 63) hx hb dX2_number_27 (by decide) (fun c25 => ?_) (fun c25 => ?_)
          ·
            exact C63 I23 _ _ ls x8_3 x8_4 hW hS hF hO (dkN_sub d21 rfl) (lv_sub hl [0, 1, 2, 3, 4] rfl)
          ·
            exact (dkN_nil (show dkN [] v23 from dkN_ne1 (0) dv23 (dkN_lit (x := 0) (0) rfl) (dk_ne c25) rfl)).elim
        ·
          obtain ⟨dv23, a23_0, -⟩ := hc23
          have d26 : dkN [(48, 57)] v22 := dkN_eq1 dv22 a23_0 rfl rfl
          refine lv_if_eq (tgt := 63) hx hb dX2_number_27 (by decide) (fun c27 => ?_) (fun c27 => ?_)
          ·
            exact (dkN_nil (show dkN [] v23 from dkN_eq1 dv23 (dkN_lit (x := 0) (0) rfl) (congrArg Int32.toInt c27) rfl)).elim
          ·
            refine lv_iload hx hb dX2_number_30 (lv_at hl 4 rfl) ?_
            refine lv_aload_n hx hb dX2_number_32 rfl (lv_at hl 0 rfl) ?_
            refine dk_get (k := 12) hx hb hts iX2_number_2 hown hK (dk_at12 hW) rfl 2 (by decide) (hts (.fieldLink RX2 30 "DogKings$Reader" "at" "I") (List.mem_of_getElem? (i := 1) rfl)) rfl dX2_number_33 ?_
            refine lv_topi (fun v28 ev28 => ?_)
            have dv28 : dkN [(0, 90)] v28 := by rw [ev28]; exact (hO 12 2)
            refine lv_isub hx hb dX2_number_36 ?_
            refine lv_topi (fun v29 ev29 => ?_)
            have dv29 : dkN [(-90, 89)] v29 := by rw [ev29]; exact dkN_subt d21 dv28 rfl
            refine lv_iconst (v := 3) hx hb dX2_number_37 (by decide) ?_
            refine lv_icmp_ge (tgt := 63) hx hb dX2_number_38 (by decide) (fun c30 => ?_) (fun c30 => ?_)
            ·
              have d31 : dkN [(3, 89)] v29 := dkN_le2 0 (dkN_lit (x := 3) (3) rfl) dv29 (dkc_le c30) rfl
              exact C63 I23 _ _ ls x8_3 x8_4 hW hS hF hO (dkN_sub d21 rfl) (lv_sub hl [0, 1, 2, 3, 4] rfl)
            ·
              have d32 : dkN [(-90, 2)] v29 := dkN_le1 1 dv29 (dkN_lit (x := 3) (3) rfl) (dkc_nle c30) rfl
              refine lv_bipush (v := 10) hx hb dX2_number_41 (by decide) ?_
              refine lv_iload_n hx hb dX2_number_43 rfl (lv_at hl 3 rfl) ?_
              refine lv_imul hx hb dX2_number_44 ?_
              refine lv_topi (fun v33 ev33 => ?_)
              refine lv_aload_n hx hb dX2_number_45 rfl (lv_at hl 0 rfl) ?_
              refine dk_get (k := 12) hx hb hts iX2_number_2 hown hK (dk_at12 hW) rfl 0 (by decide) (hts (.fieldLink RX2 11 "DogKings$Reader" "tape" "[I") (List.mem_of_getElem? (i := 3) rfl)) rfl dX2_number_46 ?_
              refine lv_iload hx hb dX2_number_49 (lv_at hl 4 rfl) ?_
              refine dk_ild (k := 13) hx hb hK (dk_at13 hW) (dkN_in (n := 90) d21 rfl) dX2_number_51 ?_
              refine lv_topi (fun v34 ev34 => ?_)
              have dv34 : dkN [(0, 255)] v34 := by rw [ev34]; exact (hO 13 _)
              refine lv_iadd hx hb dX2_number_52 ?_
              refine lv_topi (fun v35 ev35 => ?_)
              refine lv_bipush (v := 48) hx hb dX2_number_53 (by decide) ?_
              refine lv_isub hx hb dX2_number_55 ?_
              refine lv_topi (fun v36 ev36 => ?_)
              refine lv_istore_n (lv' := [(3, .int v36), (0, .ref (z + 12)), (1, .int p0), (2, .int p1), (4, .int x8_4)]) hx hb dX2_number_56 rfl hl (by decide) rfl (fun ls hl => ?_)
              obtain ⟨v37, ev37⟩ : ∃ y : Int32, y = x8_4 + 1 := ⟨_, rfl⟩
              have dv37 : dkN [(1, 90)] v37 := by rw [ev37]; exact dkN_add d21 (dkN_lit (x := 1) (1) rfl) rfl
              refine lv_iinc (v := v37) (lv' := [(4, .int v37), (3, .int v36), (0, .ref (z + 12)), (1, .int p0), (2, .int p1)]) hx hb dX2_number_57 hl (k := 4) rfl (by rw [ev37]; rfl) (by decide) rfl (fun ls hl => ?_)
              refine lv_goto (tgt := 8) hx hb dX2_number_60 (by decide) ?_
              exact ih8 I23 _ _ ls v36 v37 (dk_near hn8 (by rw [ev37]; exact dk_inc d21 rfl) (dkN_lt d21 rfl)) hW hS hF hO (dkN_sub dv37 rfl) (lv_sub hl [2, 3, 4, 1, 0] rfl)
  refine lv_iconst (v := 0) hx hb dX2_number_0 (by decide) ?_
  refine lv_istore_n (lv' := [(3, .int 0), (0, .ref (z + 12)), (1, .int p0), (2, .int p1)]) hx hb dX2_number_1 rfl hl (by decide) rfl (fun ls hl => ?_)
  refine lv_aload_n hx hb dX2_number_2 rfl (lv_at hl 1 rfl) ?_
  refine dk_get (k := 12) hx hb hts iX2_number_2 hown hK (dk_at12 hW) rfl 2 (by decide) (hts (.fieldLink RX2 30 "DogKings$Reader" "at" "I") (List.mem_of_getElem? (i := 1) rfl)) rfl dX2_number_3 ?_
  refine lv_topi (fun v38 ev38 => ?_)
  have dv38 : dkN [(0, 90)] v38 := by rw [ev38]; exact (hO 12 2)
  refine lv_istore (lv' := [(4, .int v38), (3, .int 0), (0, .ref (z + 12)), (1, .int p0), (2, .int p1)]) hx hb dX2_number_6 hl (by decide) rfl (fun ls hl => ?_)
  exact C8 _ I0 _ _ ls 0 v38 (Nat.lt_succ_self _) hW hS hF hO (dkN_sub dv38 rfl) (lv_sub hl [2, 3, 4, 1, 0] rfl)
set_option maxHeartbeats 4000000 in
set_option maxRecDepth 100000 in
theorem c_X2_takes_1 (l : Launch) (g : dkG) (z : Nat) (I0 : dkI) (p0 : Int32) (dp0 : dkN [(44, 44)] p0)  (hO : dkOk I0) : Met l yX2_takes wsX2_takes (dkR 1) (dkPc g z [.ref (z + 12), .int p0] I0) (dkQi g z (fun r I1 => dkF [(12, 12, 2, 2), (12, 12, 4, 5)] I0 I1 ∧ dkOk I1 ∧ ((dkN [(0, 0)] r ∧ dkN [(0, 90)] (I1 12 4) ∧ dkN [(1, 1)] (I1 12 5) ∧ True) ∨ (dkN [(1, 1)] r ∧ dkN [(1, 90)] (I1 12 1) ∧ dkN [(1, 90)] (I1 12 2) ∧ True)))) 0 0 (dkA z) := by
  refine Met.ofW (cc := cX2_takes) (maxL := 2) (ret := (some .boolean)) (by decide) rfl ?_
  intro p e s m args below meth c s₁ B hml hv
  obtain ⟨ha, hW, hK, hT⟩ := hv
  have hx := B.exec
  have hb := B.bytes
  have hr := B.returns
  have hts := atoms_spec (ws := wsX2_takes) B.pre
  have hown : s.vm.findClass RX2 = some m.cls := findClass_of_methodNamed B.named
  have hlocks := B.notSynchronized
  have hS : va_S (dkA z) s.heap s.heap [] := va_S.rf
  have hF : dkF [(12, 12, 2, 2), (12, 12, 4, 5)] I0 I0 := dkF_rf _ _
  have hl := lv_entry ([.ref (z + 12), .int p0]) (n := 2) (Nat.le_of_ble_eq_true rfl)
  have hgo : entryFrame m args 2 = entryFrame m ([.ref (z + 12), .int p0] : List Value).toArray 2 := by rw [ha]
  rw [hgo, lg_entry_eq]
  generalize (lg_sl ([.ref (z + 12), .int p0]) ++ List.replicate (2 - (lg_sl ([.ref (z + 12), .int p0])).length) Slot.unset).toArray = ls at hl ⊢
  have hl : lv_has ls 2 [(0, .ref (z + 12)), (1, .int p0)] := hl
  refine lv_aload_n hx hb dX2_takes_0 rfl (lv_at hl 0 rfl) ?_
  refine dk_Vi (As := []) (rest := []) ⟨hx, hb, hml, hown, hts⟩ (c_X2_coming_0 l g z I0 hO) (cwV 0 hts gX2_takes_X2_coming rfl rfl rfl (by decide +kernel) ⟨Nat.le_of_ble_eq_true rfl, Nat.le_of_ble_eq_true rfl⟩) (dk_at12 hW) rfl hK hT hW hS rfl hl.1 rfl (Nat.le_of_ble_eq_true rfl) dX2_takes_1 ⟨Nat.zero_le _, Nat.zero_le _⟩ (fun v1 I1 H1 L1 hp1 hW hS => ?_)
  obtain ⟨hF1, hO, hc1⟩ := hp1
  have hF := dkF_call hF hF1 rfl
  rcases hc1 with ⟨dv1, -⟩ | hc1
  ·
    refine lv_iload_n hx hb dX2_takes_4 rfl (lv_at hl 1 rfl) ?_
    refine lv_icmp_eq (tgt := 14) hx hb dX2_takes_5 (by decide) (fun c2 => ?_) (fun c2 => ?_)
    ·
      exact (dkN_nil (show dkN [] v1 from dkN_eq1 dv1 dp0 (congrArg Int32.toInt c2) rfl)).elim
    ·
      refine lv_aload_n hx hb dX2_takes_8 rfl (lv_at hl 0 rfl) ?_
      refine lv_iconst (v := 1) hx hb dX2_takes_9 (by decide) ?_
      refine dk_Vi (As := [.int 1]) (rest := []) ⟨hx, hb, hml, hown, hts⟩ (c_X2_meets_0 l g z I1 1 (dkN_lit (x := 1) (1) rfl) hO) (cwV 1 hts gX2_takes_X2_meets rfl rfl rfl (by decide +kernel) ⟨Nat.le_of_ble_eq_true rfl, Nat.le_of_ble_eq_true rfl⟩) (dk_at12 hW) rfl hK hT hW hS rfl hl.1 rfl (Nat.le_of_ble_eq_true rfl) dX2_takes_10 ⟨Nat.zero_le _, Nat.zero_le _⟩ (fun v3 I3 H3 L3 hp3 hW hS => ?_)
      obtain ⟨hF3, hO, hc3⟩ := hp3
      have hF := dkF_call hF hF3 rfl
      obtain ⟨dv3, f3_12_4, f3_12_5, -⟩ := hc3
      exact W.zret (v := v3) (ty := .boolean) hx hb hr (dkN_zr dv3 rfl) (fun t ht hW9 => ⟨⟨v3, I3, rfl, ⟨hF, hO, Or.inl ⟨dkN_sub dv3 rfl, (show dkN [(0, 90)] (I3 12 4) from dkN_sub f3_12_4 rfl), (show dkN [(1, 1)] (I3 12 5) from dkN_sub f3_12_5 rfl), trivial⟩⟩, dkW_eq ht hW⟩, hS.F ht⟩) hS.2.2 dX2_takes_13
  ·
    obtain ⟨dv1, f1_12_1, f1_12_2, -⟩ := hc1
    refine lv_iload_n hx hb dX2_takes_4 rfl (lv_at hl 1 rfl) ?_
    refine lv_icmp_eq (tgt := 14) hx hb dX2_takes_5 (by decide) (fun c4 => ?_) (fun c4 => ?_)
    ·
      have d5 : dkN [(44, 44)] v1 := dkN_eq1 dv1 dp0 (congrArg Int32.toInt c4) rfl
      refine lv_aload_n hx hb dX2_takes_14 rfl (lv_at hl 0 rfl) ?_
      refine lv_dup hx hb dX2_takes_15 rfl ?_
      refine dk_get (k := 12) hx hb hts iX2_takes_2 hown hK (dk_at12 hW) rfl 2 (by decide) (hts (.fieldLink RX2 30 "DogKings$Reader" "at" "I") (List.mem_of_getElem? (i := 1) rfl)) rfl dX2_takes_16 ?_
      refine lv_topi (fun v6 ev6 => ?_)
      have dv6 : dkN [(0, 89)] v6 := by rw [ev6]; exact f1_12_2
      refine lv_iconst (v := 1) hx hb dX2_takes_19 (by decide) ?_
      refine lv_iadd hx hb dX2_takes_20 ?_
      refine lv_topi (fun v7 ev7 => ?_)
      have dv7 : dkN [(1, 90)] v7 := by rw [ev7]; exact dkN_add dv6 (dkN_lit (x := 1) (1) rfl) rfl
      refine dk_put (k := 12) hx hb hts iX2_takes_2 tyX2 tyX2_ok nmX2 hown hK hW (dk_at12 hW) hS rfl 2 (by decide) (hts (.fieldLink RX2 30 "DogKings$Reader" "at" "I") (List.mem_of_getElem? (i := 1) rfl)) rfl rfl (Nat.le_of_ble_eq_true rfl) rfl dX2_takes_21 (fun I8 H8 L8 eI8 hW hS => ?_)
      have eI8 : I8 = dkU I1 12 2 v7 := eI8
      have hO := dkO_set hO eI8 (dkN_sub dv7 rfl)
      have hF := dkF_set hF eI8 rfl
      refine lv_iconst (v := 1) hx hb dX2_takes_24 (by decide) ?_
      exact W.zret (v := 1) (ty := .boolean) hx hb hr rfl (fun t ht hW9 => ⟨⟨1, I8, rfl, ⟨hF, hO, Or.inr (⟨dkN_sub (dkN_lit (x := 1) (1) rfl) rfl, (show dkN [(1, 90)] (I8 12 1) from dkN_sub (by rw [eI8, dkU_sn (by decide)]; exact f1_12_1) rfl), (show dkN [(1, 90)] (I8 12 2) from dkN_sub (by rw [eI8, dkU_ss]; exact dv7) rfl), trivial⟩)⟩, dkW_eq ht hW⟩, hS.F ht⟩) hS.2.2 dX2_takes_25
    ·
      have d9 : dkN [(0, 43), (45, 255)] v1 := dkN_ne1 (44) dv1 dp0 (dk_ne c4) rfl
      refine lv_aload_n hx hb dX2_takes_8 rfl (lv_at hl 0 rfl) ?_
      refine lv_iconst (v := 1) hx hb dX2_takes_9 (by decide) ?_
      refine dk_Vi (As := [.int 1]) (rest := []) ⟨hx, hb, hml, hown, hts⟩ (c_X2_meets_0 l g z I1 1 (dkN_lit (x := 1) (1) rfl) hO) (cwV 1 hts gX2_takes_X2_meets rfl rfl rfl (by decide +kernel) ⟨Nat.le_of_ble_eq_true rfl, Nat.le_of_ble_eq_true rfl⟩) (dk_at12 hW) rfl hK hT hW hS rfl hl.1 rfl (Nat.le_of_ble_eq_true rfl) dX2_takes_10 ⟨Nat.zero_le _, Nat.zero_le _⟩ (fun v10 I10 H10 L10 hp10 hW hS => ?_)
      obtain ⟨hF10, hO, hc10⟩ := hp10
      have hF := dkF_call hF hF10 rfl
      obtain ⟨dv10, f10_12_4, f10_12_5, -⟩ := hc10
      exact W.zret (v := v10) (ty := .boolean) hx hb hr (dkN_zr dv10 rfl) (fun t ht hW9 => ⟨⟨v10, I10, rfl, ⟨hF, hO, Or.inl ⟨dkN_sub dv10 rfl, (show dkN [(0, 90)] (I10 12 4) from dkN_sub f10_12_4 rfl), (show dkN [(1, 1)] (I10 12 5) from dkN_sub f10_12_5 rfl), trivial⟩⟩, dkW_eq ht hW⟩, hS.F ht⟩) hS.2.2 dX2_takes_13
set_option maxHeartbeats 4000000 in
set_option maxRecDepth 100000 in
theorem c_X2_number_1 (l : Launch) (g : dkG) (z : Nat) (I0 : dkI) (p0 : Int32) (p1 : Int32) (dp0 : dkN [(1, 1)] p0) (dp1 : dkN [(30, 30)] p1)  (hO : dkOk I0) : Met l yX2_number wsX2_number (dkR 1) (dkPc g z [.ref (z + 12), .int p0, .int p1] I0) (dkQi g z (fun r I1 => dkF [(12, 12, 2, 2), (12, 12, 4, 5)] I0 I1 ∧ dkOk I1 ∧ ((dkN [(-1000000, -1000000)] r ∧ dkN [(0, 90)] (I1 12 4) ∧ dkN [(1, 2)] (I1 12 5) ∧ True) ∨ (dkN [(1, 30)] r ∧ True)))) 0 0 (dkA z) := by
  refine Met.ofW (cc := cX2_number) (maxL := 5) (ret := (some .int)) (by decide) rfl ?_
  intro p e s m args below meth c s₁ B hml hv
  obtain ⟨ha, hW, hK, hT⟩ := hv
  have hx := B.exec
  have hb := B.bytes
  have hr := B.returns
  have hts := atoms_spec (ws := wsX2_number) B.pre
  have hown : s.vm.findClass RX2 = some m.cls := findClass_of_methodNamed B.named
  have hlocks := B.notSynchronized
  have hS : va_S (dkA z) s.heap s.heap [] := va_S.rf
  have hF : dkF [(12, 12, 2, 2), (12, 12, 4, 5)] I0 I0 := dkF_rf _ _
  have hl := lv_entry ([.ref (z + 12), .int p0, .int p1]) (n := 5) (Nat.le_of_ble_eq_true rfl)
  have hgo : entryFrame m args 5 = entryFrame m ([.ref (z + 12), .int p0, .int p1] : List Value).toArray 5 := by rw [ha]
  rw [hgo, lg_entry_eq]
  generalize (lg_sl ([.ref (z + 12), .int p0, .int p1]) ++ List.replicate (5 - (lg_sl ([.ref (z + 12), .int p0, .int p1])).length) Slot.unset).toArray = ls at hl ⊢
  have hl : lv_has ls 5 [(0, .ref (z + 12)), (1, .int p0), (2, .int p1)] := hl
  have C83 : ∀ (I : dkI) (H : Heap) (locs : List Loc) (ls : Array Slot) (x83_3 : Int32) (x83_4 : Int32), dkW g z I H → va_S (dkA z) s.heap H locs → dkF [(12, 12, 2, 2), (12, 12, 4, 5)] I0 I → dkOk I → dkN [(0, 90)] x83_4 → lv_has ls 5 [(0, .ref (z + 12)), (1, .int p0), (2, .int p1), (3, .int x83_3), (4, .int x83_4)] → W p l e (headSpec wsX2_number (dkR 1)).room s m args below meth c H locs 0 0 (MQ below (dkQi g z (fun r I1 => dkF [(12, 12, 2, 2), (12, 12, 4, 5)] I0 I1 ∧ dkOk I1 ∧ ((dkN [(-1000000, -1000000)] r ∧ dkN [(0, 90)] (I1 12 4) ∧ dkN [(1, 2)] (I1 12 5) ∧ True) ∨ (dkN [(1, 30)] r ∧ True)))) args s 0 0 (dkA z)) (F0 m 83 ls []) := by
    intro I83_ H locs ls x83_3 x83_4 hW hS hF_83 hO k83_1 hl
    have hF := hF_83
    refine lv_aload_n hx hb dX2_number_83 rfl (lv_at hl 0 rfl) ?_
    refine lv_iconst (v := 1) hx hb dX2_number_84 (by decide) ?_
    refine dk_Vi (As := [.int 1]) (rest := []) ⟨hx, hb, hml, hown, hts⟩ (c_X2_meets_0 l g z I83_ 1 (dkN_lit (x := 1) (1) rfl) hO) (cwV 1 hts gX2_number_X2_meets rfl rfl rfl (by decide +kernel) ⟨Nat.le_of_ble_eq_true rfl, Nat.le_of_ble_eq_true rfl⟩) (dk_at12 hW) rfl hK hT hW hS rfl hl.1 rfl (Nat.le_of_ble_eq_true rfl) dX2_number_85 ⟨Nat.zero_le _, Nat.zero_le _⟩ (fun v1 I1 H1 L1 hp1 hW hS => ?_)
    obtain ⟨hF1, hO, hc1⟩ := hp1
    have hF := dkF_call hF hF1 rfl
    obtain ⟨dv1, f1_12_4, f1_12_5, -⟩ := hc1
    refine lv_pop hx hb dX2_number_88 rfl ?_
    refine lv_ldc (v := (-1000000)) hx hb hown (hts (.constant RX2 50 (-1000000)) (List.mem_of_getElem? (i := 4) rfl)) dX2_number_89 ?_
    exact W.iret (v := (-1000000)) hx hb hr (fun t ht hW9 => ⟨⟨(-1000000), I1, rfl, ⟨hF, hO, Or.inl ⟨dkN_sub (dkN_lit (x := (-1000000)) (-1000000) rfl) rfl, (show dkN [(0, 90)] (I1 12 4) from dkN_sub f1_12_4 rfl), (show dkN [(1, 2)] (I1 12 5) from dkN_sub f1_12_5 rfl), trivial⟩⟩, dkW_eq ht hW⟩, hS.F ht⟩) hS.2.2 dX2_number_91
  have C102 : ∀ (I : dkI) (H : Heap) (locs : List Loc) (ls : Array Slot) (x102_3 : Int32) (x102_4 : Int32), dkW g z I H → va_S (dkA z) s.heap H locs → dkF [(12, 12, 2, 2), (12, 12, 4, 5)] I0 I → dkOk I → dkN [(-2147483648, 0), (31, 2147483647)] x102_3 → dkN [(0, 90)] x102_4 → lv_has ls 5 [(0, .ref (z + 12)), (1, .int p0), (2, .int p1), (3, .int x102_3), (4, .int x102_4)] → W p l e (headSpec wsX2_number (dkR 1)).room s m args below meth c H locs 0 0 (MQ below (dkQi g z (fun r I1 => dkF [(12, 12, 2, 2), (12, 12, 4, 5)] I0 I1 ∧ dkOk I1 ∧ ((dkN [(-1000000, -1000000)] r ∧ dkN [(0, 90)] (I1 12 4) ∧ dkN [(1, 2)] (I1 12 5) ∧ True) ∨ (dkN [(1, 30)] r ∧ True)))) args s 0 0 (dkA z)) (F0 m 102 ls []) := by
    intro I102_ H locs ls x102_3 x102_4 hW hS hF_102 hO k102_0 k102_1 hl
    have hF := hF_102
    refine lv_aload_n hx hb dX2_number_102 rfl (lv_at hl 0 rfl) ?_
    refine lv_iconst (v := 2) hx hb dX2_number_103 (by decide) ?_
    refine dk_Vi (As := [.int 2]) (rest := []) ⟨hx, hb, hml, hown, hts⟩ (c_X2_meets_1 l g z I102_ 2 (dkN_lit (x := 2) (2) rfl) hO) (cwV 1 hts gX2_number_X2_meets rfl rfl rfl (by decide +kernel) ⟨Nat.le_of_ble_eq_true rfl, Nat.le_of_ble_eq_true rfl⟩) (dk_at12 hW) rfl hK hT hW hS rfl hl.1 rfl (Nat.le_of_ble_eq_true rfl) dX2_number_104 ⟨Nat.zero_le _, Nat.zero_le _⟩ (fun v2 I2 H2 L2 hp2 hW hS => ?_)
    obtain ⟨hF2, hO, hc2⟩ := hp2
    have hF := dkF_call hF hF2 rfl
    obtain ⟨dv2, f2_12_4, f2_12_5, -⟩ := hc2
    refine lv_pop hx hb dX2_number_107 rfl ?_
    refine lv_ldc (v := (-1000000)) hx hb hown (hts (.constant RX2 50 (-1000000)) (List.mem_of_getElem? (i := 4) rfl)) dX2_number_108 ?_
    exact W.iret (v := (-1000000)) hx hb hr (fun t ht hW9 => ⟨⟨(-1000000), I2, rfl, ⟨hF, hO, Or.inl ⟨dkN_sub (dkN_lit (x := (-1000000)) (-1000000) rfl) rfl, (show dkN [(0, 90)] (I2 12 4) from dkN_sub f2_12_4 rfl), (show dkN [(1, 2)] (I2 12 5) from dkN_sub f2_12_5 rfl), trivial⟩⟩, dkW_eq ht hW⟩, hS.F ht⟩) hS.2.2 dX2_number_110
  have C63 : ∀ (I : dkI) (H : Heap) (locs : List Loc) (ls : Array Slot) (x63_3 : Int32) (x63_4 : Int32), dkW g z I H → va_S (dkA z) s.heap H locs → dkF [(12, 12, 2, 2), (12, 12, 4, 5)] I0 I → dkOk I → dkN [(0, 90)] x63_4 → lv_has ls 5 [(0, .ref (z + 12)), (1, .int p0), (2, .int p1), (3, .int x63_3), (4, .int x63_4)] → W p l e (headSpec wsX2_number (dkR 1)).room s m args below meth c H locs 0 0 (MQ below (dkQi g z (fun r I1 => dkF [(12, 12, 2, 2), (12, 12, 4, 5)] I0 I1 ∧ dkOk I1 ∧ ((dkN [(-1000000, -1000000)] r ∧ dkN [(0, 90)] (I1 12 4) ∧ dkN [(1, 2)] (I1 12 5) ∧ True) ∨ (dkN [(1, 30)] r ∧ True)))) args s 0 0 (dkA z)) (F0 m 63 ls []) := by
    intro I63_ H locs ls x63_3 x63_4 hW hS hF_63 hO k63_1 hl
    have hF := hF_63
    refine lv_iload hx hb dX2_number_63 (lv_at hl 4 rfl) ?_
    refine lv_aload_n hx hb dX2_number_65 rfl (lv_at hl 0 rfl) ?_
    refine dk_get (k := 12) hx hb hts iX2_number_2 hown hK (dk_at12 hW) rfl 2 (by decide) (hts (.fieldLink RX2 30 "DogKings$Reader" "at" "I") (List.mem_of_getElem? (i := 1) rfl)) rfl dX2_number_66 ?_
    refine lv_topi (fun v3 ev3 => ?_)
    have dv3 : dkN [(0, 90)] v3 := by rw [ev3]; exact (hO 12 2)
    refine lv_icmp_eq (tgt := 83) hx hb dX2_number_69 (by decide) (fun c4 => ?_) (fun c4 => ?_)
    ·
      exact C83 I63_ _ _ ls x63_3 x63_4 hW hS hF hO (dkN_sub k63_1 rfl) (lv_sub hl [0, 1, 2, 3, 4] rfl)
    ·
      refine lv_iload hx hb dX2_number_72 (lv_at hl 4 rfl) ?_
      refine lv_aload_n hx hb dX2_number_74 rfl (lv_at hl 0 rfl) ?_
      refine dk_get (k := 12) hx hb hts iX2_number_2 hown hK (dk_at12 hW) rfl 2 (by decide) (hts (.fieldLink RX2 30 "DogKings$Reader" "at" "I") (List.mem_of_getElem? (i := 1) rfl)) rfl dX2_number_75 ?_
      refine lv_topi (fun v5 ev5 => ?_)
      have dv5 : dkN [(0, 90)] v5 := by rw [ev5]; exact (hO 12 2)
      refine lv_isub hx hb dX2_number_78 ?_
      refine lv_topi (fun v6 ev6 => ?_)
      have dv6 : dkN [(-90, 90)] v6 := by rw [ev6]; exact dkN_subt k63_1 dv5 rfl
      refine lv_iconst (v := 2) hx hb dX2_number_79 (by decide) ?_
      refine lv_icmp_le (tgt := 92) hx hb dX2_number_80 (by decide) (fun c7 => ?_) (fun c7 => ?_)
      ·
        have d8 : dkN [(-90, 2)] v6 := dkN_le1 0 dv6 (dkN_lit (x := 2) (2) rfl) (dkc_le c7) rfl
        refine lv_iload_n hx hb dX2_number_92 rfl (lv_at hl 3 rfl) ?_
        refine lv_iload_n hx hb dX2_number_93 rfl (lv_at hl 1 rfl) ?_
        refine lv_icmp_lt (tgt := 102) hx hb dX2_number_94 (by decide) (fun c9 => ?_) (fun c9 => ?_)
        ·
          have d10 : dkN [(-2147483648, 0)] x63_3 := dkN_le1 1 (dkN_top x63_3) dp0 (dkc_lt c9) rfl
          exact C102 I63_ _ _ ls x63_3 x63_4 hW hS hF hO (dkN_sub d10 rfl) (dkN_sub k63_1 rfl) (lv_sub hl [0, 1, 2, 3, 4] rfl)
        ·
          have d11 : dkN [(1, 2147483647)] x63_3 := dkN_le2 0 dp0 (dkN_top x63_3) (dkc_nlt c9) rfl
          refine lv_iload_n hx hb dX2_number_97 rfl (lv_at hl 3 rfl) ?_
          refine lv_iload_n hx hb dX2_number_98 rfl (lv_at hl 2 rfl) ?_
          refine lv_icmp_le (tgt := 111) hx hb dX2_number_99 (by decide) (fun c12 => ?_) (fun c12 => ?_)
          ·
            have d13 : dkN [(1, 30)] x63_3 := dkN_le1 0 d11 dp1 (dkc_le c12) rfl
            refine lv_aload_n hx hb dX2_number_111 rfl (lv_at hl 0 rfl) ?_
            refine lv_iload hx hb dX2_number_112 (lv_at hl 4 rfl) ?_
            refine dk_put (k := 12) hx hb hts iX2_number_2 tyX2 tyX2_ok nmX2 hown hK hW (dk_at12 hW) hS rfl 2 (by decide) (hts (.fieldLink RX2 30 "DogKings$Reader" "at" "I") (List.mem_of_getElem? (i := 1) rfl)) rfl rfl (Nat.le_of_ble_eq_true rfl) rfl dX2_number_114 (fun I14 H14 L14 eI14 hW hS => ?_)
            have eI14 : I14 = dkU I63_ 12 2 x63_4 := eI14
            have hO := dkO_set hO eI14 (dkN_sub k63_1 rfl)
            have hF := dkF_set hF eI14 rfl
            refine lv_iload_n hx hb dX2_number_117 rfl (lv_at hl 3 rfl) ?_
            exact W.iret (v := x63_3) hx hb hr (fun t ht hW9 => ⟨⟨x63_3, I14, rfl, ⟨hF, hO, Or.inr (⟨dkN_sub d13 rfl, trivial⟩)⟩, dkW_eq ht hW⟩, hS.F ht⟩) hS.2.2 dX2_number_118
          ·
            have d15 : dkN [(31, 2147483647)] x63_3 := dkN_le2 1 dp1 d11 (dkc_nle c12) rfl
            exact C102 I63_ _ _ ls x63_3 x63_4 hW hS hF hO (dkN_sub d15 rfl) (dkN_sub k63_1 rfl) (lv_sub hl [0, 1, 2, 3, 4] rfl)
      ·
        have d16 : dkN [(3, 90)] v6 := dkN_le2 1 (dkN_lit (x := 2) (2) rfl) dv6 (dkc_nle c7) rfl
        exact C83 I63_ _ _ ls x63_3 x63_4 hW hS hF hO (dkN_sub k63_1 rfl) (lv_sub hl [0, 1, 2, 3, 4] rfl)
  have C8 : ∀ (n : Nat), ∀ (I : dkI) (H : Heap) (locs : List Loc) (ls : Array Slot) (x8_3 : Int32) (x8_4 : Int32), (90 - x8_4.toInt).toNat < n → dkW g z I H → va_S (dkA z) s.heap H locs → dkF [(12, 12, 2, 2), (12, 12, 4, 5)] I0 I → dkOk I → dkN [(0, 90)] x8_4 → lv_has ls 5 [(0, .ref (z + 12)), (1, .int p0), (2, .int p1), (3, .int x8_3), (4, .int x8_4)] → W p l e (headSpec wsX2_number (dkR 1)).room s m args below meth c H locs 0 0 (MQ below (dkQi g z (fun r I1 => dkF [(12, 12, 2, 2), (12, 12, 4, 5)] I0 I1 ∧ dkOk I1 ∧ ((dkN [(-1000000, -1000000)] r ∧ dkN [(0, 90)] (I1 12 4) ∧ dkN [(1, 2)] (I1 12 5) ∧ True) ∨ (dkN [(1, 30)] r ∧ True)))) args s 0 0 (dkA z)) (F0 m 8 ls []) := by
    intro n
    induction n with
    | zero => intro I H locs ls x8_3 x8_4 hn; exact absurd hn (Nat.not_lt_zero _)
    | succ n ih8 =>
      intro I8_ H locs ls x8_3 x8_4 hn8 hW hS hF_8 hO k8_1 hl
      have hF := hF_8
      refine lv_iload hx hb dX2_number_8 (lv_at hl 4 rfl) ?_
      refine lv_aload_n hx hb dX2_number_10 rfl (lv_at hl 0 rfl) ?_
      refine dk_get (k := 12) hx hb hts iX2_number_2 hown hK (dk_at12 hW) rfl 1 (by decide) (hts (.fieldLink RX2 22 "DogKings$Reader" "bytes" "I") (List.mem_of_getElem? (i := 2) rfl)) rfl dX2_number_11 ?_
      refine lv_topi (fun v17 ev17 => ?_)
      have dv17 : dkN [(0, 90)] v17 := by rw [ev17]; exact (hO 12 1)
      refine lv_icmp_ge (tgt := 63) hx hb dX2_number_14 (by decide) (fun c18 => ?_) (fun c18 => ?_)
      ·
        exact C63 I8_ _ _ ls x8_3 x8_4 hW hS hF hO (dkN_sub k8_1 rfl) (lv_sub hl [0, 1, 2, 3, 4] rfl)
      ·
        have d19 : dkN [(1, 90)] v17 := dkN_le2 1 k8_1 dv17 (dkc_nle c18) rfl
        have f20 : dkN [(1, 90)] (I8_ 12 1) := by rw [← ev17]; exact d19
        have d21 : dkN [(0, 89)] x8_4 := dkN_le1 1 k8_1 dv17 (dkc_nle c18) rfl
        refine lv_aload_n hx hb dX2_number_17 rfl (lv_at hl 0 rfl) ?_
        refine dk_get (k := 12) hx hb hts iX2_number_2 hown hK (dk_at12 hW) rfl 0 (by decide) (hts (.fieldLink RX2 11 "DogKings$Reader" "tape" "[I") (List.mem_of_getElem? (i := 3) rfl)) rfl dX2_number_18 ?_
        refine lv_iload hx hb dX2_number_21 (lv_at hl 4 rfl) ?_
        refine dk_ild (k := 13) hx hb hK (dk_at13 hW) (dkN_in (n := 90) d21 rfl) dX2_number_23 ?_
        refine lv_topi (fun v22 ev22 => ?_)
        have dv22 : dkN [(0, 255)] v22 := by rw [ev22]; exact (hO 13 _)
        refine dk_Si (As := [.int v22]) (rest := []) ⟨hx, hb, hml, hown, hts⟩ (c_X2_isFigure_0 l g z I8_ v22 dv22 hO) (va_cwS 1 hts gX2_number_X2_isFigure rfl rfl rfl (by decide +kernel) ⟨Nat.le_of_ble_eq_true rfl, Nat.le_of_ble_eq_true rfl⟩) hK hT hW hS rfl hl.1 rfl (Nat.le_of_ble_eq_true rfl) dX2_number_24 ⟨Nat.zero_le _, Nat.zero_le _⟩ (fun v23 I23 H23 L23 hp23 hW hS => ?_)
        obtain ⟨hF23, hO, hc23⟩ := hp23
        have hF := dkF_call hF hF23 rfl
        rcases hc23 with ⟨dv23, a23_0, -⟩ | hc23
        ·
          have d24 : dkN [(0, 47), (58, 255)] v22 := dkN_eq1 dv22 a23_0 rfl rfl
          refine lv_if_eq (tgt := 63) hx hb dX2_number_27 (by decide) (fun c25 => ?_) (fun c25 => ?_)
          ·
            exact C63 I23 _ _ ls x8_3 x8_4 hW hS hF hO (dkN_sub d21 rfl) (lv_sub hl [0, 1, 2, 3, 4] rfl)
          ·
            exact (dkN_nil (show dkN [] v23 from dkN_ne1 (0) dv23 (dkN_lit (x := 0) (0) rfl) (dk_ne c25) rfl)).elim
        ·
          obtain ⟨dv23, a23_0, -⟩ := hc23
          have d26 : dkN [(48, 57)] v22 := dkN_eq1 dv22 a23_0 rfl rfl
          refine lv_if_eq (tgt := 63) hx hb dX2_number_27 (by decide) (fun c27 => ?_) (fun c27 => ?_)
          ·
            exact (dkN_nil (show dkN [] v23 from dkN_eq1 dv23 (dkN_lit (x := 0) (0) rfl) (congrArg Int32.toInt c27) rfl)).elim
          ·
            refine lv_iload hx hb dX2_number_30 (lv_at hl 4 rfl) ?_
            refine lv_aload_n hx hb dX2_number_32 rfl (lv_at hl 0 rfl) ?_
            refine dk_get (k := 12) hx hb hts iX2_number_2 hown hK (dk_at12 hW) rfl 2 (by decide) (hts (.fieldLink RX2 30 "DogKings$Reader" "at" "I") (List.mem_of_getElem? (i := 1) rfl)) rfl dX2_number_33 ?_
            refine lv_topi (fun v28 ev28 => ?_)
            have dv28 : dkN [(0, 90)] v28 := by rw [ev28]; exact (hO 12 2)
            refine lv_isub hx hb dX2_number_36 ?_
            refine lv_topi (fun v29 ev29 => ?_)
            have dv29 : dkN [(-90, 89)] v29 := by rw [ev29]; exact dkN_subt d21 dv28 rfl
            refine lv_iconst (v := 3) hx hb dX2_number_37 (by decide) ?_
            refine lv_icmp_ge (tgt := 63) hx hb dX2_number_38 (by decide) (fun c30 => ?_) (fun c30 => ?_)
            ·
              have d31 : dkN [(3, 89)] v29 := dkN_le2 0 (dkN_lit (x := 3) (3) rfl) dv29 (dkc_le c30) rfl
              exact C63 I23 _ _ ls x8_3 x8_4 hW hS hF hO (dkN_sub d21 rfl) (lv_sub hl [0, 1, 2, 3, 4] rfl)
            ·
              have d32 : dkN [(-90, 2)] v29 := dkN_le1 1 dv29 (dkN_lit (x := 3) (3) rfl) (dkc_nle c30) rfl
              refine lv_bipush (v := 10) hx hb dX2_number_41 (by decide) ?_
              refine lv_iload_n hx hb dX2_number_43 rfl (lv_at hl 3 rfl) ?_
              refine lv_imul hx hb dX2_number_44 ?_
              refine lv_topi (fun v33 ev33 => ?_)
              refine lv_aload_n hx hb dX2_number_45 rfl (lv_at hl 0 rfl) ?_
              refine dk_get (k := 12) hx hb hts iX2_number_2 hown hK (dk_at12 hW) rfl 0 (by decide) (hts (.fieldLink RX2 11 "DogKings$Reader" "tape" "[I") (List.mem_of_getElem? (i := 3) rfl)) rfl dX2_number_46 ?_
              refine lv_iload hx hb dX2_number_49 (lv_at hl 4 rfl) ?_
              refine dk_ild (k := 13) hx hb hK (dk_at13 hW) (dkN_in (n := 90) d21 rfl) dX2_number_51 ?_
              refine lv_topi (fun v34 ev34 => ?_)
              have dv34 : dkN [(0, 255)] v34 := by rw [ev34]; exact (hO 13 _)
              refine lv_iadd hx hb dX2_number_52 ?_
              refine lv_topi (fun v35 ev35 => ?_)
              refine lv_bipush (v := 48) hx hb dX2_number_53 (by decide) ?_
              refine lv_isub hx hb dX2_number_55 ?_
              refine lv_topi (fun v36 ev36 => ?_)
              refine lv_istore_n (lv' := [(3, .int v36), (0, .ref (z + 12)), (1, .int p0), (2, .int p1), (4, .int x8_4)]) hx hb dX2_number_56 rfl hl (by decide) rfl (fun ls hl => ?_)
              obtain ⟨v37, ev37⟩ : ∃ y : Int32, y = x8_4 + 1 := ⟨_, rfl⟩
              have dv37 : dkN [(1, 90)] v37 := by rw [ev37]; exact dkN_add d21 (dkN_lit (x := 1) (1) rfl) rfl
              refine lv_iinc (v := v37) (lv' := [(4, .int v37), (3, .int v36), (0, .ref (z + 12)), (1, .int p0), (2, .int p1)]) hx hb dX2_number_57 hl (k := 4) rfl (by rw [ev37]; rfl) (by decide) rfl (fun ls hl => ?_)
              refine lv_goto (tgt := 8) hx hb dX2_number_60 (by decide) ?_
              exact ih8 I23 _ _ ls v36 v37 (dk_near hn8 (by rw [ev37]; exact dk_inc d21 rfl) (dkN_lt d21 rfl)) hW hS hF hO (dkN_sub dv37 rfl) (lv_sub hl [2, 3, 4, 1, 0] rfl)
  refine lv_iconst (v := 0) hx hb dX2_number_0 (by decide) ?_
  refine lv_istore_n (lv' := [(3, .int 0), (0, .ref (z + 12)), (1, .int p0), (2, .int p1)]) hx hb dX2_number_1 rfl hl (by decide) rfl (fun ls hl => ?_)
  refine lv_aload_n hx hb dX2_number_2 rfl (lv_at hl 1 rfl) ?_
  refine dk_get (k := 12) hx hb hts iX2_number_2 hown hK (dk_at12 hW) rfl 2 (by decide) (hts (.fieldLink RX2 30 "DogKings$Reader" "at" "I") (List.mem_of_getElem? (i := 1) rfl)) rfl dX2_number_3 ?_
  refine lv_topi (fun v38 ev38 => ?_)
  have dv38 : dkN [(0, 90)] v38 := by rw [ev38]; exact (hO 12 2)
  refine lv_istore (lv' := [(4, .int v38), (3, .int 0), (0, .ref (z + 12)), (1, .int p0), (2, .int p1)]) hx hb dX2_number_6 hl (by decide) rfl (fun ls hl => ?_)
  exact C8 _ I0 _ _ ls 0 v38 (Nat.lt_succ_self _) hW hS hF hO (dkN_sub dv38 rfl) (lv_sub hl [2, 3, 4, 1, 0] rfl)
