set_option maxHeartbeats 4000000 in
set_option maxRecDepth 100000 in
theorem f_X6_isPart_3 (l : Launch) (g : dkG) (z : Nat) (I0 : dkI) (p0 : Int32) (p1 : Int32) (p2 : Int32) (dp0 : dkN [(0, 7)] p0)  (hO : dkOk I0) : Met l yX6_isPart wsX6_isPart (dkR 0) (dkPc g z [.ref (z + 340), .int p0, .int p1, .int p2] I0) (dkQi g z (fun r I1 => dkF [] I0 I1 ∧ dkOk I1 ∧ ((dkN [(0, 0)] r ∧ dkN [(-2147483648, -1)] p1 ∧ p1.toInt + 1 ≤ (0 : Int) ∧ r = 0 ∧ True) ∨ (dkN [(0, 0)] r ∧ dkN [(0, 2147483647)] p1 ∧ dkN [(-2147483648, -1)] p2 ∧ (0 : Int) + 0 ≤ p1.toInt ∧ p2.toInt + 1 ≤ (0 : Int) ∧ r = 0 ∧ True) ∨ (dkN [(0, 0)] r ∧ dkN [(1, 2147483647)] p1 ∧ dkN [(0, 2147483647)] p2 ∧ (0 : Int) + 0 ≤ p1.toInt ∧ (0 : Int) + 0 ≤ p2.toInt ∧ (I0 342 (Int32.toNatClampNeg p0)).toInt + 1 ≤ p1.toInt ∧ r = 0 ∧ True) ∨ (dkN [(0, 0)] r ∧ dkN [(0, 40)] p1 ∧ dkN [(0, 2147483647)] p2 ∧ (0 : Int) + 0 ≤ p1.toInt ∧ (0 : Int) + 0 ≤ p2.toInt ∧ p1.toInt + 0 ≤ (I0 342 (Int32.toNatClampNeg p0)).toInt ∧ ((I0 342 (Int32.toNatClampNeg p0)) - p1).toInt = (I0 342 (Int32.toNatClampNeg p0)).toInt - p1.toInt ∧ ((I0 342 (Int32.toNatClampNeg p0)) - p1).toInt + 1 ≤ p2.toInt ∧ r = 0 ∧ True) ∨ (dkN [(1, 1)] r ∧ dkN [(0, 40)] p1 ∧ dkN [(0, 40)] p2 ∧ p1.toInt + p2.toInt ≤ 40 ∧ (0 : Int) + 0 ≤ p1.toInt ∧ (0 : Int) + 0 ≤ p2.toInt ∧ p1.toInt + 0 ≤ (I0 342 (Int32.toNatClampNeg p0)).toInt ∧ ((I0 342 (Int32.toNatClampNeg p0)) - p1).toInt = (I0 342 (Int32.toNatClampNeg p0)).toInt - p1.toInt ∧ p2.toInt + 0 ≤ ((I0 342 (Int32.toNatClampNeg p0)) - p1).toInt ∧ r = 1 ∧ True)))) 0 0 (dkA z) := by
  refine Met.ofW (cc := cX6_isPart) (maxL := 4) (ret := (some .boolean)) (by decide) rfl ?_
  intro p e s m args below meth c s₁ B hml hv
  obtain ⟨ha, hW, hK, hT⟩ := hv
  have hx := B.exec
  have hb := B.bytes
  have hr := B.returns
  have hts := atoms_spec (ws := wsX6_isPart) B.pre
  have hown : s.vm.findClass RX6 = some m.cls := findClass_of_methodNamed B.named
  have hlocks := B.notSynchronized
  have hS : va_S (dkA z) s.heap s.heap [] := va_S.rf
  have hF : dkF [] I0 I0 := dkF_rf _ _
  have hl := lv_entry ([.ref (z + 340), .int p0, .int p1, .int p2]) (n := 4) (Nat.le_of_ble_eq_true rfl)
  have hgo : entryFrame m args 4 = entryFrame m ([.ref (z + 340), .int p0, .int p1, .int p2] : List Value).toArray 4 := by rw [ha]
  rw [hgo, lg_entry_eq]
  generalize (lg_sl ([.ref (z + 340), .int p0, .int p1, .int p2]) ++ List.replicate (4 - (lg_sl ([.ref (z + 340), .int p0, .int p1, .int p2])).length) Slot.unset).toArray = ls at hl ⊢
  have hl : lv_has ls 4 [(0, .ref (z + 340)), (1, .int p0), (2, .int p1), (3, .int p2)] := hl
  refine lv_iload_n hx hb dX6_isPart_0 rfl (lv_at hl 2 rfl) ?_
  refine lv_if_lt (tgt := 34) hx hb dX6_isPart_1 (by decide) (fun c1 => ?_) (fun c1 => ?_)
  ·
    have q2 : p1.toInt + 1 ≤ (0 : Int) := (dkc_lt c1)
    have d3 : dkN [(-2147483648, -1)] p1 := dkN_le1 1 (dkN_top p1) (dkN_lit (x := 0) (0) rfl) (dkc_lt c1) rfl
    refine lv_iconst (v := 0) hx hb dX6_isPart_34 (by decide) ?_
    exact W.zret (v := 0) (ty := .boolean) hx hb hr rfl (fun t ht hW9 => ⟨⟨0, I0, rfl, ⟨hF, hO, Or.inl ⟨dkN_sub (dkN_lit (x := 0) (0) rfl) rfl, dkN_sub d3 rfl, q2, rfl, trivial⟩⟩, dkW_eq ht hW⟩, hS.F ht⟩) hS.2.2 dX6_isPart_35
  ·
    have q4 : (0 : Int) + 0 ≤ p1.toInt := (dkc_nlt c1)
    have d5 : dkN [(0, 2147483647)] p1 := dkN_le2 0 (dkN_lit (x := 0) (0) rfl) (dkN_top p1) (dkc_nlt c1) rfl
    refine lv_iload_n hx hb dX6_isPart_4 rfl (lv_at hl 3 rfl) ?_
    refine lv_if_lt (tgt := 34) hx hb dX6_isPart_5 (by decide) (fun c6 => ?_) (fun c6 => ?_)
    ·
      have q7 : p2.toInt + 1 ≤ (0 : Int) := (dkc_lt c6)
      have d8 : dkN [(-2147483648, -1)] p2 := dkN_le1 1 (dkN_top p2) (dkN_lit (x := 0) (0) rfl) (dkc_lt c6) rfl
      refine lv_iconst (v := 0) hx hb dX6_isPart_34 (by decide) ?_
      exact W.zret (v := 0) (ty := .boolean) hx hb hr rfl (fun t ht hW9 => ⟨⟨0, I0, rfl, ⟨hF, hO, Or.inr (Or.inl ⟨dkN_sub (dkN_lit (x := 0) (0) rfl) rfl, dkN_sub d5 rfl, dkN_sub d8 rfl, q4, q7, rfl, trivial⟩)⟩, dkW_eq ht hW⟩, hS.F ht⟩) hS.2.2 dX6_isPart_35
    ·
      have q9 : (0 : Int) + 0 ≤ p2.toInt := (dkc_nlt c6)
      have d10 : dkN [(0, 2147483647)] p2 := dkN_le2 0 (dkN_lit (x := 0) (0) rfl) (dkN_top p2) (dkc_nlt c6) rfl
      refine lv_iload_n hx hb dX6_isPart_8 rfl (lv_at hl 2 rfl) ?_
      refine lv_aload_n hx hb dX6_isPart_9 rfl (lv_at hl 0 rfl) ?_
      refine dk_get (k := 340) hx hb hts iX6_isPart_6 hown hK (dk_at340 hW) rfl 1 (by decide) (hts (.fieldLink RX6 13 "DogKingsModel" "many" "[I") (List.mem_of_getElem? (i := 1) rfl)) rfl dX6_isPart_10 ?_
      refine lv_iload_n hx hb dX6_isPart_13 rfl (lv_at hl 1 rfl) ?_
      refine dk_ild (k := 342) hx hb hK (dk_at342 hW) (dkN_in (n := 8) dp0 rfl) dX6_isPart_14 ?_
      refine lv_topi (fun v11 ev11 => ?_)
      have dv11 : dkN [(0, 40)] v11 := by rw [ev11]; exact (hO 342 _)
      have xv11 : v11 = I0 342 (Int32.toNatClampNeg p0) := ev11.trans rfl
      refine lv_icmp_gt (tgt := 34) hx hb dX6_isPart_15 (by decide) (fun c12 => ?_) (fun c12 => ?_)
      ·
        have q13 : (I0 342 (Int32.toNatClampNeg p0)).toInt + 1 ≤ p1.toInt := by rw [← xv11]; exact (dkc_lt c12)
        have d14 : dkN [(1, 2147483647)] p1 := dkN_le2 1 dv11 d5 (dkc_lt c12) rfl
        refine lv_iconst (v := 0) hx hb dX6_isPart_34 (by decide) ?_
        exact W.zret (v := 0) (ty := .boolean) hx hb hr rfl (fun t ht hW9 => ⟨⟨0, I0, rfl, ⟨hF, hO, Or.inr (Or.inr (Or.inl ⟨dkN_sub (dkN_lit (x := 0) (0) rfl) rfl, dkN_sub d14 rfl, dkN_sub d10 rfl, q4, q9, q13, rfl, trivial⟩))⟩, dkW_eq ht hW⟩, hS.F ht⟩) hS.2.2 dX6_isPart_35
      ·
        have q15 : p1.toInt + 0 ≤ (I0 342 (Int32.toNatClampNeg p0)).toInt := by rw [← xv11]; exact (dkc_nlt c12)
        have d16 : dkN [(0, 40)] p1 := dkN_le1 0 d5 dv11 (dkc_nlt c12) rfl
        refine lv_iload_n hx hb dX6_isPart_18 rfl (lv_at hl 3 rfl) ?_
        refine lv_aload_n hx hb dX6_isPart_19 rfl (lv_at hl 0 rfl) ?_
        refine dk_get (k := 340) hx hb hts iX6_isPart_6 hown hK (dk_at340 hW) rfl 1 (by decide) (hts (.fieldLink RX6 13 "DogKingsModel" "many" "[I") (List.mem_of_getElem? (i := 1) rfl)) rfl dX6_isPart_20 ?_
        refine lv_iload_n hx hb dX6_isPart_23 rfl (lv_at hl 1 rfl) ?_
        refine dk_ild (k := 342) hx hb hK (dk_at342 hW) (dkN_in (n := 8) dp0 rfl) dX6_isPart_24 ?_
        refine lv_topi (fun v17 ev17 => ?_)
        have dv17 : dkN [(0, 40)] v17 := by rw [ev17]; exact (hO 342 _)
        have xv17 : v17 = I0 342 (Int32.toNatClampNeg p0) := ev17.trans rfl
        refine lv_iload_n hx hb dX6_isPart_25 rfl (lv_at hl 2 rfl) ?_
        refine lv_isub hx hb dX6_isPart_26 ?_
        refine lv_topi (fun v18 ev18 => ?_)
        have dv18 : dkN [(-40, 40)] v18 := by rw [ev18]; exact dkN_subt dv17 d16 rfl
        have xv18 : v18 = (I0 342 (Int32.toNatClampNeg p0)) - p1 := by rw [ev18, xv17]
        have q19 : ((I0 342 (Int32.toNatClampNeg p0)) - p1).toInt = (I0 342 (Int32.toNatClampNeg p0)).toInt - p1.toInt := by rw [← xv18, ← xv17]; exact (by rw [ev18]; exact dk_subE dv17 d16 rfl)
        refine lv_icmp_gt (tgt := 34) hx hb dX6_isPart_27 (by decide) (fun c20 => ?_) (fun c20 => ?_)
        ·
          have q21 : ((I0 342 (Int32.toNatClampNeg p0)) - p1).toInt + 1 ≤ p2.toInt := by rw [← xv18]; exact (dkc_lt c20)
          refine lv_iconst (v := 0) hx hb dX6_isPart_34 (by decide) ?_
          exact W.zret (v := 0) (ty := .boolean) hx hb hr rfl (fun t ht hW9 => ⟨⟨0, I0, rfl, ⟨hF, hO, Or.inr (Or.inr (Or.inr (Or.inl ⟨dkN_sub (dkN_lit (x := 0) (0) rfl) rfl, dkN_sub d16 rfl, dkN_sub d10 rfl, q4, q9, q15, q19, q21, rfl, trivial⟩)))⟩, dkW_eq ht hW⟩, hS.F ht⟩) hS.2.2 dX6_isPart_35
        ·
          have q22 : p2.toInt + 0 ≤ ((I0 342 (Int32.toNatClampNeg p0)) - p1).toInt := by rw [← xv18]; exact (dkc_nlt c20)
          have d23 : dkN [(0, 40)] v18 := dkN_le2 0 d10 dv18 (dkc_nlt c20) rfl
          have d24 : dkN [(0, 40)] p2 := dkN_le1 0 d10 dv18 (dkc_nlt c20) rfl
          refine lv_iconst (v := 1) hx hb dX6_isPart_30 (by decide) ?_
          refine lv_goto (tgt := 35) hx hb dX6_isPart_31 (by decide) ?_
          exact W.zret (v := 1) (ty := .boolean) hx hb hr rfl (fun t ht hW9 => ⟨⟨1, I0, rfl, ⟨hF, hO, Or.inr (Or.inr (Or.inr (Or.inr (⟨dkN_sub (dkN_lit (x := 1) (1) rfl) rfl, dkN_sub d16 rfl, dkN_sub d24 rfl, (dk_relsub ev18 dv17 d16 (dkc_nlt c20) rfl), q4, q9, q15, q19, q22, rfl, trivial⟩))))⟩, dkW_eq ht hW⟩, hS.F ht⟩) hS.2.2 dX6_isPart_35
set_option maxHeartbeats 4000000 in
set_option maxRecDepth 100000 in
theorem f_X6_found_7 (l : Launch) (g : dkG) (z : Nat) (I0 : dkI) (p0 : Int32) (dp0 : dkN [(2, 2)] p0)  (hO : dkOk I0) : Met l yX6_found wsX6_found (dkR 0) (dkPc g z [.ref (z + 340), .int p0] I0) (dkQi g z (fun r I1 => dkF [(340, 340, 4, 4)] I0 I1 ∧ dkOk I1 ∧ ((dkN [(-1000012, -1000012)] r ∧ dkN [(2, 2)] (I1 340 4) ∧ ((-1000010 : Int32) - p0).toInt = (-1000010 : Int) - p0.toInt ∧ r = (-1000010 : Int32) - p0 ∧ True)))) 0 0 (dkA z) := by
  refine Met.ofW (cc := cX6_found) (maxL := 2) (ret := (some .int)) (by decide) rfl ?_
  intro p e s m args below meth c s₁ B hml hv
  obtain ⟨ha, hW, hK, hT⟩ := hv
  have hx := B.exec
  have hb := B.bytes
  have hr := B.returns
  have hts := atoms_spec (ws := wsX6_found) B.pre
  have hown : s.vm.findClass RX6 = some m.cls := findClass_of_methodNamed B.named
  have hlocks := B.notSynchronized
  have hS : va_S (dkA z) s.heap s.heap [] := va_S.rf
  have hF : dkF [(340, 340, 4, 4)] I0 I0 := dkF_rf _ _
  have hl := lv_entry ([.ref (z + 340), .int p0]) (n := 2) (Nat.le_of_ble_eq_true rfl)
  have hgo : entryFrame m args 2 = entryFrame m ([.ref (z + 340), .int p0] : List Value).toArray 2 := by rw [ha]
  rw [hgo, lg_entry_eq]
  generalize (lg_sl ([.ref (z + 340), .int p0]) ++ List.replicate (2 - (lg_sl ([.ref (z + 340), .int p0])).length) Slot.unset).toArray = ls at hl ⊢
  have hl : lv_has ls 2 [(0, .ref (z + 340)), (1, .int p0)] := hl
  refine lv_aload_n hx hb dX6_found_0 rfl (lv_at hl 0 rfl) ?_
  refine lv_iload_n hx hb dX6_found_1 rfl (lv_at hl 1 rfl) ?_
  refine dk_put (k := 340) hx hb hts iX6_found_6 tyX6 tyX6_ok nmX6 hown hK hW (dk_at340 hW) hS rfl 4 (by decide) (hts (.fieldLink RX6 51 "DogKingsModel" "status" "I") (List.mem_of_getElem? (i := 1) rfl)) rfl rfl (Nat.le_of_ble_eq_true rfl) rfl dX6_found_2 (fun I1 H1 L1 eI1 hW hS => ?_)
  have eI1 : I1 = dkU I0 340 4 p0 := eI1
  have hO := dkO_set hO eI1 (dkN_sub dp0 rfl)
  have hF := dkF_set hF eI1 rfl
  refine lv_ldc (v := (-1000010)) hx hb hown (hts (.constant RX6 55 (-1000010)) (List.mem_of_getElem? (i := 2) rfl)) dX6_found_5 ?_
  refine lv_iload_n hx hb dX6_found_7 rfl (lv_at hl 1 rfl) ?_
  refine lv_isub hx hb dX6_found_8 ?_
  refine lv_topi (fun v2 ev2 => ?_)
  have dv2 : dkN [(-1000012, -1000012)] v2 := by rw [ev2]; exact dkN_subt (dkN_lit (x := (-1000010)) (-1000010) rfl) dp0 rfl
  have xv2 : v2 = (-1000010 : Int32) - p0 := by rw [ev2]
  have q3 : ((-1000010 : Int32) - p0).toInt = (-1000010 : Int) - p0.toInt := by rw [← xv2]; exact (by rw [ev2]; exact dk_subE (dkN_lit (x := (-1000010)) (-1000010) rfl) dp0 rfl)
  exact W.iret (v := v2) hx hb hr (fun t ht hW9 => ⟨⟨v2, I1, rfl, ⟨hF, hO, ⟨dkN_sub dv2 rfl, (show dkN [(2, 2)] (I1 340 4) from dkN_sub (by rw [eI1, dkU_ss]; exact dp0) rfl), q3, xv2, trivial⟩⟩, dkW_eq ht hW⟩, hS.F ht⟩) hS.2.2 dX6_found_9
set_option maxHeartbeats 4000000 in
set_option maxRecDepth 100000 in
theorem f_X6_isPart_4 (l : Launch) (g : dkG) (z : Nat) (I0 : dkI) (p0 : Int32) (p1 : Int32) (p2 : Int32) (dp0 : dkN [(0, 7)] p0) (dp2 : dkN [(0, 40)] p2)  (hO : dkOk I0) : Met l yX6_isPart wsX6_isPart (dkR 0) (dkPc g z [.ref (z + 340), .int p0, .int p1, .int p2] I0) (dkQi g z (fun r I1 => dkF [] I0 I1 ∧ dkOk I1 ∧ ((dkN [(0, 0)] r ∧ dkN [(-2147483648, -1)] p1 ∧ p1.toInt + 1 ≤ (0 : Int) ∧ r = 0 ∧ True) ∨ (dkN [(0, 0)] r ∧ dkN [(1, 2147483647)] p1 ∧ (0 : Int) + 0 ≤ p1.toInt ∧ (0 : Int) + 0 ≤ p2.toInt ∧ (I0 342 (Int32.toNatClampNeg p0)).toInt + 1 ≤ p1.toInt ∧ r = 0 ∧ True) ∨ (dkN [(0, 0)] r ∧ dkN [(0, 40)] p1 ∧ (0 : Int) + 0 ≤ p1.toInt ∧ (0 : Int) + 0 ≤ p2.toInt ∧ p1.toInt + 0 ≤ (I0 342 (Int32.toNatClampNeg p0)).toInt ∧ ((I0 342 (Int32.toNatClampNeg p0)) - p1).toInt = (I0 342 (Int32.toNatClampNeg p0)).toInt - p1.toInt ∧ ((I0 342 (Int32.toNatClampNeg p0)) - p1).toInt + 1 ≤ p2.toInt ∧ r = 0 ∧ True) ∨ (dkN [(1, 1)] r ∧ dkN [(0, 40)] p1 ∧ p1.toInt + p2.toInt ≤ 40 ∧ (0 : Int) + 0 ≤ p1.toInt ∧ (0 : Int) + 0 ≤ p2.toInt ∧ p1.toInt + 0 ≤ (I0 342 (Int32.toNatClampNeg p0)).toInt ∧ ((I0 342 (Int32.toNatClampNeg p0)) - p1).toInt = (I0 342 (Int32.toNatClampNeg p0)).toInt - p1.toInt ∧ p2.toInt + 0 ≤ ((I0 342 (Int32.toNatClampNeg p0)) - p1).toInt ∧ r = 1 ∧ True)))) 0 0 (dkA z) := by
  refine Met.ofW (cc := cX6_isPart) (maxL := 4) (ret := (some .boolean)) (by decide) rfl ?_
  intro p e s m args below meth c s₁ B hml hv
  obtain ⟨ha, hW, hK, hT⟩ := hv
  have hx := B.exec
  have hb := B.bytes
  have hr := B.returns
  have hts := atoms_spec (ws := wsX6_isPart) B.pre
  have hown : s.vm.findClass RX6 = some m.cls := findClass_of_methodNamed B.named
  have hlocks := B.notSynchronized
  have hS : va_S (dkA z) s.heap s.heap [] := va_S.rf
  have hF : dkF [] I0 I0 := dkF_rf _ _
  have hl := lv_entry ([.ref (z + 340), .int p0, .int p1, .int p2]) (n := 4) (Nat.le_of_ble_eq_true rfl)
  have hgo : entryFrame m args 4 = entryFrame m ([.ref (z + 340), .int p0, .int p1, .int p2] : List Value).toArray 4 := by rw [ha]
  rw [hgo, lg_entry_eq]
  generalize (lg_sl ([.ref (z + 340), .int p0, .int p1, .int p2]) ++ List.replicate (4 - (lg_sl ([.ref (z + 340), .int p0, .int p1, .int p2])).length) Slot.unset).toArray = ls at hl ⊢
  have hl : lv_has ls 4 [(0, .ref (z + 340)), (1, .int p0), (2, .int p1), (3, .int p2)] := hl
  refine lv_iload_n hx hb dX6_isPart_0 rfl (lv_at hl 2 rfl) ?_
  refine lv_if_lt (tgt := 34) hx hb dX6_isPart_1 (by decide) (fun c1 => ?_) (fun c1 => ?_)
  ·
    have q2 : p1.toInt + 1 ≤ (0 : Int) := (dkc_lt c1)
    have d3 : dkN [(-2147483648, -1)] p1 := dkN_le1 1 (dkN_top p1) (dkN_lit (x := 0) (0) rfl) (dkc_lt c1) rfl
    refine lv_iconst (v := 0) hx hb dX6_isPart_34 (by decide) ?_
    exact W.zret (v := 0) (ty := .boolean) hx hb hr rfl (fun t ht hW9 => ⟨⟨0, I0, rfl, ⟨hF, hO, Or.inl ⟨dkN_sub (dkN_lit (x := 0) (0) rfl) rfl, dkN_sub d3 rfl, q2, rfl, trivial⟩⟩, dkW_eq ht hW⟩, hS.F ht⟩) hS.2.2 dX6_isPart_35
  ·
    have q4 : (0 : Int) + 0 ≤ p1.toInt := (dkc_nlt c1)
    have d5 : dkN [(0, 2147483647)] p1 := dkN_le2 0 (dkN_lit (x := 0) (0) rfl) (dkN_top p1) (dkc_nlt c1) rfl
    refine lv_iload_n hx hb dX6_isPart_4 rfl (lv_at hl 3 rfl) ?_
    refine lv_if_lt (tgt := 34) hx hb dX6_isPart_5 (by decide) (fun c6 => ?_) (fun c6 => ?_)
    ·
      exact (dkN_nil (show dkN [] p2 from dkN_le1 1 dp2 (dkN_lit (x := 0) (0) rfl) (dkc_lt c6) rfl)).elim
    ·
      have q7 : (0 : Int) + 0 ≤ p2.toInt := (dkc_nlt c6)
      refine lv_iload_n hx hb dX6_isPart_8 rfl (lv_at hl 2 rfl) ?_
      refine lv_aload_n hx hb dX6_isPart_9 rfl (lv_at hl 0 rfl) ?_
      refine dk_get (k := 340) hx hb hts iX6_isPart_6 hown hK (dk_at340 hW) rfl 1 (by decide) (hts (.fieldLink RX6 13 "DogKingsModel" "many" "[I") (List.mem_of_getElem? (i := 1) rfl)) rfl dX6_isPart_10 ?_
      refine lv_iload_n hx hb dX6_isPart_13 rfl (lv_at hl 1 rfl) ?_
      refine dk_ild (k := 342) hx hb hK (dk_at342 hW) (dkN_in (n := 8) dp0 rfl) dX6_isPart_14 ?_
      refine lv_topi (fun v8 ev8 => ?_)
      have dv8 : dkN [(0, 40)] v8 := by rw [ev8]; exact (hO 342 _)
      have xv8 : v8 = I0 342 (Int32.toNatClampNeg p0) := ev8.trans rfl
      refine lv_icmp_gt (tgt := 34) hx hb dX6_isPart_15 (by decide) (fun c9 => ?_) (fun c9 => ?_)
      ·
        have q10 : (I0 342 (Int32.toNatClampNeg p0)).toInt + 1 ≤ p1.toInt := by rw [← xv8]; exact (dkc_lt c9)
        have d11 : dkN [(1, 2147483647)] p1 := dkN_le2 1 dv8 d5 (dkc_lt c9) rfl
        refine lv_iconst (v := 0) hx hb dX6_isPart_34 (by decide) ?_
        exact W.zret (v := 0) (ty := .boolean) hx hb hr rfl (fun t ht hW9 => ⟨⟨0, I0, rfl, ⟨hF, hO, Or.inr (Or.inl ⟨dkN_sub (dkN_lit (x := 0) (0) rfl) rfl, dkN_sub d11 rfl, q4, q7, q10, rfl, trivial⟩)⟩, dkW_eq ht hW⟩, hS.F ht⟩) hS.2.2 dX6_isPart_35
      ·
        have q12 : p1.toInt + 0 ≤ (I0 342 (Int32.toNatClampNeg p0)).toInt := by rw [← xv8]; exact (dkc_nlt c9)
        have d13 : dkN [(0, 40)] p1 := dkN_le1 0 d5 dv8 (dkc_nlt c9) rfl
        refine lv_iload_n hx hb dX6_isPart_18 rfl (lv_at hl 3 rfl) ?_
        refine lv_aload_n hx hb dX6_isPart_19 rfl (lv_at hl 0 rfl) ?_
        refine dk_get (k := 340) hx hb hts iX6_isPart_6 hown hK (dk_at340 hW) rfl 1 (by decide) (hts (.fieldLink RX6 13 "DogKingsModel" "many" "[I") (List.mem_of_getElem? (i := 1) rfl)) rfl dX6_isPart_20 ?_
        refine lv_iload_n hx hb dX6_isPart_23 rfl (lv_at hl 1 rfl) ?_
        refine dk_ild (k := 342) hx hb hK (dk_at342 hW) (dkN_in (n := 8) dp0 rfl) dX6_isPart_24 ?_
        refine lv_topi (fun v14 ev14 => ?_)
        have dv14 : dkN [(0, 40)] v14 := by rw [ev14]; exact (hO 342 _)
        have xv14 : v14 = I0 342 (Int32.toNatClampNeg p0) := ev14.trans rfl
        refine lv_iload_n hx hb dX6_isPart_25 rfl (lv_at hl 2 rfl) ?_
        refine lv_isub hx hb dX6_isPart_26 ?_
        refine lv_topi (fun v15 ev15 => ?_)
        have dv15 : dkN [(-40, 40)] v15 := by rw [ev15]; exact dkN_subt dv14 d13 rfl
        have xv15 : v15 = (I0 342 (Int32.toNatClampNeg p0)) - p1 := by rw [ev15, xv14]
        have q16 : ((I0 342 (Int32.toNatClampNeg p0)) - p1).toInt = (I0 342 (Int32.toNatClampNeg p0)).toInt - p1.toInt := by rw [← xv15, ← xv14]; exact (by rw [ev15]; exact dk_subE dv14 d13 rfl)
        refine lv_icmp_gt (tgt := 34) hx hb dX6_isPart_27 (by decide) (fun c17 => ?_) (fun c17 => ?_)
        ·
          have q18 : ((I0 342 (Int32.toNatClampNeg p0)) - p1).toInt + 1 ≤ p2.toInt := by rw [← xv15]; exact (dkc_lt c17)
          have d19 : dkN [(-40, 39)] v15 := dkN_le1 1 dv15 dp2 (dkc_lt c17) rfl
          refine lv_iconst (v := 0) hx hb dX6_isPart_34 (by decide) ?_
          exact W.zret (v := 0) (ty := .boolean) hx hb hr rfl (fun t ht hW9 => ⟨⟨0, I0, rfl, ⟨hF, hO, Or.inr (Or.inr (Or.inl ⟨dkN_sub (dkN_lit (x := 0) (0) rfl) rfl, dkN_sub d13 rfl, q4, q7, q12, q16, q18, rfl, trivial⟩))⟩, dkW_eq ht hW⟩, hS.F ht⟩) hS.2.2 dX6_isPart_35
        ·
          have q20 : p2.toInt + 0 ≤ ((I0 342 (Int32.toNatClampNeg p0)) - p1).toInt := by rw [← xv15]; exact (dkc_nlt c17)
          have d21 : dkN [(0, 40)] v15 := dkN_le2 0 dp2 dv15 (dkc_nlt c17) rfl
          refine lv_iconst (v := 1) hx hb dX6_isPart_30 (by decide) ?_
          refine lv_goto (tgt := 35) hx hb dX6_isPart_31 (by decide) ?_
          exact W.zret (v := 1) (ty := .boolean) hx hb hr rfl (fun t ht hW9 => ⟨⟨1, I0, rfl, ⟨hF, hO, Or.inr (Or.inr (Or.inr (⟨dkN_sub (dkN_lit (x := 1) (1) rfl) rfl, dkN_sub d13 rfl, (dk_relsub ev15 dv14 d13 (dkc_nlt c17) rfl), q4, q7, q12, q16, q20, rfl, trivial⟩)))⟩, dkW_eq ht hW⟩, hS.F ht⟩) hS.2.2 dX6_isPart_35
set_option maxHeartbeats 4000000 in
set_option maxRecDepth 100000 in
theorem f_X6_found_8 (l : Launch) (g : dkG) (z : Nat) (I0 : dkI) (p0 : Int32) (dp0 : dkN [(5, 5)] p0)  (hO : dkOk I0) : Met l yX6_found wsX6_found (dkR 0) (dkPc g z [.ref (z + 340), .int p0] I0) (dkQi g z (fun r I1 => dkF [(340, 340, 4, 4)] I0 I1 ∧ dkOk I1 ∧ ((dkN [(-1000015, -1000015)] r ∧ dkN [(5, 5)] (I1 340 4) ∧ ((-1000010 : Int32) - p0).toInt = (-1000010 : Int) - p0.toInt ∧ r = (-1000010 : Int32) - p0 ∧ True)))) 0 0 (dkA z) := by
  refine Met.ofW (cc := cX6_found) (maxL := 2) (ret := (some .int)) (by decide) rfl ?_
  intro p e s m args below meth c s₁ B hml hv
  obtain ⟨ha, hW, hK, hT⟩ := hv
  have hx := B.exec
  have hb := B.bytes
  have hr := B.returns
  have hts := atoms_spec (ws := wsX6_found) B.pre
  have hown : s.vm.findClass RX6 = some m.cls := findClass_of_methodNamed B.named
  have hlocks := B.notSynchronized
  have hS : va_S (dkA z) s.heap s.heap [] := va_S.rf
  have hF : dkF [(340, 340, 4, 4)] I0 I0 := dkF_rf _ _
  have hl := lv_entry ([.ref (z + 340), .int p0]) (n := 2) (Nat.le_of_ble_eq_true rfl)
  have hgo : entryFrame m args 2 = entryFrame m ([.ref (z + 340), .int p0] : List Value).toArray 2 := by rw [ha]
  rw [hgo, lg_entry_eq]
  generalize (lg_sl ([.ref (z + 340), .int p0]) ++ List.replicate (2 - (lg_sl ([.ref (z + 340), .int p0])).length) Slot.unset).toArray = ls at hl ⊢
  have hl : lv_has ls 2 [(0, .ref (z + 340)), (1, .int p0)] := hl
  refine lv_aload_n hx hb dX6_found_0 rfl (lv_at hl 0 rfl) ?_
  refine lv_iload_n hx hb dX6_found_1 rfl (lv_at hl 1 rfl) ?_
  refine dk_put (k := 340) hx hb hts iX6_found_6 tyX6 tyX6_ok nmX6 hown hK hW (dk_at340 hW) hS rfl 4 (by decide) (hts (.fieldLink RX6 51 "DogKingsModel" "status" "I") (List.mem_of_getElem? (i := 1) rfl)) rfl rfl (Nat.le_of_ble_eq_true rfl) rfl dX6_found_2 (fun I1 H1 L1 eI1 hW hS => ?_)
  have eI1 : I1 = dkU I0 340 4 p0 := eI1
  have hO := dkO_set hO eI1 (dkN_sub dp0 rfl)
  have hF := dkF_set hF eI1 rfl
  refine lv_ldc (v := (-1000010)) hx hb hown (hts (.constant RX6 55 (-1000010)) (List.mem_of_getElem? (i := 2) rfl)) dX6_found_5 ?_
  refine lv_iload_n hx hb dX6_found_7 rfl (lv_at hl 1 rfl) ?_
  refine lv_isub hx hb dX6_found_8 ?_
  refine lv_topi (fun v2 ev2 => ?_)
  have dv2 : dkN [(-1000015, -1000015)] v2 := by rw [ev2]; exact dkN_subt (dkN_lit (x := (-1000010)) (-1000010) rfl) dp0 rfl
  have xv2 : v2 = (-1000010 : Int32) - p0 := by rw [ev2]
  have q3 : ((-1000010 : Int32) - p0).toInt = (-1000010 : Int) - p0.toInt := by rw [← xv2]; exact (by rw [ev2]; exact dk_subE (dkN_lit (x := (-1000010)) (-1000010) rfl) dp0 rfl)
  exact W.iret (v := v2) hx hb hr (fun t ht hW9 => ⟨⟨v2, I1, rfl, ⟨hF, hO, ⟨dkN_sub dv2 rfl, (show dkN [(5, 5)] (I1 340 4) from dkN_sub (by rw [eI1, dkU_ss]; exact dp0) rfl), q3, xv2, trivial⟩⟩, dkW_eq ht hW⟩, hS.F ht⟩) hS.2.2 dX6_found_9
set_option maxHeartbeats 4000000 in
set_option maxRecDepth 100000 in
theorem f_X6_copy_1 (l : Launch) (g : dkG) (z : Nat) (I0 : dkI) (p0 : Int32) (p1 : Int32) (p2 : Int32) (p3 : Int32) (p4 : Int32)  (hO : dkOk I0) : Met l yX6_copy wsX6_copy (dkR 2) (dkPc g z [.ref (z + 340), .int p0, .int p1, .int p2, .int p3, .int p4] I0) (dkQi g z (fun r I1 => dkF [(340, 340, 4, 4), (343, 343, 0, 359), (344, 344, 0, 39)] I0 I1 ∧ dkOk I1 ∧ ((dkN [(-1000001, -1000001)] r ∧ dkN [(-2147483648, -1)] p0 ∧ p0.toInt + 1 ≤ (0 : Int) ∧ r = (-1000001) ∧ True) ∨ (dkN [(-1000001, -1000001)] r ∧ dkN [(8, 2147483647)] p0 ∧ (0 : Int) + 0 ≤ p0.toInt ∧ (7 : Int) + 1 ≤ p0.toInt ∧ r = (-1000001) ∧ True) ∨ (dkN [(-1000001, -1000001)] r ∧ dkN [(0, 7)] p0 ∧ dkN [(-2147483648, -1)] p2 ∧ (0 : Int) + 0 ≤ p0.toInt ∧ p0.toInt + 0 ≤ (7 : Int) ∧ p2.toInt + 1 ≤ (0 : Int) ∧ r = (-1000001) ∧ True) ∨ (dkN [(-1000001, -1000001)] r ∧ dkN [(0, 7)] p0 ∧ dkN [(8, 2147483647)] p2 ∧ (0 : Int) + 0 ≤ p0.toInt ∧ p0.toInt + 0 ≤ (7 : Int) ∧ (0 : Int) + 0 ≤ p2.toInt ∧ (7 : Int) + 1 ≤ p2.toInt ∧ r = (-1000001) ∧ True) ∨ (dkN [(-1000012, -1000012)] r ∧ dkN [(0, 7)] p0 ∧ dkN [(-2147483648, -1)] p1 ∧ dkN [(0, 7)] p2 ∧ dkN [(2, 2)] (I1 340 4) ∧ (0 : Int) + 0 ≤ p0.toInt ∧ p0.toInt + 0 ≤ (7 : Int) ∧ (0 : Int) + 0 ≤ p2.toInt ∧ p2.toInt + 0 ≤ (7 : Int) ∧ (I0 341 (Int32.toNatClampNeg p0)).toInt ≠ (-1000000 : Int) ∧ (I0 341 (Int32.toNatClampNeg p2)).toInt ≠ (-1000000 : Int) ∧ (I0 341 (Int32.toNatClampNeg p0)).toInt = (I0 341 (Int32.toNatClampNeg p2)).toInt ∧ p1.toInt + 1 ≤ (0 : Int) ∧ ((-1000010 : Int32) - (2 : Int32)).toInt = (-1000010 : Int) - (2 : Int) ∧ r = (-1000010 : Int32) - (2 : Int32) ∧ True) ∨ (dkN [(-1000012, -1000012)] r ∧ dkN [(0, 7)] p0 ∧ dkN [(0, 2147483647)] p1 ∧ dkN [(0, 7)] p2 ∧ dkN [(-2147483648, -1)] p4 ∧ dkN [(2, 2)] (I1 340 4) ∧ (0 : Int) + 0 ≤ p0.toInt ∧ p0.toInt + 0 ≤ (7 : Int) ∧ (0 : Int) + 0 ≤ p2.toInt ∧ p2.toInt + 0 ≤ (7 : Int) ∧ (I0 341 (Int32.toNatClampNeg p0)).toInt ≠ (-1000000 : Int) ∧ (I0 341 (Int32.toNatClampNeg p2)).toInt ≠ (-1000000 : Int) ∧ (I0 341 (Int32.toNatClampNeg p0)).toInt = (I0 341 (Int32.toNatClampNeg p2)).toInt ∧ (0 : Int) + 0 ≤ p1.toInt ∧ p4.toInt + 1 ≤ (0 : Int) ∧ ((-1000010 : Int32) - (2 : Int32)).toInt = (-1000010 : Int) - (2 : Int) ∧ r = (-1000010 : Int32) - (2 : Int32) ∧ True) ∨ (dkN [(-1000012, -1000012)] r ∧ dkN [(0, 7)] p0 ∧ dkN [(1, 2147483647)] p1 ∧ dkN [(0, 7)] p2 ∧ dkN [(0, 2147483647)] p4 ∧ dkN [(2, 2)] (I1 340 4) ∧ (0 : Int) + 0 ≤ p0.toInt ∧ p0.toInt + 0 ≤ (7 : Int) ∧ (0 : Int) + 0 ≤ p2.toInt ∧ p2.toInt + 0 ≤ (7 : Int) ∧ (I0 341 (Int32.toNatClampNeg p0)).toInt ≠ (-1000000 : Int) ∧ (I0 341 (Int32.toNatClampNeg p2)).toInt ≠ (-1000000 : Int) ∧ (I0 341 (Int32.toNatClampNeg p0)).toInt = (I0 341 (Int32.toNatClampNeg p2)).toInt ∧ (0 : Int) + 0 ≤ p1.toInt ∧ (0 : Int) + 0 ≤ p4.toInt ∧ (I0 342 (Int32.toNatClampNeg p0)).toInt + 1 ≤ p1.toInt ∧ ((-1000010 : Int32) - (2 : Int32)).toInt = (-1000010 : Int) - (2 : Int) ∧ r = (-1000010 : Int32) - (2 : Int32) ∧ True) ∨ (dkN [(-1000012, -1000012)] r ∧ dkN [(0, 7)] p0 ∧ dkN [(0, 40)] p1 ∧ dkN [(0, 7)] p2 ∧ dkN [(0, 2147483647)] p4 ∧ dkN [(2, 2)] (I1 340 4) ∧ (0 : Int) + 0 ≤ p0.toInt ∧ p0.toInt + 0 ≤ (7 : Int) ∧ (0 : Int) + 0 ≤ p2.toInt ∧ p2.toInt + 0 ≤ (7 : Int) ∧ (I0 341 (Int32.toNatClampNeg p0)).toInt ≠ (-1000000 : Int) ∧ (I0 341 (Int32.toNatClampNeg p2)).toInt ≠ (-1000000 : Int) ∧ (I0 341 (Int32.toNatClampNeg p0)).toInt = (I0 341 (Int32.toNatClampNeg p2)).toInt ∧ (0 : Int) + 0 ≤ p1.toInt ∧ (0 : Int) + 0 ≤ p4.toInt ∧ p1.toInt + 0 ≤ (I0 342 (Int32.toNatClampNeg p0)).toInt ∧ ((I0 342 (Int32.toNatClampNeg p0)) - p1).toInt = (I0 342 (Int32.toNatClampNeg p0)).toInt - p1.toInt ∧ ((I0 342 (Int32.toNatClampNeg p0)) - p1).toInt + 1 ≤ p4.toInt ∧ ((-1000010 : Int32) - (2 : Int32)).toInt = (-1000010 : Int) - (2 : Int) ∧ r = (-1000010 : Int32) - (2 : Int32) ∧ True) ∨ (dkN [(-1000012, -1000012)] r ∧ dkN [(0, 7)] p0 ∧ dkN [(0, 40)] p1 ∧ dkN [(0, 7)] p2 ∧ dkN [(-2147483648, -1)] p3 ∧ dkN [(0, 40)] p4 ∧ dkN [(2, 2)] (I1 340 4) ∧ (0 : Int) + 0 ≤ p0.toInt ∧ p0.toInt + 0 ≤ (7 : Int) ∧ (0 : Int) + 0 ≤ p2.toInt ∧ p2.toInt + 0 ≤ (7 : Int) ∧ (I0 341 (Int32.toNatClampNeg p0)).toInt ≠ (-1000000 : Int) ∧ (I0 341 (Int32.toNatClampNeg p2)).toInt ≠ (-1000000 : Int) ∧ (I0 341 (Int32.toNatClampNeg p0)).toInt = (I0 341 (Int32.toNatClampNeg p2)).toInt ∧ (0 : Int) + 0 ≤ p1.toInt ∧ (0 : Int) + 0 ≤ p4.toInt ∧ p1.toInt + 0 ≤ (I0 342 (Int32.toNatClampNeg p0)).toInt ∧ ((I0 342 (Int32.toNatClampNeg p0)) - p1).toInt = (I0 342 (Int32.toNatClampNeg p0)).toInt - p1.toInt ∧ p4.toInt + 0 ≤ ((I0 342 (Int32.toNatClampNeg p0)) - p1).toInt ∧ p3.toInt + 1 ≤ (0 : Int) ∧ ((-1000010 : Int32) - (2 : Int32)).toInt = (-1000010 : Int) - (2 : Int) ∧ r = (-1000010 : Int32) - (2 : Int32) ∧ True) ∨ (dkN [(-1000012, -1000012)] r ∧ dkN [(0, 7)] p0 ∧ dkN [(0, 40)] p1 ∧ dkN [(0, 7)] p2 ∧ dkN [(1, 2147483647)] p3 ∧ dkN [(0, 40)] p4 ∧ dkN [(2, 2)] (I1 340 4) ∧ (0 : Int) + 0 ≤ p0.toInt ∧ p0.toInt + 0 ≤ (7 : Int) ∧ (0 : Int) + 0 ≤ p2.toInt ∧ p2.toInt + 0 ≤ (7 : Int) ∧ (I0 341 (Int32.toNatClampNeg p0)).toInt ≠ (-1000000 : Int) ∧ (I0 341 (Int32.toNatClampNeg p2)).toInt ≠ (-1000000 : Int) ∧ (I0 341 (Int32.toNatClampNeg p0)).toInt = (I0 341 (Int32.toNatClampNeg p2)).toInt ∧ (0 : Int) + 0 ≤ p1.toInt ∧ (0 : Int) + 0 ≤ p4.toInt ∧ p1.toInt + 0 ≤ (I0 342 (Int32.toNatClampNeg p0)).toInt ∧ ((I0 342 (Int32.toNatClampNeg p0)) - p1).toInt = (I0 342 (Int32.toNatClampNeg p0)).toInt - p1.toInt ∧ p4.toInt + 0 ≤ ((I0 342 (Int32.toNatClampNeg p0)) - p1).toInt ∧ (0 : Int) + 0 ≤ p3.toInt ∧ (I0 342 (Int32.toNatClampNeg p2)).toInt + 1 ≤ p3.toInt ∧ ((-1000010 : Int32) - (2 : Int32)).toInt = (-1000010 : Int) - (2 : Int) ∧ r = (-1000010 : Int32) - (2 : Int32) ∧ True) ∨ (dkN [(-1000012, -1000012)] r ∧ dkN [(0, 7)] p0 ∧ dkN [(0, 40)] p1 ∧ dkN [(0, 7)] p2 ∧ dkN [(0, 40)] p3 ∧ dkN [(0, 40)] p4 ∧ dkN [(2, 2)] (I1 340 4) ∧ (0 : Int) + 0 ≤ p0.toInt ∧ p0.toInt + 0 ≤ (7 : Int) ∧ (0 : Int) + 0 ≤ p2.toInt ∧ p2.toInt + 0 ≤ (7 : Int) ∧ (I0 341 (Int32.toNatClampNeg p0)).toInt ≠ (-1000000 : Int) ∧ (I0 341 (Int32.toNatClampNeg p2)).toInt ≠ (-1000000 : Int) ∧ (I0 341 (Int32.toNatClampNeg p0)).toInt = (I0 341 (Int32.toNatClampNeg p2)).toInt ∧ (0 : Int) + 0 ≤ p1.toInt ∧ (0 : Int) + 0 ≤ p4.toInt ∧ p1.toInt + 0 ≤ (I0 342 (Int32.toNatClampNeg p0)).toInt ∧ ((I0 342 (Int32.toNatClampNeg p0)) - p1).toInt = (I0 342 (Int32.toNatClampNeg p0)).toInt - p1.toInt ∧ p4.toInt + 0 ≤ ((I0 342 (Int32.toNatClampNeg p0)) - p1).toInt ∧ (0 : Int) + 0 ≤ p3.toInt ∧ p3.toInt + 0 ≤ (I0 342 (Int32.toNatClampNeg p2)).toInt ∧ ((I0 342 (Int32.toNatClampNeg p2)) - p3).toInt = (I0 342 (Int32.toNatClampNeg p2)).toInt - p3.toInt ∧ ((I0 342 (Int32.toNatClampNeg p2)) - p3).toInt + 1 ≤ p4.toInt ∧ ((-1000010 : Int32) - (2 : Int32)).toInt = (-1000010 : Int) - (2 : Int) ∧ r = (-1000010 : Int32) - (2 : Int32) ∧ True) ∨ (dkN [(-1000015, -1000015)] r ∧ dkN [(0, 7)] p0 ∧ dkN [(0, 7)] p2 ∧ dkN [(5, 5)] (I1 340 4) ∧ (0 : Int) + 0 ≤ p0.toInt ∧ p0.toInt + 0 ≤ (7 : Int) ∧ (0 : Int) + 0 ≤ p2.toInt ∧ p2.toInt + 0 ≤ (7 : Int) ∧ (I0 341 (Int32.toNatClampNeg p0)).toInt ≠ (-1000000 : Int) ∧ (I0 341 (Int32.toNatClampNeg p2)).toInt ≠ (-1000000 : Int) ∧ (I0 341 (Int32.toNatClampNeg p0)).toInt ≠ (I0 341 (Int32.toNatClampNeg p2)).toInt ∧ ((-1000010 : Int32) - (5 : Int32)).toInt = (-1000010 : Int) - (5 : Int) ∧ r = (-1000010 : Int32) - (5 : Int32) ∧ True) ∨ (dkN [(-1000011, -1000011)] r ∧ dkN [(0, 7)] p0 ∧ dkN [(0, 7)] p2 ∧ dkN [(1, 1)] (I1 340 4) ∧ (0 : Int) + 0 ≤ p0.toInt ∧ p0.toInt + 0 ≤ (7 : Int) ∧ (0 : Int) + 0 ≤ p2.toInt ∧ p2.toInt + 0 ≤ (7 : Int) ∧ (I0 341 (Int32.toNatClampNeg p0)).toInt ≠ (-1000000 : Int) ∧ (I0 341 (Int32.toNatClampNeg p2)).toInt = (-1000000 : Int) ∧ ((-1000010 : Int32) - (1 : Int32)).toInt = (-1000010 : Int) - (1 : Int) ∧ r = (-1000010 : Int32) - (1 : Int32) ∧ True) ∨ (dkN [(-1000011, -1000011)] r ∧ dkN [(0, 7)] p0 ∧ dkN [(0, 7)] p2 ∧ dkN [(1, 1)] (I1 340 4) ∧ (0 : Int) + 0 ≤ p0.toInt ∧ p0.toInt + 0 ≤ (7 : Int) ∧ (0 : Int) + 0 ≤ p2.toInt ∧ p2.toInt + 0 ≤ (7 : Int) ∧ (I0 341 (Int32.toNatClampNeg p0)).toInt = (-1000000 : Int) ∧ ((-1000010 : Int32) - (1 : Int32)).toInt = (-1000010 : Int) - (1 : Int) ∧ r = (-1000010 : Int32) - (1 : Int32) ∧ True) ∨ (True ∧ dkN [(0, 7)] p0 ∧ dkN [(0, 40)] p1 ∧ dkN [(0, 7)] p2 ∧ dkN [(0, 40)] p3 ∧ dkN [(0, 40)] p4 ∧ dkN [(0, 0)] (I1 340 4) ∧ (0 : Int) + 0 ≤ p0.toInt ∧ p0.toInt + 0 ≤ (7 : Int) ∧ (0 : Int) + 0 ≤ p2.toInt ∧ p2.toInt + 0 ≤ (7 : Int) ∧ (I0 341 (Int32.toNatClampNeg p0)).toInt ≠ (-1000000 : Int) ∧ (I0 341 (Int32.toNatClampNeg p2)).toInt ≠ (-1000000 : Int) ∧ (I0 341 (Int32.toNatClampNeg p0)).toInt = (I0 341 (Int32.toNatClampNeg p2)).toInt ∧ (0 : Int) + 0 ≤ p1.toInt ∧ (0 : Int) + 0 ≤ p4.toInt ∧ p1.toInt + 0 ≤ (I0 342 (Int32.toNatClampNeg p0)).toInt ∧ ((I0 342 (Int32.toNatClampNeg p0)) - p1).toInt = (I0 342 (Int32.toNatClampNeg p0)).toInt - p1.toInt ∧ p4.toInt + 0 ≤ ((I0 342 (Int32.toNatClampNeg p0)) - p1).toInt ∧ (0 : Int) + 0 ≤ p3.toInt ∧ p3.toInt + 0 ≤ (I0 342 (Int32.toNatClampNeg p2)).toInt ∧ ((I0 342 (Int32.toNatClampNeg p2)) - p3).toInt = (I0 342 (Int32.toNatClampNeg p2)).toInt - p3.toInt ∧ p4.toInt + 0 ≤ ((I0 342 (Int32.toNatClampNeg p2)) - p3).toInt ∧ r = p4 ∧ True)))) 0 0 (dkA z) := by
  refine Met.ofW (cc := cX6_copy) (maxL := 7) (ret := (some .int)) (by decide) rfl ?_
  intro p e s m args below meth c s₁ B hml hv
  obtain ⟨ha, hW, hK, hT⟩ := hv
  have hx := B.exec
  have hb := B.bytes
  have hr := B.returns
  have hts := atoms_spec (ws := wsX6_copy) B.pre
  have hown : s.vm.findClass RX6 = some m.cls := findClass_of_methodNamed B.named
  have hlocks := B.notSynchronized
  have hS : va_S (dkA z) s.heap s.heap [] := va_S.rf
  have hF : dkF [(340, 340, 4, 4), (343, 343, 0, 359), (344, 344, 0, 39)] I0 I0 := dkF_rf _ _
  have hl := lv_entry ([.ref (z + 340), .int p0, .int p1, .int p2, .int p3, .int p4]) (n := 7) (Nat.le_of_ble_eq_true rfl)
  have hgo : entryFrame m args 7 = entryFrame m ([.ref (z + 340), .int p0, .int p1, .int p2, .int p3, .int p4] : List Value).toArray 7 := by rw [ha]
  rw [hgo, lg_entry_eq]
  generalize (lg_sl ([.ref (z + 340), .int p0, .int p1, .int p2, .int p3, .int p4]) ++ List.replicate (7 - (lg_sl ([.ref (z + 340), .int p0, .int p1, .int p2, .int p3, .int p4])).length) Slot.unset).toArray = ls at hl ⊢
  have hl : lv_has ls 7 [(0, .ref (z + 340)), (1, .int p0), (2, .int p1), (3, .int p2), (4, .int p3), (5, .int p4)] := hl
  have C129 : ∀ (n : Nat), ∀ (I : dkI) (H : Heap) (locs : List Loc) (ls : Array Slot) (x129_6 : Int32), (40 - x129_6.toInt).toNat < n → dkW g z I H → va_S (dkA z) s.heap H locs → dkF [(340, 340, 4, 4), (343, 343, 0, 359), (344, 344, 0, 39)] I0 I → dkOk I → dkN [(0, 40)] x129_6 → dkN [(0, 7)] p0 → dkN [(0, 40)] p1 → dkN [(0, 7)] p2 → dkN [(0, 40)] p3 → dkN [(0, 40)] p4 → p1.toInt + p4.toInt ≤ 40 → p3.toInt + p4.toInt ≤ 40 → (0 : Int) + 0 ≤ p0.toInt → p0.toInt + 0 ≤ (7 : Int) → (0 : Int) + 0 ≤ p2.toInt → p2.toInt + 0 ≤ (7 : Int) → (I0 341 (Int32.toNatClampNeg p0)).toInt ≠ (-1000000 : Int) → (I0 341 (Int32.toNatClampNeg p2)).toInt ≠ (-1000000 : Int) → (I0 341 (Int32.toNatClampNeg p0)).toInt = (I0 341 (Int32.toNatClampNeg p2)).toInt → (0 : Int) + 0 ≤ p1.toInt → (0 : Int) + 0 ≤ p4.toInt → p1.toInt + 0 ≤ (I0 342 (Int32.toNatClampNeg p0)).toInt → ((I0 342 (Int32.toNatClampNeg p0)) - p1).toInt = (I0 342 (Int32.toNatClampNeg p0)).toInt - p1.toInt → p4.toInt + 0 ≤ ((I0 342 (Int32.toNatClampNeg p0)) - p1).toInt → (0 : Int) + 0 ≤ p3.toInt → p3.toInt + 0 ≤ (I0 342 (Int32.toNatClampNeg p2)).toInt → ((I0 342 (Int32.toNatClampNeg p2)) - p3).toInt = (I0 342 (Int32.toNatClampNeg p2)).toInt - p3.toInt → p4.toInt + 0 ≤ ((I0 342 (Int32.toNatClampNeg p2)) - p3).toInt → lv_has ls 7 [(0, .ref (z + 340)), (1, .int p0), (2, .int p1), (3, .int p2), (4, .int p3), (5, .int p4), (6, .int x129_6)] → W p l e (headSpec wsX6_copy (dkR 2)).room s m args below meth c H locs 0 0 (MQ below (dkQi g z (fun r I1 => dkF [(340, 340, 4, 4), (343, 343, 0, 359), (344, 344, 0, 39)] I0 I1 ∧ dkOk I1 ∧ ((dkN [(-1000001, -1000001)] r ∧ dkN [(-2147483648, -1)] p0 ∧ p0.toInt + 1 ≤ (0 : Int) ∧ r = (-1000001) ∧ True) ∨ (dkN [(-1000001, -1000001)] r ∧ dkN [(8, 2147483647)] p0 ∧ (0 : Int) + 0 ≤ p0.toInt ∧ (7 : Int) + 1 ≤ p0.toInt ∧ r = (-1000001) ∧ True) ∨ (dkN [(-1000001, -1000001)] r ∧ dkN [(0, 7)] p0 ∧ dkN [(-2147483648, -1)] p2 ∧ (0 : Int) + 0 ≤ p0.toInt ∧ p0.toInt + 0 ≤ (7 : Int) ∧ p2.toInt + 1 ≤ (0 : Int) ∧ r = (-1000001) ∧ True) ∨ (dkN [(-1000001, -1000001)] r ∧ dkN [(0, 7)] p0 ∧ dkN [(8, 2147483647)] p2 ∧ (0 : Int) + 0 ≤ p0.toInt ∧ p0.toInt + 0 ≤ (7 : Int) ∧ (0 : Int) + 0 ≤ p2.toInt ∧ (7 : Int) + 1 ≤ p2.toInt ∧ r = (-1000001) ∧ True) ∨ (dkN [(-1000012, -1000012)] r ∧ dkN [(0, 7)] p0 ∧ dkN [(-2147483648, -1)] p1 ∧ dkN [(0, 7)] p2 ∧ dkN [(2, 2)] (I1 340 4) ∧ (0 : Int) + 0 ≤ p0.toInt ∧ p0.toInt + 0 ≤ (7 : Int) ∧ (0 : Int) + 0 ≤ p2.toInt ∧ p2.toInt + 0 ≤ (7 : Int) ∧ (I0 341 (Int32.toNatClampNeg p0)).toInt ≠ (-1000000 : Int) ∧ (I0 341 (Int32.toNatClampNeg p2)).toInt ≠ (-1000000 : Int) ∧ (I0 341 (Int32.toNatClampNeg p0)).toInt = (I0 341 (Int32.toNatClampNeg p2)).toInt ∧ p1.toInt + 1 ≤ (0 : Int) ∧ ((-1000010 : Int32) - (2 : Int32)).toInt = (-1000010 : Int) - (2 : Int) ∧ r = (-1000010 : Int32) - (2 : Int32) ∧ True) ∨ (dkN [(-1000012, -1000012)] r ∧ dkN [(0, 7)] p0 ∧ dkN [(0, 2147483647)] p1 ∧ dkN [(0, 7)] p2 ∧ dkN [(-2147483648, -1)] p4 ∧ dkN [(2, 2)] (I1 340 4) ∧ (0 : Int) + 0 ≤ p0.toInt ∧ p0.toInt + 0 ≤ (7 : Int) ∧ (0 : Int) + 0 ≤ p2.toInt ∧ p2.toInt + 0 ≤ (7 : Int) ∧ (I0 341 (Int32.toNatClampNeg p0)).toInt ≠ (-1000000 : Int) ∧ (I0 341 (Int32.toNatClampNeg p2)).toInt ≠ (-1000000 : Int) ∧ (I0 341 (Int32.toNatClampNeg p0)).toInt = (I0 341 (Int32.toNatClampNeg p2)).toInt ∧ (0 : Int) + 0 ≤ p1.toInt ∧ p4.toInt + 1 ≤ (0 : Int) ∧ ((-1000010 : Int32) - (2 : Int32)).toInt = (-1000010 : Int) - (2 : Int) ∧ r = (-1000010 : Int32) - (2 : Int32) ∧ True) ∨ (dkN [(-1000012, -1000012)] r ∧ dkN [(0, 7)] p0 ∧ dkN [(1, 2147483647)] p1 ∧ dkN [(0, 7)] p2 ∧ dkN [(0, 2147483647)] p4 ∧ dkN [(2, 2)] (I1 340 4) ∧ (0 : Int) + 0 ≤ p0.toInt ∧ p0.toInt + 0 ≤ (7 : Int) ∧ (0 : Int) + 0 ≤ p2.toInt ∧ p2.toInt + 0 ≤ (7 : Int) ∧ (I0 341 (Int32.toNatClampNeg p0)).toInt ≠ (-1000000 : Int) ∧ (I0 341 (Int32.toNatClampNeg p2)).toInt ≠ (-1000000 : Int) ∧ (I0 341 (Int32.toNatClampNeg p0)).toInt = (I0 341 (Int32.toNatClampNeg p2)).toInt ∧ (0 : Int) + 0 ≤ p1.toInt ∧ (0 : Int) + 0 ≤ p4.toInt ∧ (I0 342 (Int32.toNatClampNeg p0)).toInt + 1 ≤ p1.toInt ∧ ((-1000010 : Int32) - (2 : Int32)).toInt = (-1000010 : Int) - (2 : Int) ∧ r = (-1000010 : Int32) - (2 : Int32) ∧ True) ∨ (dkN [(-1000012, -1000012)] r ∧ dkN [(0, 7)] p0 ∧ dkN [(0, 40)] p1 ∧ dkN [(0, 7)] p2 ∧ dkN [(0, 2147483647)] p4 ∧ dkN [(2, 2)] (I1 340 4) ∧ (0 : Int) + 0 ≤ p0.toInt ∧ p0.toInt + 0 ≤ (7 : Int) ∧ (0 : Int) + 0 ≤ p2.toInt ∧ p2.toInt + 0 ≤ (7 : Int) ∧ (I0 341 (Int32.toNatClampNeg p0)).toInt ≠ (-1000000 : Int) ∧ (I0 341 (Int32.toNatClampNeg p2)).toInt ≠ (-1000000 : Int) ∧ (I0 341 (Int32.toNatClampNeg p0)).toInt = (I0 341 (Int32.toNatClampNeg p2)).toInt ∧ (0 : Int) + 0 ≤ p1.toInt ∧ (0 : Int) + 0 ≤ p4.toInt ∧ p1.toInt + 0 ≤ (I0 342 (Int32.toNatClampNeg p0)).toInt ∧ ((I0 342 (Int32.toNatClampNeg p0)) - p1).toInt = (I0 342 (Int32.toNatClampNeg p0)).toInt - p1.toInt ∧ ((I0 342 (Int32.toNatClampNeg p0)) - p1).toInt + 1 ≤ p4.toInt ∧ ((-1000010 : Int32) - (2 : Int32)).toInt = (-1000010 : Int) - (2 : Int) ∧ r = (-1000010 : Int32) - (2 : Int32) ∧ True) ∨ (dkN [(-1000012, -1000012)] r ∧ dkN [(0, 7)] p0 ∧ dkN [(0, 40)] p1 ∧ dkN [(0, 7)] p2 ∧ dkN [(-2147483648, -1)] p3 ∧ dkN [(0, 40)] p4 ∧ dkN [(2, 2)] (I1 340 4) ∧ (0 : Int) + 0 ≤ p0.toInt ∧ p0.toInt + 0 ≤ (7 : Int) ∧ (0 : Int) + 0 ≤ p2.toInt ∧ p2.toInt + 0 ≤ (7 : Int) ∧ (I0 341 (Int32.toNatClampNeg p0)).toInt ≠ (-1000000 : Int) ∧ (I0 341 (Int32.toNatClampNeg p2)).toInt ≠ (-1000000 : Int) ∧ (I0 341 (Int32.toNatClampNeg p0)).toInt = (I0 341 (Int32.toNatClampNeg p2)).toInt ∧ (0 : Int) + 0 ≤ p1.toInt ∧ (0 : Int) + 0 ≤ p4.toInt ∧ p1.toInt + 0 ≤ (I0 342 (Int32.toNatClampNeg p0)).toInt ∧ ((I0 342 (Int32.toNatClampNeg p0)) - p1).toInt = (I0 342 (Int32.toNatClampNeg p0)).toInt - p1.toInt ∧ p4.toInt + 0 ≤ ((I0 342 (Int32.toNatClampNeg p0)) - p1).toInt ∧ p3.toInt + 1 ≤ (0 : Int) ∧ ((-1000010 : Int32) - (2 : Int32)).toInt = (-1000010 : Int) - (2 : Int) ∧ r = (-1000010 : Int32) - (2 : Int32) ∧ True) ∨ (dkN [(-1000012, -1000012)] r ∧ dkN [(0, 7)] p0 ∧ dkN [(0, 40)] p1 ∧ dkN [(0, 7)] p2 ∧ dkN [(1, 2147483647)] p3 ∧ dkN [(0, 40)] p4 ∧ dkN [(2, 2)] (I1 340 4) ∧ (0 : Int) + 0 ≤ p0.toInt ∧ p0.toInt + 0 ≤ (7 : Int) ∧ (0 : Int) + 0 ≤ p2.toInt ∧ p2.toInt + 0 ≤ (7 : Int) ∧ (I0 341 (Int32.toNatClampNeg p0)).toInt ≠ (-1000000 : Int) ∧ (I0 341 (Int32.toNatClampNeg p2)).toInt ≠ (-1000000 : Int) ∧ (I0 341 (Int32.toNatClampNeg p0)).toInt = (I0 341 (Int32.toNatClampNeg p2)).toInt ∧ (0 : Int) + 0 ≤ p1.toInt ∧ (0 : Int) + 0 ≤ p4.toInt ∧ p1.toInt + 0 ≤ (I0 342 (Int32.toNatClampNeg p0)).toInt ∧ ((I0 342 (Int32.toNatClampNeg p0)) - p1).toInt = (I0 342 (Int32.toNatClampNeg p0)).toInt - p1.toInt ∧ p4.toInt + 0 ≤ ((I0 342 (Int32.toNatClampNeg p0)) - p1).toInt ∧ (0 : Int) + 0 ≤ p3.toInt ∧ (I0 342 (Int32.toNatClampNeg p2)).toInt + 1 ≤ p3.toInt ∧ ((-1000010 : Int32) - (2 : Int32)).toInt = (-1000010 : Int) - (2 : Int) ∧ r = (-1000010 : Int32) - (2 : Int32) ∧ True) ∨ (dkN [(-1000012, -1000012)] r ∧ dkN [(0, 7)] p0 ∧ dkN [(0, 40)] p1 ∧ dkN [(0, 7)] p2 ∧ dkN [(0, 40)] p3 ∧ dkN [(0, 40)] p4 ∧ dkN [(2, 2)] (I1 340 4) ∧ (0 : Int) + 0 ≤ p0.toInt ∧ p0.toInt + 0 ≤ (7 : Int) ∧ (0 : Int) + 0 ≤ p2.toInt ∧ p2.toInt + 0 ≤ (7 : Int) ∧ (I0 341 (Int32.toNatClampNeg p0)).toInt ≠ (-1000000 : Int) ∧ (I0 341 (Int32.toNatClampNeg p2)).toInt ≠ (-1000000 : Int) ∧ (I0 341 (Int32.toNatClampNeg p0)).toInt = (I0 341 (Int32.toNatClampNeg p2)).toInt ∧ (0 : Int) + 0 ≤ p1.toInt ∧ (0 : Int) + 0 ≤ p4.toInt ∧ p1.toInt + 0 ≤ (I0 342 (Int32.toNatClampNeg p0)).toInt ∧ ((I0 342 (Int32.toNatClampNeg p0)) - p1).toInt = (I0 342 (Int32.toNatClampNeg p0)).toInt - p1.toInt ∧ p4.toInt + 0 ≤ ((I0 342 (Int32.toNatClampNeg p0)) - p1).toInt ∧ (0 : Int) + 0 ≤ p3.toInt ∧ p3.toInt + 0 ≤ (I0 342 (Int32.toNatClampNeg p2)).toInt ∧ ((I0 342 (Int32.toNatClampNeg p2)) - p3).toInt = (I0 342 (Int32.toNatClampNeg p2)).toInt - p3.toInt ∧ ((I0 342 (Int32.toNatClampNeg p2)) - p3).toInt + 1 ≤ p4.toInt ∧ ((-1000010 : Int32) - (2 : Int32)).toInt = (-1000010 : Int) - (2 : Int) ∧ r = (-1000010 : Int32) - (2 : Int32) ∧ True) ∨ (dkN [(-1000015, -1000015)] r ∧ dkN [(0, 7)] p0 ∧ dkN [(0, 7)] p2 ∧ dkN [(5, 5)] (I1 340 4) ∧ (0 : Int) + 0 ≤ p0.toInt ∧ p0.toInt + 0 ≤ (7 : Int) ∧ (0 : Int) + 0 ≤ p2.toInt ∧ p2.toInt + 0 ≤ (7 : Int) ∧ (I0 341 (Int32.toNatClampNeg p0)).toInt ≠ (-1000000 : Int) ∧ (I0 341 (Int32.toNatClampNeg p2)).toInt ≠ (-1000000 : Int) ∧ (I0 341 (Int32.toNatClampNeg p0)).toInt ≠ (I0 341 (Int32.toNatClampNeg p2)).toInt ∧ ((-1000010 : Int32) - (5 : Int32)).toInt = (-1000010 : Int) - (5 : Int) ∧ r = (-1000010 : Int32) - (5 : Int32) ∧ True) ∨ (dkN [(-1000011, -1000011)] r ∧ dkN [(0, 7)] p0 ∧ dkN [(0, 7)] p2 ∧ dkN [(1, 1)] (I1 340 4) ∧ (0 : Int) + 0 ≤ p0.toInt ∧ p0.toInt + 0 ≤ (7 : Int) ∧ (0 : Int) + 0 ≤ p2.toInt ∧ p2.toInt + 0 ≤ (7 : Int) ∧ (I0 341 (Int32.toNatClampNeg p0)).toInt ≠ (-1000000 : Int) ∧ (I0 341 (Int32.toNatClampNeg p2)).toInt = (-1000000 : Int) ∧ ((-1000010 : Int32) - (1 : Int32)).toInt = (-1000010 : Int) - (1 : Int) ∧ r = (-1000010 : Int32) - (1 : Int32) ∧ True) ∨ (dkN [(-1000011, -1000011)] r ∧ dkN [(0, 7)] p0 ∧ dkN [(0, 7)] p2 ∧ dkN [(1, 1)] (I1 340 4) ∧ (0 : Int) + 0 ≤ p0.toInt ∧ p0.toInt + 0 ≤ (7 : Int) ∧ (0 : Int) + 0 ≤ p2.toInt ∧ p2.toInt + 0 ≤ (7 : Int) ∧ (I0 341 (Int32.toNatClampNeg p0)).toInt = (-1000000 : Int) ∧ ((-1000010 : Int32) - (1 : Int32)).toInt = (-1000010 : Int) - (1 : Int) ∧ r = (-1000010 : Int32) - (1 : Int32) ∧ True) ∨ (True ∧ dkN [(0, 7)] p0 ∧ dkN [(0, 40)] p1 ∧ dkN [(0, 7)] p2 ∧ dkN [(0, 40)] p3 ∧ dkN [(0, 40)] p4 ∧ dkN [(0, 0)] (I1 340 4) ∧ (0 : Int) + 0 ≤ p0.toInt ∧ p0.toInt + 0 ≤ (7 : Int) ∧ (0 : Int) + 0 ≤ p2.toInt ∧ p2.toInt + 0 ≤ (7 : Int) ∧ (I0 341 (Int32.toNatClampNeg p0)).toInt ≠ (-1000000 : Int) ∧ (I0 341 (Int32.toNatClampNeg p2)).toInt ≠ (-1000000 : Int) ∧ (I0 341 (Int32.toNatClampNeg p0)).toInt = (I0 341 (Int32.toNatClampNeg p2)).toInt ∧ (0 : Int) + 0 ≤ p1.toInt ∧ (0 : Int) + 0 ≤ p4.toInt ∧ p1.toInt + 0 ≤ (I0 342 (Int32.toNatClampNeg p0)).toInt ∧ ((I0 342 (Int32.toNatClampNeg p0)) - p1).toInt = (I0 342 (Int32.toNatClampNeg p0)).toInt - p1.toInt ∧ p4.toInt + 0 ≤ ((I0 342 (Int32.toNatClampNeg p0)) - p1).toInt ∧ (0 : Int) + 0 ≤ p3.toInt ∧ p3.toInt + 0 ≤ (I0 342 (Int32.toNatClampNeg p2)).toInt ∧ ((I0 342 (Int32.toNatClampNeg p2)) - p3).toInt = (I0 342 (Int32.toNatClampNeg p2)).toInt - p3.toInt ∧ p4.toInt + 0 ≤ ((I0 342 (Int32.toNatClampNeg p2)) - p3).toInt ∧ r = p4 ∧ True)))) args s 0 0 (dkA z)) (F0 m 129 ls []) := by
    intro n
    induction n with
    | zero => intro I H locs ls x129_6 hn; exact absurd hn (Nat.not_lt_zero _)
    | succ n ih129 =>
      intro I129_ H locs ls x129_6 hn129 hW hS hF_129 hO k129_0 r129_0 r129_1 r129_2 r129_3 r129_4 q129_0 q129_1 y129_0 y129_1 y129_2 y129_3 y129_4 y129_5 y129_6 y129_7 y129_8 y129_9 y129_10 y129_11 y129_12 y129_13 y129_14 y129_15 hl
      have hF := hF_129
      refine lv_iload hx hb dX6_copy_129 (lv_at hl 6 rfl) ?_
      refine lv_iload hx hb dX6_copy_131 (lv_at hl 5 rfl) ?_
      refine lv_icmp_ge (tgt := 164) hx hb dX6_copy_133 (by decide) (fun c1 => ?_) (fun c1 => ?_)
      ·
        refine lv_aload_n hx hb dX6_copy_164 rfl (lv_at hl 0 rfl) ?_
        refine lv_iload hx hb dX6_copy_165 (lv_at hl 5 rfl) ?_
        refine dk_Vi (As := [.int p4]) (rest := []) ⟨hx, hb, hml, hown, hts⟩ (f_X6_well_1 l g z I129_ p4 hO) (cwV 1 hts gX6_copy_X6_well rfl rfl rfl (by decide +kernel) ⟨Nat.le_of_ble_eq_true rfl, Nat.le_of_ble_eq_true rfl⟩) (dk_at340 hW) rfl hK hT hW hS rfl hl.1 rfl (Nat.le_of_ble_eq_true rfl) dX6_copy_167 ⟨Nat.zero_le _, Nat.zero_le _⟩ (fun v2 I2 H2 L2 hp2 hW hS => ?_)
        obtain ⟨hF2, hO, hc2⟩ := hp2
        have hF := dkF_call hF hF2 rfl
        obtain ⟨_, f2_340_4, xr2, -⟩ := hc2
        have xv2 : v2 = p4 := by rw [xr2]
        exact W.iret (v := v2) hx hb hr (fun t ht hW9 => ⟨⟨v2, I2, rfl, ⟨hF, hO, Or.inr (Or.inr (Or.inr (Or.inr (Or.inr (Or.inr (Or.inr (Or.inr (Or.inr (Or.inr (Or.inr (Or.inr (Or.inr (Or.inr (⟨trivial, dkN_sub r129_0 rfl, dkN_sub r129_1 rfl, dkN_sub r129_2 rfl, dkN_sub r129_3 rfl, dkN_sub r129_4 rfl, (show dkN [(0, 0)] (I2 340 4) from dkN_sub f2_340_4 rfl), y129_0, y129_1, y129_2, y129_3, y129_4, y129_5, y129_6, y129_7, y129_8, y129_9, y129_10, y129_11, y129_12, y129_13, y129_14, y129_15, xv2, trivial⟩))))))))))))))⟩, dkW_eq ht hW⟩, hS.F ht⟩) hS.2.2 dX6_copy_170
      ·
        have d3 : dkN [(1, 40)] p4 := dkN_le2 1 k129_0 r129_4 (dkc_nle c1) rfl
        have d4 : dkN [(0, 39)] x129_6 := dkN_le1 1 k129_0 r129_4 (dkc_nle c1) rfl
        refine lv_aload_n hx hb dX6_copy_136 rfl (lv_at hl 0 rfl) ?_
        refine dk_get (k := 340) hx hb hts iX6_copy_6 hown hK (dk_at340 hW) rfl 2 (by decide) (hts (.fieldLink RX6 16 "DogKingsModel" "items" "[I") (List.mem_of_getElem? (i := 4) rfl)) rfl dX6_copy_137 ?_
        refine lv_bipush (v := 40) hx hb dX6_copy_140 (by decide) ?_
        refine lv_iload_n hx hb dX6_copy_142 rfl (lv_at hl 3 rfl) ?_
        refine lv_imul hx hb dX6_copy_143 ?_
        refine lv_topi (fun v5 ev5 => ?_)
        have dv5 : dkN [(0, 280)] v5 := by rw [ev5]; exact dkN_mulL 40 (by decide) (dkN_lit (x := 40) (40) rfl) r129_2 rfl
        have xv5 : v5 = (40 : Int32) * p2 := by rw [ev5]
        refine lv_iload hx hb dX6_copy_144 (lv_at hl 4 rfl) ?_
        refine lv_iadd hx hb dX6_copy_146 ?_
        refine lv_topi (fun v6 ev6 => ?_)
        have dv6 : dkN [(0, 320)] v6 := by rw [ev6]; exact dkN_add dv5 r129_3 rfl
        have xv6 : v6 = ((40 : Int32) * p2) + p3 := by rw [ev6, xv5]
        have q7 : (((40 : Int32) * p2) + p3).toInt = ((40 : Int32) * p2).toInt + p3.toInt := by rw [← xv6, ← xv5]; exact (by rw [ev6]; exact dk_addE dv5 r129_3 rfl)
        refine lv_iload hx hb dX6_copy_147 (lv_at hl 6 rfl) ?_
        refine lv_iadd hx hb dX6_copy_149 ?_
        refine lv_topi (fun v8 ev8 => ?_)
        have dv8 : dkN [(0, 359)] v8 := by rw [ev8]; exact dkN_add dv6 d4 rfl
        refine lv_aload_n hx hb dX6_copy_150 rfl (lv_at hl 0 rfl) ?_
        refine dk_get (k := 340) hx hb hts iX6_copy_6 hown hK (dk_at340 hW) rfl 3 (by decide) (hts (.fieldLink RX6 19 "DogKingsModel" "spare" "[I") (List.mem_of_getElem? (i := 3) rfl)) rfl dX6_copy_151 ?_
        refine lv_iload hx hb dX6_copy_154 (lv_at hl 6 rfl) ?_
        refine dk_ild (k := 344) hx hb hK (dk_at344 hW) (dkN_in (n := 40) d4 rfl) dX6_copy_156 ?_
        refine lv_topi (fun v9 ev9 => ?_)
        refine dk_ist (k := 343) hx hb hK hW (fun _ => rfl) (by decide) hS (dk_in320 ev5 ev6 ev8 r129_2 r129_3 d4 (dkc_nle c1) q129_1 rfl) dX6_copy_157 (fun I10 H10 L10 eI10 hW hS => ?_)
        have hO := dkO_set hO eI10 (dkN_sub (dkN_top v9) rfl)
        have hF := dkF_set hF eI10 (dkIn_v dv8 rfl)
        obtain ⟨v11, ev11⟩ : ∃ y : Int32, y = x129_6 + 1 := ⟨_, rfl⟩
        have dv11 : dkN [(1, 40)] v11 := by rw [ev11]; exact dkN_add d4 (dkN_lit (x := 1) (1) rfl) rfl
        refine lv_iinc (v := v11) (lv' := [(6, .int v11), (0, .ref (z + 340)), (1, .int p0), (2, .int p1), (3, .int p2), (4, .int p3), (5, .int p4)]) hx hb dX6_copy_158 hl (k := 6) rfl (by rw [ev11]; rfl) (by decide) rfl (fun ls hl => ?_)
        refine lv_goto (tgt := 129) hx hb dX6_copy_161 (by decide) ?_
        exact ih129 I10 _ _ ls v11 (dk_near hn129 (by rw [ev11]; exact dk_inc d4 rfl) (dkN_lt d4 rfl)) hW hS hF hO (dkN_sub dv11 rfl) (dkN_sub r129_0 rfl) (dkN_sub r129_1 rfl) (dkN_sub r129_2 rfl) (dkN_sub r129_3 rfl) (dkN_sub d3 rfl) q129_0 q129_1 y129_0 y129_1 y129_2 y129_3 y129_4 y129_5 y129_6 y129_7 y129_8 y129_9 y129_10 y129_11 y129_12 y129_13 y129_14 y129_15 (lv_sub hl [1, 2, 3, 4, 5, 6, 0] rfl)
  have C92 : ∀ (n : Nat), ∀ (I : dkI) (H : Heap) (locs : List Loc) (ls : Array Slot) (x92_6 : Int32), (40 - x92_6.toInt).toNat < n → dkW g z I H → va_S (dkA z) s.heap H locs → dkF [(340, 340, 4, 4), (343, 343, 0, 359), (344, 344, 0, 39)] I0 I → dkOk I → dkN [(0, 40)] x92_6 → dkN [(0, 7)] p0 → dkN [(0, 40)] p1 → dkN [(0, 7)] p2 → dkN [(0, 40)] p3 → dkN [(0, 40)] p4 → p1.toInt + p4.toInt ≤ 40 → p3.toInt + p4.toInt ≤ 40 → (0 : Int) + 0 ≤ p0.toInt → p0.toInt + 0 ≤ (7 : Int) → (0 : Int) + 0 ≤ p2.toInt → p2.toInt + 0 ≤ (7 : Int) → (I0 341 (Int32.toNatClampNeg p0)).toInt ≠ (-1000000 : Int) → (I0 341 (Int32.toNatClampNeg p2)).toInt ≠ (-1000000 : Int) → (I0 341 (Int32.toNatClampNeg p0)).toInt = (I0 341 (Int32.toNatClampNeg p2)).toInt → (0 : Int) + 0 ≤ p1.toInt → (0 : Int) + 0 ≤ p4.toInt → p1.toInt + 0 ≤ (I0 342 (Int32.toNatClampNeg p0)).toInt → ((I0 342 (Int32.toNatClampNeg p0)) - p1).toInt = (I0 342 (Int32.toNatClampNeg p0)).toInt - p1.toInt → p4.toInt + 0 ≤ ((I0 342 (Int32.toNatClampNeg p0)) - p1).toInt → (0 : Int) + 0 ≤ p3.toInt → p3.toInt + 0 ≤ (I0 342 (Int32.toNatClampNeg p2)).toInt → ((I0 342 (Int32.toNatClampNeg p2)) - p3).toInt = (I0 342 (Int32.toNatClampNeg p2)).toInt - p3.toInt → p4.toInt + 0 ≤ ((I0 342 (Int32.toNatClampNeg p2)) - p3).toInt → lv_has ls 7 [(0, .ref (z + 340)), (1, .int p0), (2, .int p1), (3, .int p2), (4, .int p3), (5, .int p4), (6, .int x92_6)] → W p l e (headSpec wsX6_copy (dkR 2)).room s m args below meth c H locs 0 0 (MQ below (dkQi g z (fun r I1 => dkF [(340, 340, 4, 4), (343, 343, 0, 359), (344, 344, 0, 39)] I0 I1 ∧ dkOk I1 ∧ ((dkN [(-1000001, -1000001)] r ∧ dkN [(-2147483648, -1)] p0 ∧ p0.toInt + 1 ≤ (0 : Int) ∧ r = (-1000001) ∧ True) ∨ (dkN [(-1000001, -1000001)] r ∧ dkN [(8, 2147483647)] p0 ∧ (0 : Int) + 0 ≤ p0.toInt ∧ (7 : Int) + 1 ≤ p0.toInt ∧ r = (-1000001) ∧ True) ∨ (dkN [(-1000001, -1000001)] r ∧ dkN [(0, 7)] p0 ∧ dkN [(-2147483648, -1)] p2 ∧ (0 : Int) + 0 ≤ p0.toInt ∧ p0.toInt + 0 ≤ (7 : Int) ∧ p2.toInt + 1 ≤ (0 : Int) ∧ r = (-1000001) ∧ True) ∨ (dkN [(-1000001, -1000001)] r ∧ dkN [(0, 7)] p0 ∧ dkN [(8, 2147483647)] p2 ∧ (0 : Int) + 0 ≤ p0.toInt ∧ p0.toInt + 0 ≤ (7 : Int) ∧ (0 : Int) + 0 ≤ p2.toInt ∧ (7 : Int) + 1 ≤ p2.toInt ∧ r = (-1000001) ∧ True) ∨ (dkN [(-1000012, -1000012)] r ∧ dkN [(0, 7)] p0 ∧ dkN [(-2147483648, -1)] p1 ∧ dkN [(0, 7)] p2 ∧ dkN [(2, 2)] (I1 340 4) ∧ (0 : Int) + 0 ≤ p0.toInt ∧ p0.toInt + 0 ≤ (7 : Int) ∧ (0 : Int) + 0 ≤ p2.toInt ∧ p2.toInt + 0 ≤ (7 : Int) ∧ (I0 341 (Int32.toNatClampNeg p0)).toInt ≠ (-1000000 : Int) ∧ (I0 341 (Int32.toNatClampNeg p2)).toInt ≠ (-1000000 : Int) ∧ (I0 341 (Int32.toNatClampNeg p0)).toInt = (I0 341 (Int32.toNatClampNeg p2)).toInt ∧ p1.toInt + 1 ≤ (0 : Int) ∧ ((-1000010 : Int32) - (2 : Int32)).toInt = (-1000010 : Int) - (2 : Int) ∧ r = (-1000010 : Int32) - (2 : Int32) ∧ True) ∨ (dkN [(-1000012, -1000012)] r ∧ dkN [(0, 7)] p0 ∧ dkN [(0, 2147483647)] p1 ∧ dkN [(0, 7)] p2 ∧ dkN [(-2147483648, -1)] p4 ∧ dkN [(2, 2)] (I1 340 4) ∧ (0 : Int) + 0 ≤ p0.toInt ∧ p0.toInt + 0 ≤ (7 : Int) ∧ (0 : Int) + 0 ≤ p2.toInt ∧ p2.toInt + 0 ≤ (7 : Int) ∧ (I0 341 (Int32.toNatClampNeg p0)).toInt ≠ (-1000000 : Int) ∧ (I0 341 (Int32.toNatClampNeg p2)).toInt ≠ (-1000000 : Int) ∧ (I0 341 (Int32.toNatClampNeg p0)).toInt = (I0 341 (Int32.toNatClampNeg p2)).toInt ∧ (0 : Int) + 0 ≤ p1.toInt ∧ p4.toInt + 1 ≤ (0 : Int) ∧ ((-1000010 : Int32) - (2 : Int32)).toInt = (-1000010 : Int) - (2 : Int) ∧ r = (-1000010 : Int32) - (2 : Int32) ∧ True) ∨ (dkN [(-1000012, -1000012)] r ∧ dkN [(0, 7)] p0 ∧ dkN [(1, 2147483647)] p1 ∧ dkN [(0, 7)] p2 ∧ dkN [(0, 2147483647)] p4 ∧ dkN [(2, 2)] (I1 340 4) ∧ (0 : Int) + 0 ≤ p0.toInt ∧ p0.toInt + 0 ≤ (7 : Int) ∧ (0 : Int) + 0 ≤ p2.toInt ∧ p2.toInt + 0 ≤ (7 : Int) ∧ (I0 341 (Int32.toNatClampNeg p0)).toInt ≠ (-1000000 : Int) ∧ (I0 341 (Int32.toNatClampNeg p2)).toInt ≠ (-1000000 : Int) ∧ (I0 341 (Int32.toNatClampNeg p0)).toInt = (I0 341 (Int32.toNatClampNeg p2)).toInt ∧ (0 : Int) + 0 ≤ p1.toInt ∧ (0 : Int) + 0 ≤ p4.toInt ∧ (I0 342 (Int32.toNatClampNeg p0)).toInt + 1 ≤ p1.toInt ∧ ((-1000010 : Int32) - (2 : Int32)).toInt = (-1000010 : Int) - (2 : Int) ∧ r = (-1000010 : Int32) - (2 : Int32) ∧ True) ∨ (dkN [(-1000012, -1000012)] r ∧ dkN [(0, 7)] p0 ∧ dkN [(0, 40)] p1 ∧ dkN [(0, 7)] p2 ∧ dkN [(0, 2147483647)] p4 ∧ dkN [(2, 2)] (I1 340 4) ∧ (0 : Int) + 0 ≤ p0.toInt ∧ p0.toInt + 0 ≤ (7 : Int) ∧ (0 : Int) + 0 ≤ p2.toInt ∧ p2.toInt + 0 ≤ (7 : Int) ∧ (I0 341 (Int32.toNatClampNeg p0)).toInt ≠ (-1000000 : Int) ∧ (I0 341 (Int32.toNatClampNeg p2)).toInt ≠ (-1000000 : Int) ∧ (I0 341 (Int32.toNatClampNeg p0)).toInt = (I0 341 (Int32.toNatClampNeg p2)).toInt ∧ (0 : Int) + 0 ≤ p1.toInt ∧ (0 : Int) + 0 ≤ p4.toInt ∧ p1.toInt + 0 ≤ (I0 342 (Int32.toNatClampNeg p0)).toInt ∧ ((I0 342 (Int32.toNatClampNeg p0)) - p1).toInt = (I0 342 (Int32.toNatClampNeg p0)).toInt - p1.toInt ∧ ((I0 342 (Int32.toNatClampNeg p0)) - p1).toInt + 1 ≤ p4.toInt ∧ ((-1000010 : Int32) - (2 : Int32)).toInt = (-1000010 : Int) - (2 : Int) ∧ r = (-1000010 : Int32) - (2 : Int32) ∧ True) ∨ (dkN [(-1000012, -1000012)] r ∧ dkN [(0, 7)] p0 ∧ dkN [(0, 40)] p1 ∧ dkN [(0, 7)] p2 ∧ dkN [(-2147483648, -1)] p3 ∧ dkN [(0, 40)] p4 ∧ dkN [(2, 2)] (I1 340 4) ∧ (0 : Int) + 0 ≤ p0.toInt ∧ p0.toInt + 0 ≤ (7 : Int) ∧ (0 : Int) + 0 ≤ p2.toInt ∧ p2.toInt + 0 ≤ (7 : Int) ∧ (I0 341 (Int32.toNatClampNeg p0)).toInt ≠ (-1000000 : Int) ∧ (I0 341 (Int32.toNatClampNeg p2)).toInt ≠ (-1000000 : Int) ∧ (I0 341 (Int32.toNatClampNeg p0)).toInt = (I0 341 (Int32.toNatClampNeg p2)).toInt ∧ (0 : Int) + 0 ≤ p1.toInt ∧ (0 : Int) + 0 ≤ p4.toInt ∧ p1.toInt + 0 ≤ (I0 342 (Int32.toNatClampNeg p0)).toInt ∧ ((I0 342 (Int32.toNatClampNeg p0)) - p1).toInt = (I0 342 (Int32.toNatClampNeg p0)).toInt - p1.toInt ∧ p4.toInt + 0 ≤ ((I0 342 (Int32.toNatClampNeg p0)) - p1).toInt ∧ p3.toInt + 1 ≤ (0 : Int) ∧ ((-1000010 : Int32) - (2 : Int32)).toInt = (-1000010 : Int) - (2 : Int) ∧ r = (-1000010 : Int32) - (2 : Int32) ∧ True) ∨ (dkN [(-1000012, -1000012)] r ∧ dkN [(0, 7)] p0 ∧ dkN [(0, 40)] p1 ∧ dkN [(0, 7)] p2 ∧ dkN [(1, 2147483647)] p3 ∧ dkN [(0, 40)] p4 ∧ dkN [(2, 2)] (I1 340 4) ∧ (0 : Int) + 0 ≤ p0.toInt ∧ p0.toInt + 0 ≤ (7 : Int) ∧ (0 : Int) + 0 ≤ p2.toInt ∧ p2.toInt + 0 ≤ (7 : Int) ∧ (I0 341 (Int32.toNatClampNeg p0)).toInt ≠ (-1000000 : Int) ∧ (I0 341 (Int32.toNatClampNeg p2)).toInt ≠ (-1000000 : Int) ∧ (I0 341 (Int32.toNatClampNeg p0)).toInt = (I0 341 (Int32.toNatClampNeg p2)).toInt ∧ (0 : Int) + 0 ≤ p1.toInt ∧ (0 : Int) + 0 ≤ p4.toInt ∧ p1.toInt + 0 ≤ (I0 342 (Int32.toNatClampNeg p0)).toInt ∧ ((I0 342 (Int32.toNatClampNeg p0)) - p1).toInt = (I0 342 (Int32.toNatClampNeg p0)).toInt - p1.toInt ∧ p4.toInt + 0 ≤ ((I0 342 (Int32.toNatClampNeg p0)) - p1).toInt ∧ (0 : Int) + 0 ≤ p3.toInt ∧ (I0 342 (Int32.toNatClampNeg p2)).toInt + 1 ≤ p3.toInt ∧ ((-1000010 : Int32) - (2 : Int32)).toInt = (-1000010 : Int) - (2 : Int) ∧ r = (-1000010 : Int32) - (2 : Int32) ∧ True) ∨ (dkN [(-1000012, -1000012)] r ∧ dkN [(0, 7)] p0 ∧ dkN [(0, 40)] p1 ∧ dkN [(0, 7)] p2 ∧ dkN [(0, 40)] p3 ∧ dkN [(0, 40)] p4 ∧ dkN [(2, 2)] (I1 340 4) ∧ (0 : Int) + 0 ≤ p0.toInt ∧ p0.toInt + 0 ≤ (7 : Int) ∧ (0 : Int) + 0 ≤ p2.toInt ∧ p2.toInt + 0 ≤ (7 : Int) ∧ (I0 341 (Int32.toNatClampNeg p0)).toInt ≠ (-1000000 : Int) ∧ (I0 341 (Int32.toNatClampNeg p2)).toInt ≠ (-1000000 : Int) ∧ (I0 341 (Int32.toNatClampNeg p0)).toInt = (I0 341 (Int32.toNatClampNeg p2)).toInt ∧ (0 : Int) + 0 ≤ p1.toInt ∧ (0 : Int) + 0 ≤ p4.toInt ∧ p1.toInt + 0 ≤ (I0 342 (Int32.toNatClampNeg p0)).toInt ∧ ((I0 342 (Int32.toNatClampNeg p0)) - p1).toInt = (I0 342 (Int32.toNatClampNeg p0)).toInt - p1.toInt ∧ p4.toInt + 0 ≤ ((I0 342 (Int32.toNatClampNeg p0)) - p1).toInt ∧ (0 : Int) + 0 ≤ p3.toInt ∧ p3.toInt + 0 ≤ (I0 342 (Int32.toNatClampNeg p2)).toInt ∧ ((I0 342 (Int32.toNatClampNeg p2)) - p3).toInt = (I0 342 (Int32.toNatClampNeg p2)).toInt - p3.toInt ∧ ((I0 342 (Int32.toNatClampNeg p2)) - p3).toInt + 1 ≤ p4.toInt ∧ ((-1000010 : Int32) - (2 : Int32)).toInt = (-1000010 : Int) - (2 : Int) ∧ r = (-1000010 : Int32) - (2 : Int32) ∧ True) ∨ (dkN [(-1000015, -1000015)] r ∧ dkN [(0, 7)] p0 ∧ dkN [(0, 7)] p2 ∧ dkN [(5, 5)] (I1 340 4) ∧ (0 : Int) + 0 ≤ p0.toInt ∧ p0.toInt + 0 ≤ (7 : Int) ∧ (0 : Int) + 0 ≤ p2.toInt ∧ p2.toInt + 0 ≤ (7 : Int) ∧ (I0 341 (Int32.toNatClampNeg p0)).toInt ≠ (-1000000 : Int) ∧ (I0 341 (Int32.toNatClampNeg p2)).toInt ≠ (-1000000 : Int) ∧ (I0 341 (Int32.toNatClampNeg p0)).toInt ≠ (I0 341 (Int32.toNatClampNeg p2)).toInt ∧ ((-1000010 : Int32) - (5 : Int32)).toInt = (-1000010 : Int) - (5 : Int) ∧ r = (-1000010 : Int32) - (5 : Int32) ∧ True) ∨ (dkN [(-1000011, -1000011)] r ∧ dkN [(0, 7)] p0 ∧ dkN [(0, 7)] p2 ∧ dkN [(1, 1)] (I1 340 4) ∧ (0 : Int) + 0 ≤ p0.toInt ∧ p0.toInt + 0 ≤ (7 : Int) ∧ (0 : Int) + 0 ≤ p2.toInt ∧ p2.toInt + 0 ≤ (7 : Int) ∧ (I0 341 (Int32.toNatClampNeg p0)).toInt ≠ (-1000000 : Int) ∧ (I0 341 (Int32.toNatClampNeg p2)).toInt = (-1000000 : Int) ∧ ((-1000010 : Int32) - (1 : Int32)).toInt = (-1000010 : Int) - (1 : Int) ∧ r = (-1000010 : Int32) - (1 : Int32) ∧ True) ∨ (dkN [(-1000011, -1000011)] r ∧ dkN [(0, 7)] p0 ∧ dkN [(0, 7)] p2 ∧ dkN [(1, 1)] (I1 340 4) ∧ (0 : Int) + 0 ≤ p0.toInt ∧ p0.toInt + 0 ≤ (7 : Int) ∧ (0 : Int) + 0 ≤ p2.toInt ∧ p2.toInt + 0 ≤ (7 : Int) ∧ (I0 341 (Int32.toNatClampNeg p0)).toInt = (-1000000 : Int) ∧ ((-1000010 : Int32) - (1 : Int32)).toInt = (-1000010 : Int) - (1 : Int) ∧ r = (-1000010 : Int32) - (1 : Int32) ∧ True) ∨ (True ∧ dkN [(0, 7)] p0 ∧ dkN [(0, 40)] p1 ∧ dkN [(0, 7)] p2 ∧ dkN [(0, 40)] p3 ∧ dkN [(0, 40)] p4 ∧ dkN [(0, 0)] (I1 340 4) ∧ (0 : Int) + 0 ≤ p0.toInt ∧ p0.toInt + 0 ≤ (7 : Int) ∧ (0 : Int) + 0 ≤ p2.toInt ∧ p2.toInt + 0 ≤ (7 : Int) ∧ (I0 341 (Int32.toNatClampNeg p0)).toInt ≠ (-1000000 : Int) ∧ (I0 341 (Int32.toNatClampNeg p2)).toInt ≠ (-1000000 : Int) ∧ (I0 341 (Int32.toNatClampNeg p0)).toInt = (I0 341 (Int32.toNatClampNeg p2)).toInt ∧ (0 : Int) + 0 ≤ p1.toInt ∧ (0 : Int) + 0 ≤ p4.toInt ∧ p1.toInt + 0 ≤ (I0 342 (Int32.toNatClampNeg p0)).toInt ∧ ((I0 342 (Int32.toNatClampNeg p0)) - p1).toInt = (I0 342 (Int32.toNatClampNeg p0)).toInt - p1.toInt ∧ p4.toInt + 0 ≤ ((I0 342 (Int32.toNatClampNeg p0)) - p1).toInt ∧ (0 : Int) + 0 ≤ p3.toInt ∧ p3.toInt + 0 ≤ (I0 342 (Int32.toNatClampNeg p2)).toInt ∧ ((I0 342 (Int32.toNatClampNeg p2)) - p3).toInt = (I0 342 (Int32.toNatClampNeg p2)).toInt - p3.toInt ∧ p4.toInt + 0 ≤ ((I0 342 (Int32.toNatClampNeg p2)) - p3).toInt ∧ r = p4 ∧ True)))) args s 0 0 (dkA z)) (F0 m 92 ls []) := by
    intro n
    induction n with
    | zero => intro I H locs ls x92_6 hn; exact absurd hn (Nat.not_lt_zero _)
    | succ n ih92 =>
      intro I92_ H locs ls x92_6 hn92 hW hS hF_92 hO k92_0 r92_0 r92_1 r92_2 r92_3 r92_4 q92_0 q92_1 y92_0 y92_1 y92_2 y92_3 y92_4 y92_5 y92_6 y92_7 y92_8 y92_9 y92_10 y92_11 y92_12 y92_13 y92_14 y92_15 hl
      have hF := hF_92
      refine lv_iload hx hb dX6_copy_92 (lv_at hl 6 rfl) ?_
      refine lv_iload hx hb dX6_copy_94 (lv_at hl 5 rfl) ?_
      refine lv_icmp_ge (tgt := 126) hx hb dX6_copy_96 (by decide) (fun c12 => ?_) (fun c12 => ?_)
      ·
        refine lv_iconst (v := 0) hx hb dX6_copy_126 (by decide) ?_
        refine lv_istore (lv' := [(6, .int 0), (0, .ref (z + 340)), (1, .int p0), (2, .int p1), (3, .int p2), (4, .int p3), (5, .int p4)]) hx hb dX6_copy_127 hl (by decide) rfl (fun ls hl => ?_)
        exact C129 _ I92_ _ _ ls 0 (Nat.lt_succ_self _) hW hS hF hO (dkN_sub (dkN_lit (x := 0) (0) rfl) rfl) (dkN_sub r92_0 rfl) (dkN_sub r92_1 rfl) (dkN_sub r92_2 rfl) (dkN_sub r92_3 rfl) (dkN_sub r92_4 rfl) q92_0 q92_1 y92_0 y92_1 y92_2 y92_3 y92_4 y92_5 y92_6 y92_7 y92_8 y92_9 y92_10 y92_11 y92_12 y92_13 y92_14 y92_15 (lv_sub hl [1, 2, 3, 4, 5, 6, 0] rfl)
      ·
        have d13 : dkN [(1, 40)] p4 := dkN_le2 1 k92_0 r92_4 (dkc_nle c12) rfl
        have d14 : dkN [(0, 39)] x92_6 := dkN_le1 1 k92_0 r92_4 (dkc_nle c12) rfl
        refine lv_aload_n hx hb dX6_copy_99 rfl (lv_at hl 0 rfl) ?_
        refine dk_get (k := 340) hx hb hts iX6_copy_6 hown hK (dk_at340 hW) rfl 3 (by decide) (hts (.fieldLink RX6 19 "DogKingsModel" "spare" "[I") (List.mem_of_getElem? (i := 3) rfl)) rfl dX6_copy_100 ?_
        refine lv_iload hx hb dX6_copy_103 (lv_at hl 6 rfl) ?_
        refine lv_aload_n hx hb dX6_copy_105 rfl (lv_at hl 0 rfl) ?_
        refine dk_get (k := 340) hx hb hts iX6_copy_6 hown hK (dk_at340 hW) rfl 2 (by decide) (hts (.fieldLink RX6 16 "DogKingsModel" "items" "[I") (List.mem_of_getElem? (i := 4) rfl)) rfl dX6_copy_106 ?_
        refine lv_bipush (v := 40) hx hb dX6_copy_109 (by decide) ?_
        refine lv_iload_n hx hb dX6_copy_111 rfl (lv_at hl 1 rfl) ?_
        refine lv_imul hx hb dX6_copy_112 ?_
        refine lv_topi (fun v15 ev15 => ?_)
        have dv15 : dkN [(0, 280)] v15 := by rw [ev15]; exact dkN_mulL 40 (by decide) (dkN_lit (x := 40) (40) rfl) r92_0 rfl
        have xv15 : v15 = (40 : Int32) * p0 := by rw [ev15]
        refine lv_iload_n hx hb dX6_copy_113 rfl (lv_at hl 2 rfl) ?_
        refine lv_iadd hx hb dX6_copy_114 ?_
        refine lv_topi (fun v16 ev16 => ?_)
        have dv16 : dkN [(0, 320)] v16 := by rw [ev16]; exact dkN_add dv15 r92_1 rfl
        have xv16 : v16 = ((40 : Int32) * p0) + p1 := by rw [ev16, xv15]
        have q17 : (((40 : Int32) * p0) + p1).toInt = ((40 : Int32) * p0).toInt + p1.toInt := by rw [← xv16, ← xv15]; exact (by rw [ev16]; exact dk_addE dv15 r92_1 rfl)
        refine lv_iload hx hb dX6_copy_115 (lv_at hl 6 rfl) ?_
        refine lv_iadd hx hb dX6_copy_117 ?_
        refine lv_topi (fun v18 ev18 => ?_)
        have dv18 : dkN [(0, 359)] v18 := by rw [ev18]; exact dkN_add dv16 d14 rfl
        refine dk_ild (k := 343) hx hb hK (dk_at343 hW) (dk_in320 ev15 ev16 ev18 r92_0 r92_1 d14 (dkc_nle c12) q92_0 rfl) dX6_copy_118 ?_
        refine lv_topi (fun v19 ev19 => ?_)
        refine dk_ist (k := 344) hx hb hK hW (fun _ => rfl) (by decide) hS (dkN_in (n := 40) d14 rfl) dX6_copy_119 (fun I20 H20 L20 eI20 hW hS => ?_)
        have hO := dkO_set hO eI20 (dkN_sub (dkN_top v19) rfl)
        have hF := dkF_set hF eI20 (dkIn_v d14 rfl)
        obtain ⟨v21, ev21⟩ : ∃ y : Int32, y = x92_6 + 1 := ⟨_, rfl⟩
        have dv21 : dkN [(1, 40)] v21 := by rw [ev21]; exact dkN_add d14 (dkN_lit (x := 1) (1) rfl) rfl
        refine lv_iinc (v := v21) (lv' := [(6, .int v21), (0, .ref (z + 340)), (1, .int p0), (2, .int p1), (3, .int p2), (4, .int p3), (5, .int p4)]) hx hb dX6_copy_120 hl (k := 6) rfl (by rw [ev21]; rfl) (by decide) rfl (fun ls hl => ?_)
        refine lv_goto (tgt := 92) hx hb dX6_copy_123 (by decide) ?_
        exact ih92 I20 _ _ ls v21 (dk_near hn92 (by rw [ev21]; exact dk_inc d14 rfl) (dkN_lt d14 rfl)) hW hS hF hO (dkN_sub dv21 rfl) (dkN_sub r92_0 rfl) (dkN_sub r92_1 rfl) (dkN_sub r92_2 rfl) (dkN_sub r92_3 rfl) (dkN_sub d13 rfl) q92_0 q92_1 y92_0 y92_1 y92_2 y92_3 y92_4 y92_5 y92_6 y92_7 y92_8 y92_9 y92_10 y92_11 y92_12 y92_13 y92_14 y92_15 (lv_sub hl [1, 2, 3, 4, 5, 6, 0] rfl)
  refine lv_iload_n hx hb dX6_copy_0 rfl (lv_at hl 1 rfl) ?_
  refine dk_Si (As := [.int p0]) (rest := []) ⟨hx, hb, hml, hown, hts⟩ (f_X6_isRow_1 l g z I0 p0 hO) (va_cwS 1 hts gX6_copy_X6_isRow rfl rfl rfl (by decide +kernel) ⟨Nat.le_of_ble_eq_true rfl, Nat.le_of_ble_eq_true rfl⟩) hK hT hW hS rfl hl.1 rfl (Nat.le_of_ble_eq_true rfl) dX6_copy_1 ⟨Nat.zero_le _, Nat.zero_le _⟩ (fun v22 I22 H22 L22 hp22 hW hS => ?_)
  obtain ⟨hF22, hO, hc22⟩ := hp22
  have hF := dkF_call hF hF22 rfl
  have eI22 : I0 = I22 := (dkF_nil hF22).symm
  subst eI22
  rcases hc22 with ⟨dv22, a22_0, x22_0, xr22, -⟩ | hc22
  ·
    have q23 : p0.toInt + 1 ≤ (0 : Int) := x22_0
    have xv22 : v22 = 0 := by rw [xr22]
    have d24 : dkN [(-2147483648, -1)] p0 := dkN_eq1 (dkN_top p0) a22_0 rfl rfl
    refine lv_if_eq (tgt := 14) hx hb dX6_copy_4 (by decide) (fun c25 => ?_) (fun c25 => ?_)
    ·
      refine lv_ldc (v := (-1000001)) hx hb hown (hts (.constant RX6 64 (-1000001)) (List.mem_of_getElem? (i := 1) rfl)) dX6_copy_14 ?_
      exact W.iret (v := (-1000001)) hx hb hr (fun t ht hW9 => ⟨⟨(-1000001), I0, rfl, ⟨hF, hO, Or.inl ⟨dkN_sub (dkN_lit (x := (-1000001)) (-1000001) rfl) rfl, dkN_sub d24 rfl, q23, rfl, trivial⟩⟩, dkW_eq ht hW⟩, hS.F ht⟩) hS.2.2 dX6_copy_16
    ·
      exact (dkN_nil (show dkN [] v22 from dkN_ne1 (0) dv22 (dkN_lit (x := 0) (0) rfl) (dk_ne c25) rfl)).elim
  rcases hc22 with ⟨dv22, a22_0, x22_0, x22_1, xr22, -⟩ | hc22
  ·
    have q26 : (0 : Int) + 0 ≤ p0.toInt := x22_0
    have q27 : (7 : Int) + 1 ≤ p0.toInt := x22_1
    have xv22 : v22 = 0 := by rw [xr22]
    have d28 : dkN [(8, 2147483647)] p0 := dkN_eq1 (dkN_top p0) a22_0 rfl rfl
    refine lv_if_eq (tgt := 14) hx hb dX6_copy_4 (by decide) (fun c29 => ?_) (fun c29 => ?_)
    ·
      refine lv_ldc (v := (-1000001)) hx hb hown (hts (.constant RX6 64 (-1000001)) (List.mem_of_getElem? (i := 1) rfl)) dX6_copy_14 ?_
      exact W.iret (v := (-1000001)) hx hb hr (fun t ht hW9 => ⟨⟨(-1000001), I0, rfl, ⟨hF, hO, Or.inr (Or.inl ⟨dkN_sub (dkN_lit (x := (-1000001)) (-1000001) rfl) rfl, dkN_sub d28 rfl, q26, q27, rfl, trivial⟩)⟩, dkW_eq ht hW⟩, hS.F ht⟩) hS.2.2 dX6_copy_16
    ·
      exact (dkN_nil (show dkN [] v22 from dkN_ne1 (0) dv22 (dkN_lit (x := 0) (0) rfl) (dk_ne c29) rfl)).elim
  ·
    obtain ⟨dv22, a22_0, x22_0, x22_1, xr22, -⟩ := hc22
    have q30 : (0 : Int) + 0 ≤ p0.toInt := x22_0
    have q31 : p0.toInt + 0 ≤ (7 : Int) := x22_1
    have xv22 : v22 = 1 := by rw [xr22]
    have d32 : dkN [(0, 7)] p0 := dkN_eq1 (dkN_top p0) a22_0 rfl rfl
    refine lv_if_eq (tgt := 14) hx hb dX6_copy_4 (by decide) (fun c33 => ?_) (fun c33 => ?_)
    ·
      exact (dkN_nil (show dkN [] v22 from dkN_eq1 dv22 (dkN_lit (x := 0) (0) rfl) (congrArg Int32.toInt c33) rfl)).elim
    ·
      refine lv_iload_n hx hb dX6_copy_7 rfl (lv_at hl 3 rfl) ?_
      refine dk_Si (As := [.int p2]) (rest := []) ⟨hx, hb, hml, hown, hts⟩ (f_X6_isRow_1 l g z I0 p2 hO) (va_cwS 1 hts gX6_copy_X6_isRow rfl rfl rfl (by decide +kernel) ⟨Nat.le_of_ble_eq_true rfl, Nat.le_of_ble_eq_true rfl⟩) hK hT hW hS rfl hl.1 rfl (Nat.le_of_ble_eq_true rfl) dX6_copy_8 ⟨Nat.zero_le _, Nat.zero_le _⟩ (fun v34 I34 H34 L34 hp34 hW hS => ?_)
      obtain ⟨hF34, hO, hc34⟩ := hp34
      have hF := dkF_call hF hF34 rfl
      have eI34 : I0 = I34 := (dkF_nil hF34).symm
      subst eI34
      rcases hc34 with ⟨dv34, a34_0, x34_0, xr34, -⟩ | hc34
      ·
        have q35 : p2.toInt + 1 ≤ (0 : Int) := x34_0
        have xv34 : v34 = 0 := by rw [xr34]
        have d36 : dkN [(-2147483648, -1)] p2 := dkN_eq1 (dkN_top p2) a34_0 rfl rfl
        refine lv_if_ne (tgt := 17) hx hb dX6_copy_11 (by decide) (fun c37 => ?_) (fun c37 => ?_)
        ·
          exact (dkN_nil (show dkN [] v34 from dkN_ne1 (0) dv34 (dkN_lit (x := 0) (0) rfl) (dk_ne c37) rfl)).elim
        ·
          refine lv_ldc (v := (-1000001)) hx hb hown (hts (.constant RX6 64 (-1000001)) (List.mem_of_getElem? (i := 1) rfl)) dX6_copy_14 ?_
          exact W.iret (v := (-1000001)) hx hb hr (fun t ht hW9 => ⟨⟨(-1000001), I0, rfl, ⟨hF, hO, Or.inr (Or.inr (Or.inl ⟨dkN_sub (dkN_lit (x := (-1000001)) (-1000001) rfl) rfl, dkN_sub d32 rfl, dkN_sub d36 rfl, q30, q31, q35, rfl, trivial⟩))⟩, dkW_eq ht hW⟩, hS.F ht⟩) hS.2.2 dX6_copy_16
      rcases hc34 with ⟨dv34, a34_0, x34_0, x34_1, xr34, -⟩ | hc34
      ·
        have q38 : (0 : Int) + 0 ≤ p2.toInt := x34_0
        have q39 : (7 : Int) + 1 ≤ p2.toInt := x34_1
        have xv34 : v34 = 0 := by rw [xr34]
        have d40 : dkN [(8, 2147483647)] p2 := dkN_eq1 (dkN_top p2) a34_0 rfl rfl
        refine lv_if_ne (tgt := 17) hx hb dX6_copy_11 (by decide) (fun c41 => ?_) (fun c41 => ?_)
        ·
          exact (dkN_nil (show dkN [] v34 from dkN_ne1 (0) dv34 (dkN_lit (x := 0) (0) rfl) (dk_ne c41) rfl)).elim
        ·
          refine lv_ldc (v := (-1000001)) hx hb hown (hts (.constant RX6 64 (-1000001)) (List.mem_of_getElem? (i := 1) rfl)) dX6_copy_14 ?_
          exact W.iret (v := (-1000001)) hx hb hr (fun t ht hW9 => ⟨⟨(-1000001), I0, rfl, ⟨hF, hO, Or.inr (Or.inr (Or.inr (Or.inl ⟨dkN_sub (dkN_lit (x := (-1000001)) (-1000001) rfl) rfl, dkN_sub d32 rfl, dkN_sub d40 rfl, q30, q31, q38, q39, rfl, trivial⟩)))⟩, dkW_eq ht hW⟩, hS.F ht⟩) hS.2.2 dX6_copy_16
      ·
        obtain ⟨dv34, a34_0, x34_0, x34_1, xr34, -⟩ := hc34
        have q42 : (0 : Int) + 0 ≤ p2.toInt := x34_0
        have q43 : p2.toInt + 0 ≤ (7 : Int) := x34_1
        have xv34 : v34 = 1 := by rw [xr34]
        have d44 : dkN [(0, 7)] p2 := dkN_eq1 (dkN_top p2) a34_0 rfl rfl
        refine lv_if_ne (tgt := 17) hx hb dX6_copy_11 (by decide) (fun c45 => ?_) (fun c45 => ?_)
        ·
          refine lv_aload_n hx hb dX6_copy_17 rfl (lv_at hl 0 rfl) ?_
          refine lv_iload_n hx hb dX6_copy_18 rfl (lv_at hl 1 rfl) ?_
          refine dk_Vi (As := [.int p0]) (rest := []) ⟨hx, hb, hml, hown, hts⟩ (f_X6_isMissing_1 l g z I0 p0 d32 hO) (cwV 1 hts gX6_copy_X6_isMissing rfl rfl rfl (by decide +kernel) ⟨Nat.le_of_ble_eq_true rfl, Nat.le_of_ble_eq_true rfl⟩) (dk_at340 hW) rfl hK hT hW hS rfl hl.1 rfl (Nat.le_of_ble_eq_true rfl) dX6_copy_19 ⟨Nat.zero_le _, Nat.zero_le _⟩ (fun v46 I46 H46 L46 hp46 hW hS => ?_)
          obtain ⟨hF46, hO, hc46⟩ := hp46
          have hF := dkF_call hF hF46 rfl
          have eI46 : I0 = I46 := (dkF_nil hF46).symm
          subst eI46
          rcases hc46 with ⟨dv46, x46_0, xr46, -⟩ | hc46
          ·
            have q47 : (I0 341 (Int32.toNatClampNeg p0)).toInt ≠ (-1000000 : Int) := x46_0
            have xv46 : v46 = 0 := by rw [xr46]
            refine lv_if_ne (tgt := 33) hx hb dX6_copy_22 (by decide) (fun c48 => ?_) (fun c48 => ?_)
            ·
              exact (dkN_nil (show dkN [] v46 from dkN_ne1 (0) dv46 (dkN_lit (x := 0) (0) rfl) (dk_ne c48) rfl)).elim
            ·
              refine lv_aload_n hx hb dX6_copy_25 rfl (lv_at hl 0 rfl) ?_
              refine lv_iload_n hx hb dX6_copy_26 rfl (lv_at hl 3 rfl) ?_
              refine dk_Vi (As := [.int p2]) (rest := []) ⟨hx, hb, hml, hown, hts⟩ (f_X6_isMissing_1 l g z I0 p2 d44 hO) (cwV 1 hts gX6_copy_X6_isMissing rfl rfl rfl (by decide +kernel) ⟨Nat.le_of_ble_eq_true rfl, Nat.le_of_ble_eq_true rfl⟩) (dk_at340 hW) rfl hK hT hW hS rfl hl.1 rfl (Nat.le_of_ble_eq_true rfl) dX6_copy_27 ⟨Nat.zero_le _, Nat.zero_le _⟩ (fun v49 I49 H49 L49 hp49 hW hS => ?_)
              obtain ⟨hF49, hO, hc49⟩ := hp49
              have hF := dkF_call hF hF49 rfl
              have eI49 : I0 = I49 := (dkF_nil hF49).symm
              subst eI49
              rcases hc49 with ⟨dv49, x49_0, xr49, -⟩ | hc49
              ·
                have q50 : (I0 341 (Int32.toNatClampNeg p2)).toInt ≠ (-1000000 : Int) := x49_0
                have xv49 : v49 = 0 := by rw [xr49]
                refine lv_if_eq (tgt := 39) hx hb dX6_copy_30 (by decide) (fun c51 => ?_) (fun c51 => ?_)
                ·
                  refine lv_aload_n hx hb dX6_copy_39 rfl (lv_at hl 0 rfl) ?_
                  refine dk_get (k := 340) hx hb hts iX6_copy_6 hown hK (dk_at340 hW) rfl 0 (by decide) (hts (.fieldLink RX6 7 "DogKingsModel" "lane" "[I") (List.mem_of_getElem? (i := 2) rfl)) rfl dX6_copy_40 ?_
                  refine lv_iload_n hx hb dX6_copy_43 rfl (lv_at hl 1 rfl) ?_
                  refine dk_ild (k := 341) hx hb hK (dk_at341 hW) (dkN_in (n := 8) d32 rfl) dX6_copy_44 ?_
                  refine lv_topi (fun v52 ev52 => ?_)
                  have dv52 : dkN [(-1000000, -1000000), (0, 2)] v52 := by rw [ev52]; exact (hO 341 _)
                  have xv52 : v52 = I0 341 (Int32.toNatClampNeg p0) := ev52.trans rfl
                  refine lv_aload_n hx hb dX6_copy_45 rfl (lv_at hl 0 rfl) ?_
                  refine dk_get (k := 340) hx hb hts iX6_copy_6 hown hK (dk_at340 hW) rfl 0 (by decide) (hts (.fieldLink RX6 7 "DogKingsModel" "lane" "[I") (List.mem_of_getElem? (i := 2) rfl)) rfl dX6_copy_46 ?_
                  refine lv_iload_n hx hb dX6_copy_49 rfl (lv_at hl 3 rfl) ?_
                  refine dk_ild (k := 341) hx hb hK (dk_at341 hW) (dkN_in (n := 8) d44 rfl) dX6_copy_50 ?_
                  refine lv_topi (fun v53 ev53 => ?_)
                  have dv53 : dkN [(-1000000, -1000000), (0, 2)] v53 := by rw [ev53]; exact (hO 341 _)
                  have xv53 : v53 = I0 341 (Int32.toNatClampNeg p2) := ev53.trans rfl
                  refine lv_icmp_eq (tgt := 60) hx hb dX6_copy_51 (by decide) (fun c54 => ?_) (fun c54 => ?_)
                  ·
                    have q55 : (I0 341 (Int32.toNatClampNeg p0)).toInt = (I0 341 (Int32.toNatClampNeg p2)).toInt := by rw [← xv52, ← xv53]; exact (congrArg Int32.toInt c54)
                    refine lv_aload_n hx hb dX6_copy_60 rfl (lv_at hl 0 rfl) ?_
                    refine lv_iload_n hx hb dX6_copy_61 rfl (lv_at hl 1 rfl) ?_
                    refine lv_iload_n hx hb dX6_copy_62 rfl (lv_at hl 2 rfl) ?_
                    refine lv_iload hx hb dX6_copy_63 (lv_at hl 5 rfl) ?_
                    refine dk_Vi (As := [.int p0, .int p1, .int p4]) (rest := []) ⟨hx, hb, hml, hown, hts⟩ (f_X6_isPart_3 l g z I0 p0 p1 p4 d32 hO) (cwV 3 hts gX6_copy_X6_isPart rfl rfl rfl (by decide +kernel) ⟨Nat.le_of_ble_eq_true rfl, Nat.le_of_ble_eq_true rfl⟩) (dk_at340 hW) rfl hK hT hW hS rfl hl.1 rfl (Nat.le_of_ble_eq_true rfl) dX6_copy_65 ⟨Nat.zero_le _, Nat.zero_le _⟩ (fun v56 I56 H56 L56 hp56 hW hS => ?_)
                    obtain ⟨hF56, hO, hc56⟩ := hp56
                    have hF := dkF_call hF hF56 rfl
                    have eI56 : I0 = I56 := (dkF_nil hF56).symm
                    subst eI56
                    rcases hc56 with ⟨dv56, a56_1, x56_0, xr56, -⟩ | hc56
                    ·
                      have q57 : p1.toInt + 1 ≤ (0 : Int) := x56_0
                      have xv56 : v56 = 0 := by rw [xr56]
                      have d58 : dkN [(-2147483648, -1)] p1 := dkN_eq1 (dkN_top p1) a56_1 rfl rfl
                      refine lv_if_eq (tgt := 83) hx hb dX6_copy_68 (by decide) (fun c59 => ?_) (fun c59 => ?_)
                      ·
                        refine lv_aload_n hx hb dX6_copy_83 rfl (lv_at hl 0 rfl) ?_
                        refine lv_iconst (v := 2) hx hb dX6_copy_84 (by decide) ?_
                        refine dk_Vi (As := [.int 2]) (rest := []) ⟨hx, hb, hml, hown, hts⟩ (f_X6_found_7 l g z I0 2 (dkN_lit (x := 2) (2) rfl) hO) (cwV 1 hts gX6_copy_X6_found rfl rfl rfl (by decide +kernel) ⟨Nat.le_of_ble_eq_true rfl, Nat.le_of_ble_eq_true rfl⟩) (dk_at340 hW) rfl hK hT hW hS rfl hl.1 rfl (Nat.le_of_ble_eq_true rfl) dX6_copy_85 ⟨Nat.zero_le _, Nat.zero_le _⟩ (fun v60 I60 H60 L60 hp60 hW hS => ?_)
                        obtain ⟨hF60, hO, hc60⟩ := hp60
                        have hF := dkF_call hF hF60 rfl
                        obtain ⟨dv60, f60_340_4, x60_0, xr60, -⟩ := hc60
                        have q61 : ((-1000010 : Int32) - (2 : Int32)).toInt = (-1000010 : Int) - (2 : Int) := x60_0
                        have xv60 : v60 = (-1000010 : Int32) - (2 : Int32) := by rw [xr60]
                        exact W.iret (v := v60) hx hb hr (fun t ht hW9 => ⟨⟨v60, I60, rfl, ⟨hF, hO, Or.inr (Or.inr (Or.inr (Or.inr (Or.inl ⟨dkN_sub dv60 rfl, dkN_sub d32 rfl, dkN_sub d58 rfl, dkN_sub d44 rfl, (show dkN [(2, 2)] (I60 340 4) from dkN_sub f60_340_4 rfl), q30, q31, q42, q43, q47, q50, q55, q57, q61, xv60, trivial⟩))))⟩, dkW_eq ht hW⟩, hS.F ht⟩) hS.2.2 dX6_copy_88
                      ·
                        exact (dkN_nil (show dkN [] v56 from dkN_ne1 (0) dv56 (dkN_lit (x := 0) (0) rfl) (dk_ne c59) rfl)).elim
                    rcases hc56 with ⟨dv56, a56_1, a56_2, x56_0, x56_1, xr56, -⟩ | hc56
                    ·
                      have q62 : (0 : Int) + 0 ≤ p1.toInt := x56_0
                      have q63 : p4.toInt + 1 ≤ (0 : Int) := x56_1
                      have xv56 : v56 = 0 := by rw [xr56]
                      have d64 : dkN [(0, 2147483647)] p1 := dkN_eq1 (dkN_top p1) a56_1 rfl rfl
                      have d65 : dkN [(-2147483648, -1)] p4 := dkN_eq1 (dkN_top p4) a56_2 rfl rfl
                      refine lv_if_eq (tgt := 83) hx hb dX6_copy_68 (by decide) (fun c66 => ?_) (fun c66 => ?_)
                      ·
                        refine lv_aload_n hx hb dX6_copy_83 rfl (lv_at hl 0 rfl) ?_
                        refine lv_iconst (v := 2) hx hb dX6_copy_84 (by decide) ?_
                        refine dk_Vi (As := [.int 2]) (rest := []) ⟨hx, hb, hml, hown, hts⟩ (f_X6_found_7 l g z I0 2 (dkN_lit (x := 2) (2) rfl) hO) (cwV 1 hts gX6_copy_X6_found rfl rfl rfl (by decide +kernel) ⟨Nat.le_of_ble_eq_true rfl, Nat.le_of_ble_eq_true rfl⟩) (dk_at340 hW) rfl hK hT hW hS rfl hl.1 rfl (Nat.le_of_ble_eq_true rfl) dX6_copy_85 ⟨Nat.zero_le _, Nat.zero_le _⟩ (fun v67 I67 H67 L67 hp67 hW hS => ?_)
                        obtain ⟨hF67, hO, hc67⟩ := hp67
                        have hF := dkF_call hF hF67 rfl
                        obtain ⟨dv67, f67_340_4, x67_0, xr67, -⟩ := hc67
                        have q68 : ((-1000010 : Int32) - (2 : Int32)).toInt = (-1000010 : Int) - (2 : Int) := x67_0
                        have xv67 : v67 = (-1000010 : Int32) - (2 : Int32) := by rw [xr67]
                        exact W.iret (v := v67) hx hb hr (fun t ht hW9 => ⟨⟨v67, I67, rfl, ⟨hF, hO, Or.inr (Or.inr (Or.inr (Or.inr (Or.inr (Or.inl ⟨dkN_sub dv67 rfl, dkN_sub d32 rfl, dkN_sub d64 rfl, dkN_sub d44 rfl, dkN_sub d65 rfl, (show dkN [(2, 2)] (I67 340 4) from dkN_sub f67_340_4 rfl), q30, q31, q42, q43, q47, q50, q55, q62, q63, q68, xv67, trivial⟩)))))⟩, dkW_eq ht hW⟩, hS.F ht⟩) hS.2.2 dX6_copy_88
                      ·
                        exact (dkN_nil (show dkN [] v56 from dkN_ne1 (0) dv56 (dkN_lit (x := 0) (0) rfl) (dk_ne c66) rfl)).elim
                    rcases hc56 with ⟨dv56, a56_1, a56_2, x56_0, x56_1, x56_2, xr56, -⟩ | hc56
                    ·
                      have q69 : (0 : Int) + 0 ≤ p1.toInt := x56_0
                      have q70 : (0 : Int) + 0 ≤ p4.toInt := x56_1
                      have q71 : (I0 342 (Int32.toNatClampNeg p0)).toInt + 1 ≤ p1.toInt := x56_2
                      have xv56 : v56 = 0 := by rw [xr56]
                      have d72 : dkN [(1, 2147483647)] p1 := dkN_eq1 (dkN_top p1) a56_1 rfl rfl
                      have d73 : dkN [(0, 2147483647)] p4 := dkN_eq1 (dkN_top p4) a56_2 rfl rfl
                      refine lv_if_eq (tgt := 83) hx hb dX6_copy_68 (by decide) (fun c74 => ?_) (fun c74 => ?_)
                      ·
                        refine lv_aload_n hx hb dX6_copy_83 rfl (lv_at hl 0 rfl) ?_
                        refine lv_iconst (v := 2) hx hb dX6_copy_84 (by decide) ?_
                        refine dk_Vi (As := [.int 2]) (rest := []) ⟨hx, hb, hml, hown, hts⟩ (f_X6_found_7 l g z I0 2 (dkN_lit (x := 2) (2) rfl) hO) (cwV 1 hts gX6_copy_X6_found rfl rfl rfl (by decide +kernel) ⟨Nat.le_of_ble_eq_true rfl, Nat.le_of_ble_eq_true rfl⟩) (dk_at340 hW) rfl hK hT hW hS rfl hl.1 rfl (Nat.le_of_ble_eq_true rfl) dX6_copy_85 ⟨Nat.zero_le _, Nat.zero_le _⟩ (fun v75 I75 H75 L75 hp75 hW hS => ?_)
                        obtain ⟨hF75, hO, hc75⟩ := hp75
                        have hF := dkF_call hF hF75 rfl
                        obtain ⟨dv75, f75_340_4, x75_0, xr75, -⟩ := hc75
                        have q76 : ((-1000010 : Int32) - (2 : Int32)).toInt = (-1000010 : Int) - (2 : Int) := x75_0
                        have xv75 : v75 = (-1000010 : Int32) - (2 : Int32) := by rw [xr75]
                        exact W.iret (v := v75) hx hb hr (fun t ht hW9 => ⟨⟨v75, I75, rfl, ⟨hF, hO, Or.inr (Or.inr (Or.inr (Or.inr (Or.inr (Or.inr (Or.inl ⟨dkN_sub dv75 rfl, dkN_sub d32 rfl, dkN_sub d72 rfl, dkN_sub d44 rfl, dkN_sub d73 rfl, (show dkN [(2, 2)] (I75 340 4) from dkN_sub f75_340_4 rfl), q30, q31, q42, q43, q47, q50, q55, q69, q70, q71, q76, xv75, trivial⟩))))))⟩, dkW_eq ht hW⟩, hS.F ht⟩) hS.2.2 dX6_copy_88
                      ·
                        exact (dkN_nil (show dkN [] v56 from dkN_ne1 (0) dv56 (dkN_lit (x := 0) (0) rfl) (dk_ne c74) rfl)).elim
                    rcases hc56 with ⟨dv56, a56_1, a56_2, x56_0, x56_1, x56_2, x56_3, x56_4, xr56, -⟩ | hc56
                    ·
                      have q77 : (0 : Int) + 0 ≤ p1.toInt := x56_0
                      have q78 : (0 : Int) + 0 ≤ p4.toInt := x56_1
                      have q79 : p1.toInt + 0 ≤ (I0 342 (Int32.toNatClampNeg p0)).toInt := x56_2
                      have q80 : ((I0 342 (Int32.toNatClampNeg p0)) - p1).toInt = (I0 342 (Int32.toNatClampNeg p0)).toInt - p1.toInt := x56_3
                      have q81 : ((I0 342 (Int32.toNatClampNeg p0)) - p1).toInt + 1 ≤ p4.toInt := x56_4
                      have xv56 : v56 = 0 := by rw [xr56]
                      have d82 : dkN [(0, 40)] p1 := dkN_eq1 (dkN_top p1) a56_1 rfl rfl
                      have d83 : dkN [(0, 2147483647)] p4 := dkN_eq1 (dkN_top p4) a56_2 rfl rfl
                      refine lv_if_eq (tgt := 83) hx hb dX6_copy_68 (by decide) (fun c84 => ?_) (fun c84 => ?_)
                      ·
                        refine lv_aload_n hx hb dX6_copy_83 rfl (lv_at hl 0 rfl) ?_
                        refine lv_iconst (v := 2) hx hb dX6_copy_84 (by decide) ?_
                        refine dk_Vi (As := [.int 2]) (rest := []) ⟨hx, hb, hml, hown, hts⟩ (f_X6_found_7 l g z I0 2 (dkN_lit (x := 2) (2) rfl) hO) (cwV 1 hts gX6_copy_X6_found rfl rfl rfl (by decide +kernel) ⟨Nat.le_of_ble_eq_true rfl, Nat.le_of_ble_eq_true rfl⟩) (dk_at340 hW) rfl hK hT hW hS rfl hl.1 rfl (Nat.le_of_ble_eq_true rfl) dX6_copy_85 ⟨Nat.zero_le _, Nat.zero_le _⟩ (fun v85 I85 H85 L85 hp85 hW hS => ?_)
                        obtain ⟨hF85, hO, hc85⟩ := hp85
                        have hF := dkF_call hF hF85 rfl
                        obtain ⟨dv85, f85_340_4, x85_0, xr85, -⟩ := hc85
                        have q86 : ((-1000010 : Int32) - (2 : Int32)).toInt = (-1000010 : Int) - (2 : Int) := x85_0
                        have xv85 : v85 = (-1000010 : Int32) - (2 : Int32) := by rw [xr85]
                        exact W.iret (v := v85) hx hb hr (fun t ht hW9 => ⟨⟨v85, I85, rfl, ⟨hF, hO, Or.inr (Or.inr (Or.inr (Or.inr (Or.inr (Or.inr (Or.inr (Or.inl ⟨dkN_sub dv85 rfl, dkN_sub d32 rfl, dkN_sub d82 rfl, dkN_sub d44 rfl, dkN_sub d83 rfl, (show dkN [(2, 2)] (I85 340 4) from dkN_sub f85_340_4 rfl), q30, q31, q42, q43, q47, q50, q55, q77, q78, q79, q80, q81, q86, xv85, trivial⟩)))))))⟩, dkW_eq ht hW⟩, hS.F ht⟩) hS.2.2 dX6_copy_88
                      ·
                        exact (dkN_nil (show dkN [] v56 from dkN_ne1 (0) dv56 (dkN_lit (x := 0) (0) rfl) (dk_ne c84) rfl)).elim
                    ·
                      obtain ⟨dv56, a56_1, a56_2, q56_0, x56_0, x56_1, x56_2, x56_3, x56_4, xr56, -⟩ := hc56
                      have q87 : (0 : Int) + 0 ≤ p1.toInt := x56_0
                      have q88 : (0 : Int) + 0 ≤ p4.toInt := x56_1
                      have q89 : p1.toInt + 0 ≤ (I0 342 (Int32.toNatClampNeg p0)).toInt := x56_2
                      have q90 : ((I0 342 (Int32.toNatClampNeg p0)) - p1).toInt = (I0 342 (Int32.toNatClampNeg p0)).toInt - p1.toInt := x56_3
                      have q91 : p4.toInt + 0 ≤ ((I0 342 (Int32.toNatClampNeg p0)) - p1).toInt := x56_4
                      have xv56 : v56 = 1 := by rw [xr56]
                      have d92 : dkN [(0, 40)] p1 := dkN_eq1 (dkN_top p1) a56_1 rfl rfl
                      have d93 : dkN [(0, 40)] p4 := dkN_eq1 (dkN_top p4) a56_2 rfl rfl
                      refine lv_if_eq (tgt := 83) hx hb dX6_copy_68 (by decide) (fun c94 => ?_) (fun c94 => ?_)
                      ·
                        exact (dkN_nil (show dkN [] v56 from dkN_eq1 dv56 (dkN_lit (x := 0) (0) rfl) (congrArg Int32.toInt c94) rfl)).elim
                      ·
                        refine lv_aload_n hx hb dX6_copy_71 rfl (lv_at hl 0 rfl) ?_
                        refine lv_iload_n hx hb dX6_copy_72 rfl (lv_at hl 3 rfl) ?_
                        refine lv_iload hx hb dX6_copy_73 (lv_at hl 4 rfl) ?_
                        refine lv_iload hx hb dX6_copy_75 (lv_at hl 5 rfl) ?_
                        refine dk_Vi (As := [.int p2, .int p3, .int p4]) (rest := []) ⟨hx, hb, hml, hown, hts⟩ (f_X6_isPart_4 l g z I0 p2 p3 p4 d44 d93 hO) (cwV 3 hts gX6_copy_X6_isPart rfl rfl rfl (by decide +kernel) ⟨Nat.le_of_ble_eq_true rfl, Nat.le_of_ble_eq_true rfl⟩) (dk_at340 hW) rfl hK hT hW hS rfl hl.1 rfl (Nat.le_of_ble_eq_true rfl) dX6_copy_77 ⟨Nat.zero_le _, Nat.zero_le _⟩ (fun v95 I95 H95 L95 hp95 hW hS => ?_)
                        obtain ⟨hF95, hO, hc95⟩ := hp95
                        have hF := dkF_call hF hF95 rfl
                        have eI95 : I0 = I95 := (dkF_nil hF95).symm
                        subst eI95
                        rcases hc95 with ⟨dv95, a95_1, x95_0, xr95, -⟩ | hc95
                        ·
                          have q96 : p3.toInt + 1 ≤ (0 : Int) := x95_0
                          have xv95 : v95 = 0 := by rw [xr95]
                          have d97 : dkN [(-2147483648, -1)] p3 := dkN_eq1 (dkN_top p3) a95_1 rfl rfl
                          refine lv_if_ne (tgt := 89) hx hb dX6_copy_80 (by decide) (fun c98 => ?_) (fun c98 => ?_)
                          ·
                            exact (dkN_nil (show dkN [] v95 from dkN_ne1 (0) dv95 (dkN_lit (x := 0) (0) rfl) (dk_ne c98) rfl)).elim
                          ·
                            refine lv_aload_n hx hb dX6_copy_83 rfl (lv_at hl 0 rfl) ?_
                            refine lv_iconst (v := 2) hx hb dX6_copy_84 (by decide) ?_
                            refine dk_Vi (As := [.int 2]) (rest := []) ⟨hx, hb, hml, hown, hts⟩ (f_X6_found_7 l g z I0 2 (dkN_lit (x := 2) (2) rfl) hO) (cwV 1 hts gX6_copy_X6_found rfl rfl rfl (by decide +kernel) ⟨Nat.le_of_ble_eq_true rfl, Nat.le_of_ble_eq_true rfl⟩) (dk_at340 hW) rfl hK hT hW hS rfl hl.1 rfl (Nat.le_of_ble_eq_true rfl) dX6_copy_85 ⟨Nat.zero_le _, Nat.zero_le _⟩ (fun v99 I99 H99 L99 hp99 hW hS => ?_)
                            obtain ⟨hF99, hO, hc99⟩ := hp99
                            have hF := dkF_call hF hF99 rfl
                            obtain ⟨dv99, f99_340_4, x99_0, xr99, -⟩ := hc99
                            have q100 : ((-1000010 : Int32) - (2 : Int32)).toInt = (-1000010 : Int) - (2 : Int) := x99_0
                            have xv99 : v99 = (-1000010 : Int32) - (2 : Int32) := by rw [xr99]
                            exact W.iret (v := v99) hx hb hr (fun t ht hW9 => ⟨⟨v99, I99, rfl, ⟨hF, hO, Or.inr (Or.inr (Or.inr (Or.inr (Or.inr (Or.inr (Or.inr (Or.inr (Or.inl ⟨dkN_sub dv99 rfl, dkN_sub d32 rfl, dkN_sub d92 rfl, dkN_sub d44 rfl, dkN_sub d97 rfl, dkN_sub d93 rfl, (show dkN [(2, 2)] (I99 340 4) from dkN_sub f99_340_4 rfl), q30, q31, q42, q43, q47, q50, q55, q87, q88, q89, q90, q91, q96, q100, xv99, trivial⟩))))))))⟩, dkW_eq ht hW⟩, hS.F ht⟩) hS.2.2 dX6_copy_88
                        rcases hc95 with ⟨dv95, a95_1, x95_0, x95_1, x95_2, xr95, -⟩ | hc95
                        ·
                          have q101 : (0 : Int) + 0 ≤ p3.toInt := x95_0
                          have q102 : (I0 342 (Int32.toNatClampNeg p2)).toInt + 1 ≤ p3.toInt := x95_2
                          have xv95 : v95 = 0 := by rw [xr95]
                          have d103 : dkN [(1, 2147483647)] p3 := dkN_eq1 (dkN_top p3) a95_1 rfl rfl
                          refine lv_if_ne (tgt := 89) hx hb dX6_copy_80 (by decide) (fun c104 => ?_) (fun c104 => ?_)
                          ·
                            exact (dkN_nil (show dkN [] v95 from dkN_ne1 (0) dv95 (dkN_lit (x := 0) (0) rfl) (dk_ne c104) rfl)).elim
                          ·
                            refine lv_aload_n hx hb dX6_copy_83 rfl (lv_at hl 0 rfl) ?_
                            refine lv_iconst (v := 2) hx hb dX6_copy_84 (by decide) ?_
                            refine dk_Vi (As := [.int 2]) (rest := []) ⟨hx, hb, hml, hown, hts⟩ (f_X6_found_7 l g z I0 2 (dkN_lit (x := 2) (2) rfl) hO) (cwV 1 hts gX6_copy_X6_found rfl rfl rfl (by decide +kernel) ⟨Nat.le_of_ble_eq_true rfl, Nat.le_of_ble_eq_true rfl⟩) (dk_at340 hW) rfl hK hT hW hS rfl hl.1 rfl (Nat.le_of_ble_eq_true rfl) dX6_copy_85 ⟨Nat.zero_le _, Nat.zero_le _⟩ (fun v105 I105 H105 L105 hp105 hW hS => ?_)
                            obtain ⟨hF105, hO, hc105⟩ := hp105
                            have hF := dkF_call hF hF105 rfl
                            obtain ⟨dv105, f105_340_4, x105_0, xr105, -⟩ := hc105
                            have q106 : ((-1000010 : Int32) - (2 : Int32)).toInt = (-1000010 : Int) - (2 : Int) := x105_0
                            have xv105 : v105 = (-1000010 : Int32) - (2 : Int32) := by rw [xr105]
                            exact W.iret (v := v105) hx hb hr (fun t ht hW9 => ⟨⟨v105, I105, rfl, ⟨hF, hO, Or.inr (Or.inr (Or.inr (Or.inr (Or.inr (Or.inr (Or.inr (Or.inr (Or.inr (Or.inl ⟨dkN_sub dv105 rfl, dkN_sub d32 rfl, dkN_sub d92 rfl, dkN_sub d44 rfl, dkN_sub d103 rfl, dkN_sub d93 rfl, (show dkN [(2, 2)] (I105 340 4) from dkN_sub f105_340_4 rfl), q30, q31, q42, q43, q47, q50, q55, q87, q88, q89, q90, q91, q101, q102, q106, xv105, trivial⟩)))))))))⟩, dkW_eq ht hW⟩, hS.F ht⟩) hS.2.2 dX6_copy_88
                        rcases hc95 with ⟨dv95, a95_1, x95_0, x95_1, x95_2, x95_3, x95_4, xr95, -⟩ | hc95
                        ·
                          have q107 : (0 : Int) + 0 ≤ p3.toInt := x95_0
                          have q108 : p3.toInt + 0 ≤ (I0 342 (Int32.toNatClampNeg p2)).toInt := x95_2
                          have q109 : ((I0 342 (Int32.toNatClampNeg p2)) - p3).toInt = (I0 342 (Int32.toNatClampNeg p2)).toInt - p3.toInt := x95_3
                          have q110 : ((I0 342 (Int32.toNatClampNeg p2)) - p3).toInt + 1 ≤ p4.toInt := x95_4
                          have xv95 : v95 = 0 := by rw [xr95]
                          have d111 : dkN [(0, 40)] p3 := dkN_eq1 (dkN_top p3) a95_1 rfl rfl
                          refine lv_if_ne (tgt := 89) hx hb dX6_copy_80 (by decide) (fun c112 => ?_) (fun c112 => ?_)
                          ·
                            exact (dkN_nil (show dkN [] v95 from dkN_ne1 (0) dv95 (dkN_lit (x := 0) (0) rfl) (dk_ne c112) rfl)).elim
                          ·
                            refine lv_aload_n hx hb dX6_copy_83 rfl (lv_at hl 0 rfl) ?_
                            refine lv_iconst (v := 2) hx hb dX6_copy_84 (by decide) ?_
                            refine dk_Vi (As := [.int 2]) (rest := []) ⟨hx, hb, hml, hown, hts⟩ (f_X6_found_7 l g z I0 2 (dkN_lit (x := 2) (2) rfl) hO) (cwV 1 hts gX6_copy_X6_found rfl rfl rfl (by decide +kernel) ⟨Nat.le_of_ble_eq_true rfl, Nat.le_of_ble_eq_true rfl⟩) (dk_at340 hW) rfl hK hT hW hS rfl hl.1 rfl (Nat.le_of_ble_eq_true rfl) dX6_copy_85 ⟨Nat.zero_le _, Nat.zero_le _⟩ (fun v113 I113 H113 L113 hp113 hW hS => ?_)
                            obtain ⟨hF113, hO, hc113⟩ := hp113
                            have hF := dkF_call hF hF113 rfl
                            obtain ⟨dv113, f113_340_4, x113_0, xr113, -⟩ := hc113
                            have q114 : ((-1000010 : Int32) - (2 : Int32)).toInt = (-1000010 : Int) - (2 : Int) := x113_0
                            have xv113 : v113 = (-1000010 : Int32) - (2 : Int32) := by rw [xr113]
                            exact W.iret (v := v113) hx hb hr (fun t ht hW9 => ⟨⟨v113, I113, rfl, ⟨hF, hO, Or.inr (Or.inr (Or.inr (Or.inr (Or.inr (Or.inr (Or.inr (Or.inr (Or.inr (Or.inr (Or.inl ⟨dkN_sub dv113 rfl, dkN_sub d32 rfl, dkN_sub d92 rfl, dkN_sub d44 rfl, dkN_sub d111 rfl, dkN_sub d93 rfl, (show dkN [(2, 2)] (I113 340 4) from dkN_sub f113_340_4 rfl), q30, q31, q42, q43, q47, q50, q55, q87, q88, q89, q90, q91, q107, q108, q109, q110, q114, xv113, trivial⟩))))))))))⟩, dkW_eq ht hW⟩, hS.F ht⟩) hS.2.2 dX6_copy_88
                        ·
                          obtain ⟨dv95, a95_1, q95_0, x95_0, x95_1, x95_2, x95_3, x95_4, xr95, -⟩ := hc95
                          have q115 : (0 : Int) + 0 ≤ p3.toInt := x95_0
                          have q116 : p3.toInt + 0 ≤ (I0 342 (Int32.toNatClampNeg p2)).toInt := x95_2
                          have q117 : ((I0 342 (Int32.toNatClampNeg p2)) - p3).toInt = (I0 342 (Int32.toNatClampNeg p2)).toInt - p3.toInt := x95_3
                          have q118 : p4.toInt + 0 ≤ ((I0 342 (Int32.toNatClampNeg p2)) - p3).toInt := x95_4
                          have xv95 : v95 = 1 := by rw [xr95]
                          have d119 : dkN [(0, 40)] p3 := dkN_eq1 (dkN_top p3) a95_1 rfl rfl
                          refine lv_if_ne (tgt := 89) hx hb dX6_copy_80 (by decide) (fun c120 => ?_) (fun c120 => ?_)
                          ·
                            refine lv_iconst (v := 0) hx hb dX6_copy_89 (by decide) ?_
                            refine lv_istore (lv' := [(6, .int 0), (0, .ref (z + 340)), (1, .int p0), (2, .int p1), (3, .int p2), (4, .int p3), (5, .int p4)]) hx hb dX6_copy_90 hl (by decide) rfl (fun ls hl => ?_)
                            exact C92 _ I0 _ _ ls 0 (Nat.lt_succ_self _) hW hS hF hO (dkN_sub (dkN_lit (x := 0) (0) rfl) rfl) (dkN_sub d32 rfl) (dkN_sub d92 rfl) (dkN_sub d44 rfl) (dkN_sub d119 rfl) (dkN_sub d93 rfl) q56_0 q95_0 q30 q31 q42 q43 q47 q50 q55 q87 q88 q89 q90 q91 q115 q116 q117 q118 (lv_sub hl [1, 2, 3, 4, 5, 6, 0] rfl)
                          ·
                            exact (dkN_nil (show dkN [] v95 from dkN_eq1 dv95 (dkN_lit (x := 0) (0) rfl) (congrArg Int32.toInt c120) rfl)).elim
                  ·
                    have q121 : (I0 341 (Int32.toNatClampNeg p0)).toInt ≠ (I0 341 (Int32.toNatClampNeg p2)).toInt := by rw [← xv52, ← xv53]; exact (dk_ne c54)
                    refine lv_aload_n hx hb dX6_copy_54 rfl (lv_at hl 0 rfl) ?_
                    refine lv_iconst (v := 5) hx hb dX6_copy_55 (by decide) ?_
                    refine dk_Vi (As := [.int 5]) (rest := []) ⟨hx, hb, hml, hown, hts⟩ (f_X6_found_8 l g z I0 5 (dkN_lit (x := 5) (5) rfl) hO) (cwV 1 hts gX6_copy_X6_found rfl rfl rfl (by decide +kernel) ⟨Nat.le_of_ble_eq_true rfl, Nat.le_of_ble_eq_true rfl⟩) (dk_at340 hW) rfl hK hT hW hS rfl hl.1 rfl (Nat.le_of_ble_eq_true rfl) dX6_copy_56 ⟨Nat.zero_le _, Nat.zero_le _⟩ (fun v122 I122 H122 L122 hp122 hW hS => ?_)
                    obtain ⟨hF122, hO, hc122⟩ := hp122
                    have hF := dkF_call hF hF122 rfl
                    obtain ⟨dv122, f122_340_4, x122_0, xr122, -⟩ := hc122
                    have q123 : ((-1000010 : Int32) - (5 : Int32)).toInt = (-1000010 : Int) - (5 : Int) := x122_0
                    have xv122 : v122 = (-1000010 : Int32) - (5 : Int32) := by rw [xr122]
                    exact W.iret (v := v122) hx hb hr (fun t ht hW9 => ⟨⟨v122, I122, rfl, ⟨hF, hO, Or.inr (Or.inr (Or.inr (Or.inr (Or.inr (Or.inr (Or.inr (Or.inr (Or.inr (Or.inr (Or.inr (Or.inl ⟨dkN_sub dv122 rfl, dkN_sub d32 rfl, dkN_sub d44 rfl, (show dkN [(5, 5)] (I122 340 4) from dkN_sub f122_340_4 rfl), q30, q31, q42, q43, q47, q50, q121, q123, xv122, trivial⟩)))))))))))⟩, dkW_eq ht hW⟩, hS.F ht⟩) hS.2.2 dX6_copy_59
                ·
                  exact (dkN_nil (show dkN [] v49 from dkN_ne1 (0) dv49 (dkN_lit (x := 0) (0) rfl) (dk_ne c51) rfl)).elim
              ·
                obtain ⟨dv49, x49_0, xr49, -⟩ := hc49
                have q124 : (I0 341 (Int32.toNatClampNeg p2)).toInt = (-1000000 : Int) := x49_0
                have xv49 : v49 = 1 := by rw [xr49]
                refine lv_if_eq (tgt := 39) hx hb dX6_copy_30 (by decide) (fun c125 => ?_) (fun c125 => ?_)
                ·
                  exact (dkN_nil (show dkN [] v49 from dkN_eq1 dv49 (dkN_lit (x := 0) (0) rfl) (congrArg Int32.toInt c125) rfl)).elim
                ·
                  refine lv_aload_n hx hb dX6_copy_33 rfl (lv_at hl 0 rfl) ?_
                  refine lv_iconst (v := 1) hx hb dX6_copy_34 (by decide) ?_
                  refine dk_Vi (As := [.int 1]) (rest := []) ⟨hx, hb, hml, hown, hts⟩ (f_X6_found_6 l g z I0 1 (dkN_lit (x := 1) (1) rfl) hO) (cwV 1 hts gX6_copy_X6_found rfl rfl rfl (by decide +kernel) ⟨Nat.le_of_ble_eq_true rfl, Nat.le_of_ble_eq_true rfl⟩) (dk_at340 hW) rfl hK hT hW hS rfl hl.1 rfl (Nat.le_of_ble_eq_true rfl) dX6_copy_35 ⟨Nat.zero_le _, Nat.zero_le _⟩ (fun v126 I126 H126 L126 hp126 hW hS => ?_)
                  obtain ⟨hF126, hO, hc126⟩ := hp126
                  have hF := dkF_call hF hF126 rfl
                  obtain ⟨dv126, f126_340_4, x126_0, xr126, -⟩ := hc126
                  have q127 : ((-1000010 : Int32) - (1 : Int32)).toInt = (-1000010 : Int) - (1 : Int) := x126_0
                  have xv126 : v126 = (-1000010 : Int32) - (1 : Int32) := by rw [xr126]
                  exact W.iret (v := v126) hx hb hr (fun t ht hW9 => ⟨⟨v126, I126, rfl, ⟨hF, hO, Or.inr (Or.inr (Or.inr (Or.inr (Or.inr (Or.inr (Or.inr (Or.inr (Or.inr (Or.inr (Or.inr (Or.inr (Or.inl ⟨dkN_sub dv126 rfl, dkN_sub d32 rfl, dkN_sub d44 rfl, (show dkN [(1, 1)] (I126 340 4) from dkN_sub f126_340_4 rfl), q30, q31, q42, q43, q47, q124, q127, xv126, trivial⟩))))))))))))⟩, dkW_eq ht hW⟩, hS.F ht⟩) hS.2.2 dX6_copy_38
          ·
            obtain ⟨dv46, x46_0, xr46, -⟩ := hc46
            have q128 : (I0 341 (Int32.toNatClampNeg p0)).toInt = (-1000000 : Int) := x46_0
            have xv46 : v46 = 1 := by rw [xr46]
            refine lv_if_ne (tgt := 33) hx hb dX6_copy_22 (by decide) (fun c129 => ?_) (fun c129 => ?_)
            ·
              refine lv_aload_n hx hb dX6_copy_33 rfl (lv_at hl 0 rfl) ?_
              refine lv_iconst (v := 1) hx hb dX6_copy_34 (by decide) ?_
              refine dk_Vi (As := [.int 1]) (rest := []) ⟨hx, hb, hml, hown, hts⟩ (f_X6_found_6 l g z I0 1 (dkN_lit (x := 1) (1) rfl) hO) (cwV 1 hts gX6_copy_X6_found rfl rfl rfl (by decide +kernel) ⟨Nat.le_of_ble_eq_true rfl, Nat.le_of_ble_eq_true rfl⟩) (dk_at340 hW) rfl hK hT hW hS rfl hl.1 rfl (Nat.le_of_ble_eq_true rfl) dX6_copy_35 ⟨Nat.zero_le _, Nat.zero_le _⟩ (fun v130 I130 H130 L130 hp130 hW hS => ?_)
              obtain ⟨hF130, hO, hc130⟩ := hp130
              have hF := dkF_call hF hF130 rfl
              obtain ⟨dv130, f130_340_4, x130_0, xr130, -⟩ := hc130
              have q131 : ((-1000010 : Int32) - (1 : Int32)).toInt = (-1000010 : Int) - (1 : Int) := x130_0
              have xv130 : v130 = (-1000010 : Int32) - (1 : Int32) := by rw [xr130]
              exact W.iret (v := v130) hx hb hr (fun t ht hW9 => ⟨⟨v130, I130, rfl, ⟨hF, hO, Or.inr (Or.inr (Or.inr (Or.inr (Or.inr (Or.inr (Or.inr (Or.inr (Or.inr (Or.inr (Or.inr (Or.inr (Or.inr (Or.inl ⟨dkN_sub dv130 rfl, dkN_sub d32 rfl, dkN_sub d44 rfl, (show dkN [(1, 1)] (I130 340 4) from dkN_sub f130_340_4 rfl), q30, q31, q42, q43, q128, q131, xv130, trivial⟩)))))))))))))⟩, dkW_eq ht hW⟩, hS.F ht⟩) hS.2.2 dX6_copy_38
            ·
              exact (dkN_nil (show dkN [] v46 from dkN_eq1 dv46 (dkN_lit (x := 0) (0) rfl) (congrArg Int32.toInt c129) rfl)).elim
        ·
          exact (dkN_nil (show dkN [] v34 from dkN_eq1 dv34 (dkN_lit (x := 0) (0) rfl) (congrArg Int32.toInt c45) rfl)).elim
