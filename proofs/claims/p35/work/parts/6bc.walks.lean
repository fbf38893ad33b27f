set_option maxHeartbeats 4000000 in
set_option maxRecDepth 100000 in
theorem fx_X6_ask_7 (l : Launch) (g : dkG) (z : Nat) (I0 : dkI) (p0 : Int32) (p1 : Int32)  (tp0 : (I0 346 (Int32.toNatClampNeg ((36 : Int32) + ((3 : Int32) * p0)))).toInt = (5 : Int)) (hO : dkOk I0) : Met l yX6_ask wsX6_ask (dkR 3) (dkPc g z [.ref (z + 340), .int p0, .int p1] I0) (dkQi g z (fun r I1 => dkF [(340, 340, 25, 25), (353, 353, 0, 4)] I0 I1 ∧ dkOk I1 ∧ ((dkN [(-1000001, -1000001)] r ∧ dkN [(-2147483648, -1)] p0 ∧ (I0 346 (Int32.toNatClampNeg ((36 : Int32) + ((3 : Int32) * p0)))).toInt = (5 : Int) ∧ ((I0 346 5) - (1 : Int32)).toInt = (I0 346 5).toInt - (1 : Int) ∧ p0.toInt + 1 ≤ (0 : Int) ∧ r = (-1000001) ∧ I1 340 25 = I0 340 25 ∧ I1 353 0 = I0 353 0 ∧ I1 353 1 = I0 353 1 ∧ I1 353 2 = I0 353 2 ∧ I1 353 3 = I0 353 3 ∧ I1 353 4 = I0 353 4 ∧ I1 353 5 = I0 353 5 ∧ I1 353 6 = I0 353 6 ∧ I1 353 7 = I0 353 7 ∧ I1 353  = I0 353 ∧ True) ∨ (dkN [(-1000001, -1000001)] r ∧ dkN [(0, 2147483647)] p0 ∧ (I0 346 (Int32.toNatClampNeg ((36 : Int32) + ((3 : Int32) * p0)))).toInt = (5 : Int) ∧ ((I0 346 5) - (1 : Int32)).toInt = (I0 346 5).toInt - (1 : Int) ∧ (0 : Int) + 0 ≤ p0.toInt ∧ ((I0 346 5) - (1 : Int32)).toInt + 1 ≤ p0.toInt ∧ r = (-1000001) ∧ I1 340 25 = I0 340 25 ∧ I1 353 0 = I0 353 0 ∧ I1 353 1 = I0 353 1 ∧ I1 353 2 = I0 353 2 ∧ I1 353 3 = I0 353 3 ∧ I1 353 4 = I0 353 4 ∧ I1 353 5 = I0 353 5 ∧ I1 353 6 = I0 353 6 ∧ I1 353 7 = I0 353 7 ∧ I1 353  = I0 353 ∧ True) ∨ (dkN [(-1000001, -1000001)] r ∧ dkN [(0, 5)] p0 ∧ dkN [(-2147483648, -1)] p1 ∧ (I0 346 (Int32.toNatClampNeg ((36 : Int32) + ((3 : Int32) * p0)))).toInt = (5 : Int) ∧ ((I0 346 5) - (1 : Int32)).toInt = (I0 346 5).toInt - (1 : Int) ∧ (0 : Int) + 0 ≤ p0.toInt ∧ p0.toInt + 0 ≤ ((I0 346 5) - (1 : Int32)).toInt ∧ p1.toInt + 1 ≤ (0 : Int) ∧ r = (-1000001) ∧ I1 340 25 = I0 340 25 ∧ I1 353 0 = I0 353 0 ∧ I1 353 1 = I0 353 1 ∧ I1 353 2 = I0 353 2 ∧ I1 353 3 = I0 353 3 ∧ I1 353 4 = I0 353 4 ∧ I1 353 5 = I0 353 5 ∧ I1 353 6 = I0 353 6 ∧ I1 353 7 = I0 353 7 ∧ I1 353  = I0 353 ∧ True) ∨ (dkN [(-1000001, -1000001)] r ∧ dkN [(0, 5)] p0 ∧ dkN [(2, 2147483647)] p1 ∧ (I0 346 (Int32.toNatClampNeg ((36 : Int32) + ((3 : Int32) * p0)))).toInt = (5 : Int) ∧ ((I0 346 5) - (1 : Int32)).toInt = (I0 346 5).toInt - (1 : Int) ∧ (0 : Int) + 0 ≤ p0.toInt ∧ p0.toInt + 0 ≤ ((I0 346 5) - (1 : Int32)).toInt ∧ (0 : Int) + 0 ≤ p1.toInt ∧ (1 : Int) + 1 ≤ p1.toInt ∧ r = (-1000001) ∧ I1 340 25 = I0 340 25 ∧ I1 353 0 = I0 353 0 ∧ I1 353 1 = I0 353 1 ∧ I1 353 2 = I0 353 2 ∧ I1 353 3 = I0 353 3 ∧ I1 353 4 = I0 353 4 ∧ I1 353 5 = I0 353 5 ∧ I1 353 6 = I0 353 6 ∧ I1 353 7 = I0 353 7 ∧ I1 353  = I0 353 ∧ True) ∨ (True ∧ dkN [(0, 5)] p0 ∧ dkN [(1, 1)] p1 ∧ dkN [(5, 5)] (I1 340 25) ∧ dkN [(23, 23)] (I1 353 0) ∧ dkN [(20, 20)] (I1 353 1) ∧ dkN [(14, 14)] (I1 353 2) ∧ dkN [(13, 13)] (I1 353 3) ∧ dkN [(10, 10)] (I1 353 4) ∧ (I0 346 (Int32.toNatClampNeg ((36 : Int32) + ((3 : Int32) * p0)))).toInt = (5 : Int) ∧ ((I0 346 5) - (1 : Int32)).toInt = (I0 346 5).toInt - (1 : Int) ∧ (0 : Int) + 0 ≤ p0.toInt ∧ p0.toInt + 0 ≤ ((I0 346 5) - (1 : Int32)).toInt ∧ (0 : Int) + 0 ≤ p1.toInt ∧ p1.toInt + 0 ≤ (1 : Int) ∧ ((3 : Int32) * p0).toInt = (3 : Int) * p0.toInt ∧ ((36 : Int32) + ((3 : Int32) * p0)).toInt = (36 : Int) + ((3 : Int32) * p0).toInt ∧ p1.toInt ≠ (0 : Int) ∧ ((I0 346) (Int32.toNatClampNeg ((36 : Int32) + ((3 : Int32) * p0)))).toInt = (5 : Int) ∧ (((36 : Int32) + ((3 : Int32) * p0)) + (1 : Int32)).toInt = ((36 : Int32) + ((3 : Int32) * p0)).toInt + (1 : Int) ∧ r = p0 - ((2 : Int32) * (((I0 346) (Int32.toNatClampNeg (((36 : Int32) + ((3 : Int32) * p0)) + (1 : Int32)))) - (100 : Int32))) ∧ I1 340 25 = 5 ∧ I1 353 0 = 23 ∧ I1 353 1 = 20 ∧ I1 353 2 = 14 ∧ I1 353 3 = 13 ∧ I1 353 4 = 10 ∧ I1 353 5 = I0 353 5 ∧ I1 353 6 = I0 353 6 ∧ I1 353 7 = I0 353 7 ∧ I1 353  = dkV (dkV (dkV (dkV (dkV (I0 353) 0 23) 1 20) 2 14) 3 13) 4 10 ∧ True) ∨ (True ∧ dkN [(0, 5)] p0 ∧ dkN [(0, 0)] p1 ∧ dkN [(3, 3)] (I1 340 25) ∧ dkN [(14, 14)] (I1 353 0) ∧ dkN [(13, 13)] (I1 353 1) ∧ dkN [(10, 10)] (I1 353 2) ∧ (I0 346 (Int32.toNatClampNeg ((36 : Int32) + ((3 : Int32) * p0)))).toInt = (5 : Int) ∧ ((I0 346 5) - (1 : Int32)).toInt = (I0 346 5).toInt - (1 : Int) ∧ (0 : Int) + 0 ≤ p0.toInt ∧ p0.toInt + 0 ≤ ((I0 346 5) - (1 : Int32)).toInt ∧ (0 : Int) + 0 ≤ p1.toInt ∧ p1.toInt + 0 ≤ (1 : Int) ∧ ((3 : Int32) * p0).toInt = (3 : Int) * p0.toInt ∧ ((36 : Int32) + ((3 : Int32) * p0)).toInt = (36 : Int) + ((3 : Int32) * p0).toInt ∧ p1.toInt = (0 : Int) ∧ ((I0 346) (Int32.toNatClampNeg ((36 : Int32) + ((3 : Int32) * p0)))).toInt = (5 : Int) ∧ (((36 : Int32) + ((3 : Int32) * p0)) + (1 : Int32)).toInt = ((36 : Int32) + ((3 : Int32) * p0)).toInt + (1 : Int) ∧ r = (2 : Int32) * (((I0 346) (Int32.toNatClampNeg (((36 : Int32) + ((3 : Int32) * p0)) + (1 : Int32)))) - (100 : Int32)) ∧ I1 340 25 = 3 ∧ I1 353 0 = 14 ∧ I1 353 1 = 13 ∧ I1 353 2 = 10 ∧ I1 353 3 = I0 353 3 ∧ I1 353 4 = I0 353 4 ∧ I1 353 5 = I0 353 5 ∧ I1 353 6 = I0 353 6 ∧ I1 353 7 = I0 353 7 ∧ I1 353  = dkV (dkV (dkV (I0 353) 0 14) 1 13) 2 10 ∧ True)))) 0 0 (dkA z) := by
  refine Met.ofW (cc := cX6_ask) (maxL := 4) (ret := (some .int)) (by decide) rfl ?_
  intro p e s m args below meth c s₁ B hml hv
  obtain ⟨ha, hW, hK, hT⟩ := hv
  have hx := B.exec
  have hb := B.bytes
  have hr := B.returns
  have hts := atoms_spec (ws := wsX6_ask) B.pre
  have hown : s.vm.findClass RX6 = some m.cls := findClass_of_methodNamed B.named
  have hlocks := B.notSynchronized
  have hS : va_S (dkA z) s.heap s.heap [] := va_S.rf
  have hF : dkF [(340, 340, 25, 25), (353, 353, 0, 4)] I0 I0 := dkF_rf _ _
  have hl := lv_entry ([.ref (z + 340), .int p0, .int p1]) (n := 4) (Nat.le_of_ble_eq_true rfl)
  have hgo : entryFrame m args 4 = entryFrame m ([.ref (z + 340), .int p0, .int p1] : List Value).toArray 4 := by rw [ha]
  rw [hgo, lg_entry_eq]
  generalize (lg_sl ([.ref (z + 340), .int p0, .int p1]) ++ List.replicate (4 - (lg_sl ([.ref (z + 340), .int p0, .int p1])).length) Slot.unset).toArray = ls at hl ⊢
  have hl : lv_has ls 4 [(0, .ref (z + 340)), (1, .int p0), (2, .int p1)] := hl
  refine lv_aload_n hx hb dX6_ask_0 rfl (lv_at hl 0 rfl) ?_
  refine lv_iload_n hx hb dX6_ask_1 rfl (lv_at hl 1 rfl) ?_
  refine dk_Vi (As := [.int p0]) (rest := []) ⟨hx, hb, hml, hown, hts⟩ (fx_X6_isDog_1 l g z I0 p0 hO) (cwV 1 hts gX6_ask_X6_isDog rfl rfl rfl (by decide +kernel) ⟨Nat.le_of_ble_eq_true rfl, Nat.le_of_ble_eq_true rfl⟩) (dk_at340 hW) rfl hK hT hW hS rfl hl.1 rfl (Nat.le_of_ble_eq_true rfl) dX6_ask_2 ⟨Nat.zero_le _, Nat.zero_le _⟩ (fun v1 I1 H1 L1 hp1 hW hS => ?_)
  obtain ⟨hF1, hO, hc1⟩ := hp1
  have hF := dkF_call hF hF1 rfl
  have eI1 : I0 = I1 := (dkF_nil hF1).symm
  subst eI1
  rcases hc1 with ⟨dv1, a1_0, x1_0, x1_1, xr1, -⟩ | hc1
  ·
    have q2 : ((I0 346 5) - (1 : Int32)).toInt = (I0 346 5).toInt - (1 : Int) := x1_0
    have q3 : p0.toInt + 1 ≤ (0 : Int) := x1_1
    have xv1 : v1 = 0 := by have h := xr1; exact h
    have d4 : dkN [(-2147483648, -1)] p0 := dkN_eq1 (dkN_top p0) a1_0 rfl rfl
    have z5 : v1 = 0 := xv1
    subst z5
    refine lv_if_eq (tgt := 17) hx hb dX6_ask_5 (by decide) (fun c6 => ?_) (fun c6 => ?_)
    ·
      refine lv_ldc (v := (-1000001)) hx hb hown (hts (.constant RX6 64 (-1000001)) (List.mem_of_getElem? (i := 1) rfl)) dX6_ask_17 ?_
      exact W.iret (v := (-1000001)) hx hb hr (fun t ht hW9 => ⟨⟨(-1000001), I0, rfl, ⟨hF, hO, Or.inl ⟨dkN_sub (dkN_lit (x := (-1000001)) (-1000001) rfl) rfl, dkN_sub d4 rfl, tp0, q2, q3, rfl, rfl, rfl, rfl, rfl, rfl, rfl, rfl, rfl, rfl, rfl, trivial⟩⟩, dkW_eq ht hW⟩, hS.F ht⟩) hS.2.2 dX6_ask_19
    ·
      exact (dkN_nil (show dkN [] 0 from dkN_ne1 (0) (dkN_lit (x := 0) (0) rfl) (dkN_lit (x := 0) (0) rfl) (dk_ne c6) rfl)).elim
  rcases hc1 with ⟨dv1, a1_0, x1_0, x1_1, x1_2, xr1, -⟩ | hc1
  ·
    have q7 : ((I0 346 5) - (1 : Int32)).toInt = (I0 346 5).toInt - (1 : Int) := x1_0
    have q8 : (0 : Int) + 0 ≤ p0.toInt := x1_1
    have q9 : ((I0 346 5) - (1 : Int32)).toInt + 1 ≤ p0.toInt := x1_2
    have xv1 : v1 = 0 := by have h := xr1; exact h
    have d10 : dkN [(0, 2147483647)] p0 := dkN_eq1 (dkN_top p0) a1_0 rfl rfl
    have z11 : v1 = 0 := xv1
    subst z11
    refine lv_if_eq (tgt := 17) hx hb dX6_ask_5 (by decide) (fun c12 => ?_) (fun c12 => ?_)
    ·
      refine lv_ldc (v := (-1000001)) hx hb hown (hts (.constant RX6 64 (-1000001)) (List.mem_of_getElem? (i := 1) rfl)) dX6_ask_17 ?_
      exact W.iret (v := (-1000001)) hx hb hr (fun t ht hW9 => ⟨⟨(-1000001), I0, rfl, ⟨hF, hO, Or.inr (Or.inl ⟨dkN_sub (dkN_lit (x := (-1000001)) (-1000001) rfl) rfl, dkN_sub d10 rfl, tp0, q7, q8, q9, rfl, rfl, rfl, rfl, rfl, rfl, rfl, rfl, rfl, rfl, rfl, trivial⟩)⟩, dkW_eq ht hW⟩, hS.F ht⟩) hS.2.2 dX6_ask_19
    ·
      exact (dkN_nil (show dkN [] 0 from dkN_ne1 (0) (dkN_lit (x := 0) (0) rfl) (dkN_lit (x := 0) (0) rfl) (dk_ne c12) rfl)).elim
  ·
    obtain ⟨dv1, a1_0, x1_0, x1_1, x1_2, xr1, -⟩ := hc1
    have q13 : ((I0 346 5) - (1 : Int32)).toInt = (I0 346 5).toInt - (1 : Int) := x1_0
    have q14 : (0 : Int) + 0 ≤ p0.toInt := x1_1
    have q15 : p0.toInt + 0 ≤ ((I0 346 5) - (1 : Int32)).toInt := x1_2
    have xv1 : v1 = 1 := by have h := xr1; exact h
    have d16 : dkN [(0, 5)] p0 := dkN_eq1 (dkN_top p0) a1_0 rfl rfl
    have z17 : v1 = 1 := xv1
    subst z17
    refine lv_if_eq (tgt := 17) hx hb dX6_ask_5 (by decide) (fun c18 => ?_) (fun c18 => ?_)
    ·
      exact (dkN_nil (show dkN [] 1 from dkN_eq1 (dkN_lit (x := 1) (1) rfl) (dkN_lit (x := 0) (0) rfl) (congrArg Int32.toInt c18) rfl)).elim
    ·
      refine lv_iload_n hx hb dX6_ask_8 rfl (lv_at hl 2 rfl) ?_
      refine lv_iconst (v := 0) hx hb dX6_ask_9 (by decide) ?_
      refine lv_iconst (v := 1) hx hb dX6_ask_10 (by decide) ?_
      refine dk_Si (As := [.int p1, .int 0, .int 1]) (rest := []) ⟨hx, hb, hml, hown, hts⟩ (fx_X6_in_39 l g z I0 p1 0 1 (dkN_lit (x := 0) (0) rfl) (dkN_lit (x := 1) (1) rfl) hO) (va_cwS 3 hts gX6_ask_X6_in rfl rfl rfl (by decide +kernel) ⟨Nat.le_of_ble_eq_true rfl, Nat.le_of_ble_eq_true rfl⟩) hK hT hW hS rfl hl.1 rfl (Nat.le_of_ble_eq_true rfl) dX6_ask_11 ⟨Nat.zero_le _, Nat.zero_le _⟩ (fun v19 I19 H19 L19 hp19 hW hS => ?_)
      obtain ⟨hF19, hO, hc19⟩ := hp19
      have hF := dkF_call hF hF19 rfl
      have eI19 : I0 = I19 := (dkF_nil hF19).symm
      subst eI19
      rcases hc19 with ⟨dv19, a19_0, x19_0, xr19, -⟩ | hc19
      ·
        have q20 : p1.toInt + 1 ≤ (0 : Int) := x19_0
        have xv19 : v19 = 0 := by have h := xr19; exact h
        have d21 : dkN [(-2147483648, -1)] p1 := dkN_eq1 (dkN_top p1) a19_0 rfl rfl
        have z22 : v19 = 0 := xv19
        subst z22
        refine lv_if_ne (tgt := 20) hx hb dX6_ask_14 (by decide) (fun c23 => ?_) (fun c23 => ?_)
        ·
          exact (dkN_nil (show dkN [] 0 from dkN_ne1 (0) (dkN_lit (x := 0) (0) rfl) (dkN_lit (x := 0) (0) rfl) (dk_ne c23) rfl)).elim
        ·
          refine lv_ldc (v := (-1000001)) hx hb hown (hts (.constant RX6 64 (-1000001)) (List.mem_of_getElem? (i := 1) rfl)) dX6_ask_17 ?_
          exact W.iret (v := (-1000001)) hx hb hr (fun t ht hW9 => ⟨⟨(-1000001), I0, rfl, ⟨hF, hO, Or.inr (Or.inr (Or.inl ⟨dkN_sub (dkN_lit (x := (-1000001)) (-1000001) rfl) rfl, dkN_sub d16 rfl, dkN_sub d21 rfl, tp0, q13, q14, q15, q20, rfl, rfl, rfl, rfl, rfl, rfl, rfl, rfl, rfl, rfl, rfl, trivial⟩))⟩, dkW_eq ht hW⟩, hS.F ht⟩) hS.2.2 dX6_ask_19
      rcases hc19 with ⟨dv19, a19_0, x19_0, x19_1, xr19, -⟩ | hc19
      ·
        have q24 : (0 : Int) + 0 ≤ p1.toInt := x19_0
        have q25 : (1 : Int) + 1 ≤ p1.toInt := x19_1
        have xv19 : v19 = 0 := by have h := xr19; exact h
        have d26 : dkN [(2, 2147483647)] p1 := dkN_eq1 (dkN_top p1) a19_0 rfl rfl
        have z27 : v19 = 0 := xv19
        subst z27
        refine lv_if_ne (tgt := 20) hx hb dX6_ask_14 (by decide) (fun c28 => ?_) (fun c28 => ?_)
        ·
          exact (dkN_nil (show dkN [] 0 from dkN_ne1 (0) (dkN_lit (x := 0) (0) rfl) (dkN_lit (x := 0) (0) rfl) (dk_ne c28) rfl)).elim
        ·
          refine lv_ldc (v := (-1000001)) hx hb hown (hts (.constant RX6 64 (-1000001)) (List.mem_of_getElem? (i := 1) rfl)) dX6_ask_17 ?_
          exact W.iret (v := (-1000001)) hx hb hr (fun t ht hW9 => ⟨⟨(-1000001), I0, rfl, ⟨hF, hO, Or.inr (Or.inr (Or.inr (Or.inl ⟨dkN_sub (dkN_lit (x := (-1000001)) (-1000001) rfl) rfl, dkN_sub d16 rfl, dkN_sub d26 rfl, tp0, q13, q14, q15, q24, q25, rfl, rfl, rfl, rfl, rfl, rfl, rfl, rfl, rfl, rfl, rfl, trivial⟩)))⟩, dkW_eq ht hW⟩, hS.F ht⟩) hS.2.2 dX6_ask_19
      ·
        obtain ⟨dv19, a19_0, x19_0, x19_1, xr19, -⟩ := hc19
        have q29 : (0 : Int) + 0 ≤ p1.toInt := x19_0
        have q30 : p1.toInt + 0 ≤ (1 : Int) := x19_1
        have xv19 : v19 = 1 := by have h := xr19; exact h
        have d31 : dkN [(0, 1)] p1 := dkN_eq1 (dkN_top p1) a19_0 rfl rfl
        have z32 : v19 = 1 := xv19
        subst z32
        refine lv_if_ne (tgt := 20) hx hb dX6_ask_14 (by decide) (fun c33 => ?_) (fun c33 => ?_)
        ·
          refine lv_aload_n hx hb dX6_ask_20 rfl (lv_at hl 0 rfl) ?_
          refine lv_iconst (v := 0) hx hb dX6_ask_21 (by decide) ?_
          refine dk_put (k := 340) hx hb hts iX6_ask_6 tyX6 tyX6_ok nmX6 hown hK hW (dk_at340 hW) hS rfl 25 (by decide) (hts (.fieldLink RX6 252 "DogKingsModel" "traced" "I") (List.mem_of_getElem? (i := 2) rfl)) rfl rfl (Nat.le_of_ble_eq_true rfl) rfl dX6_ask_22 (fun I34 H34 L34 eI34 hW hS => ?_)
          have eI34 : I34 = dkU I0 340 25 0 := eI34
          have hO := dkO_set hO eI34 (dkN_sub (dkN_lit (x := 0) (0) rfl) rfl)
          have hF := dkF_set hF eI34 rfl
          refine lv_aload_n hx hb dX6_ask_25 rfl (lv_at hl 0 rfl) ?_
          refine lv_iload_n hx hb dX6_ask_26 rfl (lv_at hl 1 rfl) ?_
          refine dk_Vi (As := [.int p0]) (rest := []) ⟨hx, hb, hml, hown, hts⟩ (fx_X6_kindIn_1 l g z I34 p0 d16 hO) (cwV 1 hts gX6_ask_X6_kindIn rfl rfl rfl (by decide +kernel) ⟨Nat.le_of_ble_eq_true rfl, Nat.le_of_ble_eq_true rfl⟩) (dk_at340 hW) rfl hK hT hW hS rfl hl.1 rfl (Nat.le_of_ble_eq_true rfl) dX6_ask_27 ⟨Nat.zero_le _, Nat.zero_le _⟩ (fun v35 I35 H35 L35 hp35 hW hS => ?_)
          obtain ⟨hF35, hO, hc35⟩ := hp35
          have hF := dkF_call hF hF35 rfl
          have eI35 : I34 = I35 := (dkF_nil hF35).symm
          subst eI35
          obtain ⟨_, x35_0, x35_1, xr35, -⟩ := hc35
          have q36 : ((3 : Int32) * p0).toInt = (3 : Int) * p0.toInt := x35_0
          have q37 : ((36 : Int32) + ((3 : Int32) * p0)).toInt = (36 : Int) + ((3 : Int32) * p0).toInt := x35_1
          have w38 : I34 346 = I0 346 := ((by rw [eI34, dkU_n (by decide)] : I34 346 = _).trans rfl)
          have xv35 : v35 = (I0 346) (Int32.toNatClampNeg ((36 : Int32) + ((3 : Int32) * p0))) := by have h := xr35; rw [w38] at h; exact h
          have z39 : v35 = 5 := dk_e0 (by rw [xv35]; exact tp0)
          subst z39
          refine lv_iconst (v := 4) hx hb dX6_ask_30 (by decide) ?_
          refine lv_icmp_lt (tgt := 38) hx hb dX6_ask_31 (by decide) (fun c40 => ?_) (fun c40 => ?_)
          ·
            exact (dkN_nil (show dkN [] 5 from dkN_le1 1 (dkN_lit (x := 5) (5) rfl) (dkN_lit (x := 4) (4) rfl) (dkc_lt c40) rfl)).elim
          ·
            refine lv_iconst (v := 1) hx hb dX6_ask_34 (by decide) ?_
            refine lv_goto (tgt := 39) hx hb dX6_ask_35 (by decide) ?_
            refine lv_istore_n (lv' := [(3, .int 1), (0, .ref (z + 340)), (1, .int p0), (2, .int p1)]) hx hb dX6_ask_39 rfl hl (by decide) rfl (fun ls hl => ?_)
            refine lv_iload_n hx hb dX6_ask_40 rfl (lv_at hl 3 rfl) ?_
            refine lv_if_ne (tgt := 62) hx hb dX6_ask_41 (by decide) (fun c41 => ?_) (fun c41 => ?_)
            ·
              have q42 : p1.toInt ≠ (0 : Int) := (dk_ne c41)
              have d43 : dkN [(1, 1)] p1 := dkN_ne1 (0) d31 (dkN_lit (x := 0) (0) rfl) (dk_ne c41) rfl
              refine lv_iload_n hx hb dX6_ask_62 rfl (lv_at hl 0 rfl) ?_
              refine lv_if_eq (tgt := 74) hx hb dX6_ask_63 (by decide) (fun c44 => ?_) (fun c44 => ?_)
              ·
                exact (dkN_nil (show dkN [] 1 from dkN_eq1 (dkN_lit (x := 1) (1) rfl) (dkN_lit (x := 0) (0) rfl) (congrArg Int32.toInt c44) rfl)).elim
              ·
                refine lv_aload_n hx hb dX6_ask_66 rfl (lv_at hl 1 rfl) ?_
                refine lv_iload_n hx hb dX6_ask_67 rfl (lv_at hl 2 rfl) ?_
                refine dk_Vi (As := [.int p0]) (rest := []) ⟨hx, hb, hml, hown, hts⟩ (fx_X6_packMark_2 l g z I34 p0 d16 (show dkN [(0, 0)] (I34 340 25) from dkN_sub (by rw [hF35 340 25 rfl]; exact (by rw [eI34, dkU_ss]; exact (dkN_lit (x := 0) (0) rfl))) rfl) (by rw [(show I34 346 = I0 346 from ((funext fun j => hF35 346 j dkNin_nil).trans ((by rw [eI34, dkU_n (by decide)] : I34 346 = _).trans rfl)))]; exact tp0) hO) (cwV 1 hts gX6_ask_X6_packMark rfl rfl rfl (by decide +kernel) ⟨Nat.le_of_ble_eq_true rfl, Nat.le_of_ble_eq_true rfl⟩) (dk_at340 hW) rfl hK hT hW hS rfl hl.1 rfl (Nat.le_of_ble_eq_true rfl) dX6_ask_68 ⟨Nat.zero_le _, Nat.zero_le _⟩ (fun v45 I45 H45 L45 hp45 hW hS => ?_)
                obtain ⟨hF45, hO, hc45⟩ := hp45
                have hF := dkF_call hF hF45 rfl
                obtain ⟨_, f45_340_25, f45_353_0, f45_353_1, f45_353_2, f45_353_3, f45_353_4, x45_0, x45_1, x45_2, x45_3, x45_4, xr45, xh45_0, xh45_1, xh45_2, xh45_3, xh45_4, xh45_5, xh45_6, xh45_7, xh45_8, xh45_9, -⟩ := hc45
                have w46 : I34 346 = I0 346 := ((funext fun j => hF35 346 j dkNin_nil).trans ((by rw [eI34, dkU_n (by decide)] : I34 346 = _).trans rfl))
                have q47 : ((I0 346) (Int32.toNatClampNeg ((36 : Int32) + ((3 : Int32) * p0)))).toInt = (5 : Int) := by have h := x45_0; rw [w46] at h; exact h
                have q48 : (((36 : Int32) + ((3 : Int32) * p0)) + (1 : Int32)).toInt = ((36 : Int32) + ((3 : Int32) * p0)).toInt + (1 : Int) := x45_4
                have y49 : I45 340 25 = 5 := by have h := xh45_0; exact h
                have y50 : I45 353 0 = 23 := by have h := xh45_1; exact h
                have y51 : I45 353 1 = 20 := by have h := xh45_2; exact h
                have y52 : I45 353 2 = 14 := by have h := xh45_3; exact h
                have y53 : I45 353 3 = 13 := by have h := xh45_4; exact h
                have y54 : I45 353 4 = 10 := by have h := xh45_5; exact h
                have w55 : I34 353 5 = I0 353 5 := ((hF35 353 5 rfl).trans ((by rw [eI34, dkU_n (by decide)] : I34 353 5 = _).trans rfl))
                have y56 : I45 353 5 = I0 353 5 := by have h := xh45_6; rw [w55] at h; exact h
                have w57 : I34 353 6 = I0 353 6 := ((hF35 353 6 rfl).trans ((by rw [eI34, dkU_n (by decide)] : I34 353 6 = _).trans rfl))
                have y58 : I45 353 6 = I0 353 6 := by have h := xh45_7; rw [w57] at h; exact h
                have w59 : I34 353 7 = I0 353 7 := ((hF35 353 7 rfl).trans ((by rw [eI34, dkU_n (by decide)] : I34 353 7 = _).trans rfl))
                have y60 : I45 353 7 = I0 353 7 := by have h := xh45_8; rw [w59] at h; exact h
                have w61 : I34 353 = I0 353 := ((funext fun j => hF35 353 j dkNin_nil).trans ((by rw [eI34, dkU_n (by decide)] : I34 353 = _).trans rfl))
                have y62 : I45 353 = dkV (dkV (dkV (dkV (dkV (I0 353) 0 23) 1 20) 2 14) 3 13) 4 10 := by have h := xh45_9; rw [w61] at h; exact h
                have xv45 : v45 = p0 - ((2 : Int32) * (((I0 346) (Int32.toNatClampNeg (((36 : Int32) + ((3 : Int32) * p0)) + (1 : Int32)))) - (100 : Int32))) := by have h := xr45; rw [w46] at h; exact h
                refine lv_goto (tgt := 79) hx hb dX6_ask_71 (by decide) ?_
                exact W.iret (v := v45) hx hb hr (fun t ht hW9 => ⟨⟨v45, I45, rfl, ⟨hF, hO, Or.inr (Or.inr (Or.inr (Or.inr (Or.inl ⟨trivial, dkN_sub d16 rfl, dkN_sub d43 rfl, (show dkN [(5, 5)] (I45 340 25) from dkN_sub f45_340_25 rfl), (show dkN [(23, 23)] (I45 353 0) from dkN_sub f45_353_0 rfl), (show dkN [(20, 20)] (I45 353 1) from dkN_sub f45_353_1 rfl), (show dkN [(14, 14)] (I45 353 2) from dkN_sub f45_353_2 rfl), (show dkN [(13, 13)] (I45 353 3) from dkN_sub f45_353_3 rfl), (show dkN [(10, 10)] (I45 353 4) from dkN_sub f45_353_4 rfl), tp0, q13, q14, q15, q29, q30, q36, q37, q42, q47, q48, xv45, y49, y50, y51, y52, y53, y54, y56, y58, y60, y62, trivial⟩))))⟩, dkW_eq ht hW⟩, hS.F ht⟩) hS.2.2 dX6_ask_79
            ·
              have q63 : p1.toInt = (0 : Int) := (congrArg Int32.toInt c41)
              have d64 : dkN [(0, 0)] p1 := dkN_eq1 d31 (dkN_lit (x := 0) (0) rfl) (congrArg Int32.toInt c41) rfl
              refine lv_iload_n hx hb dX6_ask_44 rfl (lv_at hl 0 rfl) ?_
              refine lv_if_eq (tgt := 56) hx hb dX6_ask_45 (by decide) (fun c65 => ?_) (fun c65 => ?_)
              ·
                exact (dkN_nil (show dkN [] 1 from dkN_eq1 (dkN_lit (x := 1) (1) rfl) (dkN_lit (x := 0) (0) rfl) (congrArg Int32.toInt c65) rfl)).elim
              ·
                refine lv_aload_n hx hb dX6_ask_48 rfl (lv_at hl 1 rfl) ?_
                refine lv_iload_n hx hb dX6_ask_49 rfl (lv_at hl 2 rfl) ?_
                refine dk_Vi (As := [.int p0]) (rest := []) ⟨hx, hb, hml, hown, hts⟩ (fx_X6_packSize_4 l g z I34 p0 d16 (show dkN [(0, 0)] (I34 340 25) from dkN_sub (by rw [hF35 340 25 rfl]; exact (by rw [eI34, dkU_ss]; exact (dkN_lit (x := 0) (0) rfl))) rfl) (by rw [(show I34 346 = I0 346 from ((funext fun j => hF35 346 j dkNin_nil).trans ((by rw [eI34, dkU_n (by decide)] : I34 346 = _).trans rfl)))]; exact tp0) hO) (cwV 1 hts gX6_ask_X6_packSize rfl rfl rfl (by decide +kernel) ⟨Nat.le_of_ble_eq_true rfl, Nat.le_of_ble_eq_true rfl⟩) (dk_at340 hW) rfl hK hT hW hS rfl hl.1 rfl (Nat.le_of_ble_eq_true rfl) dX6_ask_50 ⟨Nat.zero_le _, Nat.zero_le _⟩ (fun v66 I66 H66 L66 hp66 hW hS => ?_)
                obtain ⟨hF66, hO, hc66⟩ := hp66
                have hF := dkF_call hF hF66 rfl
                obtain ⟨_, f66_340_25, f66_353_0, f66_353_1, f66_353_2, x66_0, x66_1, x66_2, x66_3, xr66, xh66_0, xh66_1, xh66_2, xh66_3, xh66_4, xh66_5, xh66_6, xh66_7, xh66_8, xh66_9, -⟩ := hc66
                have w67 : I34 346 = I0 346 := ((funext fun j => hF35 346 j dkNin_nil).trans ((by rw [eI34, dkU_n (by decide)] : I34 346 = _).trans rfl))
                have q68 : ((I0 346) (Int32.toNatClampNeg ((36 : Int32) + ((3 : Int32) * p0)))).toInt = (5 : Int) := by have h := x66_0; rw [w67] at h; exact h
                have q69 : (((36 : Int32) + ((3 : Int32) * p0)) + (1 : Int32)).toInt = ((36 : Int32) + ((3 : Int32) * p0)).toInt + (1 : Int) := x66_3
                have y70 : I66 340 25 = 3 := by have h := xh66_0; exact h
                have y71 : I66 353 0 = 14 := by have h := xh66_1; exact h
                have y72 : I66 353 1 = 13 := by have h := xh66_2; exact h
                have y73 : I66 353 2 = 10 := by have h := xh66_3; exact h
                have w74 : I34 353 3 = I0 353 3 := ((hF35 353 3 rfl).trans ((by rw [eI34, dkU_n (by decide)] : I34 353 3 = _).trans rfl))
                have y75 : I66 353 3 = I0 353 3 := by have h := xh66_4; rw [w74] at h; exact h
                have w76 : I34 353 4 = I0 353 4 := ((hF35 353 4 rfl).trans ((by rw [eI34, dkU_n (by decide)] : I34 353 4 = _).trans rfl))
                have y77 : I66 353 4 = I0 353 4 := by have h := xh66_5; rw [w76] at h; exact h
                have w78 : I34 353 5 = I0 353 5 := ((hF35 353 5 rfl).trans ((by rw [eI34, dkU_n (by decide)] : I34 353 5 = _).trans rfl))
                have y79 : I66 353 5 = I0 353 5 := by have h := xh66_6; rw [w78] at h; exact h
                have w80 : I34 353 6 = I0 353 6 := ((hF35 353 6 rfl).trans ((by rw [eI34, dkU_n (by decide)] : I34 353 6 = _).trans rfl))
                have y81 : I66 353 6 = I0 353 6 := by have h := xh66_7; rw [w80] at h; exact h
                have w82 : I34 353 7 = I0 353 7 := ((hF35 353 7 rfl).trans ((by rw [eI34, dkU_n (by decide)] : I34 353 7 = _).trans rfl))
                have y83 : I66 353 7 = I0 353 7 := by have h := xh66_8; rw [w82] at h; exact h
                have w84 : I34 353 = I0 353 := ((funext fun j => hF35 353 j dkNin_nil).trans ((by rw [eI34, dkU_n (by decide)] : I34 353 = _).trans rfl))
                have y85 : I66 353 = dkV (dkV (dkV (I0 353) 0 14) 1 13) 2 10 := by have h := xh66_9; rw [w84] at h; exact h
                have xv66 : v66 = (2 : Int32) * (((I0 346) (Int32.toNatClampNeg (((36 : Int32) + ((3 : Int32) * p0)) + (1 : Int32)))) - (100 : Int32)) := by have h := xr66; rw [w67] at h; exact h
                refine lv_goto (tgt := 61) hx hb dX6_ask_53 (by decide) ?_
                exact W.iret (v := v66) hx hb hr (fun t ht hW9 => ⟨⟨v66, I66, rfl, ⟨hF, hO, Or.inr (Or.inr (Or.inr (Or.inr (Or.inr (⟨trivial, dkN_sub d16 rfl, dkN_sub d64 rfl, (show dkN [(3, 3)] (I66 340 25) from dkN_sub f66_340_25 rfl), (show dkN [(14, 14)] (I66 353 0) from dkN_sub f66_353_0 rfl), (show dkN [(13, 13)] (I66 353 1) from dkN_sub f66_353_1 rfl), (show dkN [(10, 10)] (I66 353 2) from dkN_sub f66_353_2 rfl), tp0, q13, q14, q15, q29, q30, q36, q37, q63, q68, q69, xv66, y70, y71, y72, y73, y75, y77, y79, y81, y83, y85, trivial⟩)))))⟩, dkW_eq ht hW⟩, hS.F ht⟩) hS.2.2 dX6_ask_61
        ·
          exact (dkN_nil (show dkN [] 1 from dkN_eq1 (dkN_lit (x := 1) (1) rfl) (dkN_lit (x := 0) (0) rfl) (congrArg Int32.toInt c33) rfl)).elim
set_option maxHeartbeats 4000000 in
set_option maxRecDepth 100000 in
theorem fx_X1_begun_1 (l : Launch) (g : dkG) (z : Nat) (I0 : dkI) (p0 : Int32)  (hO : dkOk I0) : Met l yX1_begun wsX1_begun (dkR 0) (dkPc g z [.ref (z + 338), .int p0] I0) (dkQi g z (fun r I1 => dkF [] I0 I1 ∧ dkOk I1 ∧ ((dkN [(-1000000, -1000000)] r ∧ dkN [(-2147483648, -1)] p0 ∧ p0.toInt + 1 ≤ (0 : Int) ∧ r = (-1000000) ∧ True) ∨ (dkN [(-1000000, -1000000)] r ∧ dkN [(0, 2147483647)] p0 ∧ (0 : Int) + 0 ≤ p0.toInt ∧ (I0 338 2).toInt + 0 ≤ p0.toInt ∧ r = (-1000000) ∧ True) ∨ (True ∧ dkN [(0, 15)] p0 ∧ dkN [(1, 16)] (I1 338 2) ∧ (0 : Int) + 0 ≤ p0.toInt ∧ p0.toInt + 1 ≤ (I0 338 2).toInt ∧ r = I0 339 (Int32.toNatClampNeg p0) ∧ True)))) 0 0 (dkA z) := by
  refine Met.ofW (cc := cX1_begun) (maxL := 2) (ret := (some .int)) (by decide) rfl ?_
  intro p e s m args below meth c s₁ B hml hv
  obtain ⟨ha, hW, hK, hT⟩ := hv
  have hx := B.exec
  have hb := B.bytes
  have hr := B.returns
  have hts := atoms_spec (ws := wsX1_begun) B.pre
  have hown : s.vm.findClass RX1 = some m.cls := findClass_of_methodNamed B.named
  have hlocks := B.notSynchronized
  have hS : va_S (dkA z) s.heap s.heap [] := va_S.rf
  have hF : dkF [] I0 I0 := dkF_rf _ _
  have hl := lv_entry ([.ref (z + 338), .int p0]) (n := 2) (Nat.le_of_ble_eq_true rfl)
  have hgo : entryFrame m args 2 = entryFrame m ([.ref (z + 338), .int p0] : List Value).toArray 2 := by rw [ha]
  rw [hgo, lg_entry_eq]
  generalize (lg_sl ([.ref (z + 338), .int p0]) ++ List.replicate (2 - (lg_sl ([.ref (z + 338), .int p0])).length) Slot.unset).toArray = ls at hl ⊢
  have hl : lv_has ls 2 [(0, .ref (z + 338)), (1, .int p0)] := hl
  refine lv_iload_n hx hb dX1_begun_0 rfl (lv_at hl 1 rfl) ?_
  refine lv_if_lt (tgt := 21) hx hb dX1_begun_1 (by decide) (fun c1 => ?_) (fun c1 => ?_)
  ·
    have q2 : p0.toInt + 1 ≤ (0 : Int) := (dkc_lt c1)
    have d3 : dkN [(-2147483648, -1)] p0 := dkN_le1 1 (dkN_top p0) (dkN_lit (x := 0) (0) rfl) (dkc_lt c1) rfl
    refine lv_ldc (v := (-1000000)) hx hb hown (hts (.constant RX1 34 (-1000000)) (List.mem_of_getElem? (i := 3) rfl)) dX1_begun_21 ?_
    exact W.iret (v := (-1000000)) hx hb hr (fun t ht hW9 => ⟨⟨(-1000000), I0, rfl, ⟨hF, hO, Or.inl ⟨dkN_sub (dkN_lit (x := (-1000000)) (-1000000) rfl) rfl, dkN_sub d3 rfl, q2, rfl, trivial⟩⟩, dkW_eq ht hW⟩, hS.F ht⟩) hS.2.2 dX1_begun_23
  ·
    have q4 : (0 : Int) + 0 ≤ p0.toInt := (dkc_nlt c1)
    have d5 : dkN [(0, 2147483647)] p0 := dkN_le2 0 (dkN_lit (x := 0) (0) rfl) (dkN_top p0) (dkc_nlt c1) rfl
    refine lv_iload_n hx hb dX1_begun_4 rfl (lv_at hl 1 rfl) ?_
    refine lv_aload_n hx hb dX1_begun_5 rfl (lv_at hl 0 rfl) ?_
    refine dk_get (k := 338) hx hb hts iX1_begun_1 hown hK (dk_at338 hW) rfl 2 (by decide) (hts (.fieldLink RX1 19 "DogKings$Asks" "tracedCount" "I") (List.mem_of_getElem? (i := 1) rfl)) rfl dX1_begun_6 ?_
    refine lv_topi (fun v6 ev6 => ?_)
    have dv6 : dkN [(0, 16)] v6 := by rw [ev6]; exact (hO 338 2)
    have xv6 : v6 = I0 338 2 := ev6.trans rfl
    refine lv_icmp_ge (tgt := 21) hx hb dX1_begun_9 (by decide) (fun c7 => ?_) (fun c7 => ?_)
    ·
      have q8 : (I0 338 2).toInt + 0 ≤ p0.toInt := by first | (rw [← xv6]; exact (dkc_le c7)) | (subst xv6; exact (dkc_le c7))
      refine lv_ldc (v := (-1000000)) hx hb hown (hts (.constant RX1 34 (-1000000)) (List.mem_of_getElem? (i := 3) rfl)) dX1_begun_21 ?_
      exact W.iret (v := (-1000000)) hx hb hr (fun t ht hW9 => ⟨⟨(-1000000), I0, rfl, ⟨hF, hO, Or.inr (Or.inl ⟨dkN_sub (dkN_lit (x := (-1000000)) (-1000000) rfl) rfl, dkN_sub d5 rfl, q4, q8, rfl, trivial⟩)⟩, dkW_eq ht hW⟩, hS.F ht⟩) hS.2.2 dX1_begun_23
    ·
      have q9 : p0.toInt + 1 ≤ (I0 338 2).toInt := by first | (rw [← xv6]; exact (dkc_nle c7)) | (subst xv6; exact (dkc_nle c7))
      have d10 : dkN [(1, 16)] v6 := dkN_le2 1 d5 dv6 (dkc_nle c7) rfl
      have f11 : dkN [(1, 16)] (I0 338 2) := by rw [← ev6]; exact d10
      have d12 : dkN [(0, 15)] p0 := dkN_le1 1 d5 dv6 (dkc_nle c7) rfl
      refine lv_aload_n hx hb dX1_begun_12 rfl (lv_at hl 0 rfl) ?_
      refine dk_get (k := 338) hx hb hts iX1_begun_1 hown hK (dk_at338 hW) rfl 1 (by decide) (hts (.fieldLink RX1 11 "DogKings$Asks" "traced" "[I") (List.mem_of_getElem? (i := 2) rfl)) rfl dX1_begun_13 ?_
      refine lv_iload_n hx hb dX1_begun_16 rfl (lv_at hl 1 rfl) ?_
      refine dk_ild (k := 339) hx hb hK (dk_at339 hW) (dkN_in (n := 16) d12 rfl) dX1_begun_17 ?_
      refine lv_topi (fun v13 ev13 => ?_)
      have xv13 : v13 = I0 339 (Int32.toNatClampNeg p0) := ev13.trans rfl
      refine lv_goto (tgt := 23) hx hb dX1_begun_18 (by decide) ?_
      exact W.iret (v := v13) hx hb hr (fun t ht hW9 => ⟨⟨v13, I0, rfl, ⟨hF, hO, Or.inr (Or.inr (⟨trivial, dkN_sub d12 rfl, (show dkN [(1, 16)] (I0 338 2) from dkN_sub f11 rfl), q4, q9, xv13, trivial⟩))⟩, dkW_eq ht hW⟩, hS.F ht⟩) hS.2.2 dX1_begun_23
set_option maxHeartbeats 4000000 in
set_option maxRecDepth 100000 in
theorem fx_X5_trace_1 (l : Launch) (g : dkG) (z : Nat) (I0 : dkI) (p0 : Int32)  (hO : dkOk I0) : Met l yX5_trace wsX5_trace (dkR 1) (dkPc g z [.ref (z + 0), .int p0] I0) (dkQi g z (fun r I1 => dkF [] I0 I1 ∧ dkOk I1 ∧ ((dkN [(-1000000, -1000000)] r ∧ dkN [(-2147483648, -1)] p0 ∧ p0.toInt + 1 ≤ (0 : Int) ∧ r = (-1000000) ∧ True) ∨ (dkN [(-1000000, -1000000)] r ∧ dkN [(0, 2147483647)] p0 ∧ (0 : Int) + 0 ≤ p0.toInt ∧ (I0 338 2).toInt + 0 ≤ p0.toInt ∧ r = (-1000000) ∧ True) ∨ (True ∧ dkN [(0, 15)] p0 ∧ dkN [(1, 16)] (I1 338 2) ∧ (0 : Int) + 0 ≤ p0.toInt ∧ p0.toInt + 1 ≤ (I0 338 2).toInt ∧ r = I0 339 (Int32.toNatClampNeg p0) ∧ True)))) 0 0 (dkA z) := by
  refine Met.ofW (cc := cX5_trace) (maxL := 2) (ret := (some .int)) (by decide) rfl ?_
  intro p e s m args below meth c s₁ B hml hv
  obtain ⟨ha, hW, hK, hT⟩ := hv
  have hx := B.exec
  have hb := B.bytes
  have hr := B.returns
  have hts := atoms_spec (ws := wsX5_trace) B.pre
  have hown : s.vm.findClass RX5 = some m.cls := findClass_of_methodNamed B.named
  have hlocks := B.notSynchronized
  have hS : va_S (dkA z) s.heap s.heap [] := va_S.rf
  have hF : dkF [] I0 I0 := dkF_rf _ _
  have hl := lv_entry ([.ref (z + 0), .int p0]) (n := 2) (Nat.le_of_ble_eq_true rfl)
  have hgo : entryFrame m args 2 = entryFrame m ([.ref (z + 0), .int p0] : List Value).toArray 2 := by rw [ha]
  rw [hgo, lg_entry_eq]
  generalize (lg_sl ([.ref (z + 0), .int p0]) ++ List.replicate (2 - (lg_sl ([.ref (z + 0), .int p0])).length) Slot.unset).toArray = ls at hl ⊢
  have hl : lv_has ls 2 [(0, .ref (z + 0)), (1, .int p0)] := hl
  refine lv_aload_n hx hb dX5_trace_0 rfl (lv_at hl 0 rfl) ?_
  refine dk_get (k := 0) hx hb hts iX5_trace_5 hown hK (dk_at0 hW) rfl 9 (by decide) (hts (.fieldLink RX5 58 "DogKings" "asks" "LDogKings$Asks;") (List.mem_of_getElem? (i := 1) rfl)) rfl dX5_trace_1 ?_
  refine lv_iload_n hx hb dX5_trace_4 rfl (lv_at hl 1 rfl) ?_
  refine dk_Vi (As := [.int p0]) (rest := []) ⟨hx, hb, hml, hown, hts⟩ (fx_X1_begun_1 l g z I0 p0 hO) (cwV 1 hts gX5_trace_X1_begun rfl rfl rfl (by decide +kernel) ⟨Nat.le_of_ble_eq_true rfl, Nat.le_of_ble_eq_true rfl⟩) (dk_at338 hW) rfl hK hT hW hS rfl hl.1 rfl (Nat.le_of_ble_eq_true rfl) dX5_trace_5 ⟨Nat.zero_le _, Nat.zero_le _⟩ (fun v1 I1 H1 L1 hp1 hW hS => ?_)
  obtain ⟨hF1, hO, hc1⟩ := hp1
  have hF := dkF_call hF hF1 rfl
  have eI1 : I0 = I1 := (dkF_nil hF1).symm
  subst eI1
  rcases hc1 with ⟨dv1, a1_0, x1_0, xr1, -⟩ | hc1
  ·
    have q2 : p0.toInt + 1 ≤ (0 : Int) := x1_0
    have xv1 : v1 = (-1000000) := by have h := xr1; exact h
    have d3 : dkN [(-2147483648, -1)] p0 := dkN_eq1 (dkN_top p0) a1_0 rfl rfl
    exact W.iret (v := v1) hx hb hr (fun t ht hW9 => ⟨⟨v1, I0, rfl, ⟨hF, hO, Or.inl ⟨dkN_sub dv1 rfl, dkN_sub d3 rfl, q2, xv1, trivial⟩⟩, dkW_eq ht hW⟩, hS.F ht⟩) hS.2.2 dX5_trace_8
  rcases hc1 with ⟨dv1, a1_0, x1_0, x1_1, xr1, -⟩ | hc1
  ·
    have q4 : (0 : Int) + 0 ≤ p0.toInt := x1_0
    have q5 : (I0 338 2).toInt + 0 ≤ p0.toInt := x1_1
    have xv1 : v1 = (-1000000) := by have h := xr1; exact h
    have d6 : dkN [(0, 2147483647)] p0 := dkN_eq1 (dkN_top p0) a1_0 rfl rfl
    exact W.iret (v := v1) hx hb hr (fun t ht hW9 => ⟨⟨v1, I0, rfl, ⟨hF, hO, Or.inr (Or.inl ⟨dkN_sub dv1 rfl, dkN_sub d6 rfl, q4, q5, xv1, trivial⟩)⟩, dkW_eq ht hW⟩, hS.F ht⟩) hS.2.2 dX5_trace_8
  ·
    obtain ⟨_, a1_0, f1_338_2, x1_0, x1_1, xr1, -⟩ := hc1
    have q7 : (0 : Int) + 0 ≤ p0.toInt := x1_0
    have q8 : p0.toInt + 1 ≤ (I0 338 2).toInt := x1_1
    have xv1 : v1 = I0 339 (Int32.toNatClampNeg p0) := by have h := xr1; exact h
    have d9 : dkN [(0, 15)] p0 := dkN_eq1 (dkN_top p0) a1_0 rfl rfl
    exact W.iret (v := v1) hx hb hr (fun t ht hW9 => ⟨⟨v1, I0, rfl, ⟨hF, hO, Or.inr (Or.inr (⟨trivial, dkN_sub d9 rfl, (show dkN [(1, 16)] (I0 338 2) from dkN_sub f1_338_2 rfl), q7, q8, xv1, trivial⟩))⟩, dkW_eq ht hW⟩, hS.F ht⟩) hS.2.2 dX5_trace_8
set_option maxHeartbeats 4000000 in
set_option maxRecDepth 100000 in
theorem fx_X6_in_40 (l : Launch) (g : dkG) (z : Nat) (I0 : dkI) (p0 : Int32) (p1 : Int32) (p2 : Int32) (dp1 : dkN [(0, 0)] p1) (dp2 : dkN [(-1, 15)] p2)  (hO : dkOk I0) : Met l yX6_in wsX6_in (dkR 0) (dkPc g z [.int p0, .int p1, .int p2] I0) (dkQi g z (fun r I1 => dkF [] I0 I1 ∧ dkOk I1 ∧ ((dkN [(0, 0)] r ∧ dkN [(-2147483648, -1)] p0 ∧ p0.toInt + 1 ≤ p1.toInt ∧ r = 0 ∧ True) ∨ (dkN [(0, 0)] r ∧ dkN [(0, 2147483647)] p0 ∧ p1.toInt + 0 ≤ p0.toInt ∧ p2.toInt + 1 ≤ p0.toInt ∧ r = 0 ∧ True) ∨ (dkN [(1, 1)] r ∧ dkN [(0, 15)] p0 ∧ dkN [(0, 15)] p2 ∧ p1.toInt + 0 ≤ p0.toInt ∧ p0.toInt + 0 ≤ p2.toInt ∧ r = 1 ∧ True)))) 0 0 (dkA z) := by
  refine Met.ofW (cc := cX6_in) (maxL := 3) (ret := (some .boolean)) (by decide) rfl ?_
  intro p e s m args below meth c s₁ B hml hv
  obtain ⟨ha, hW, hK, hT⟩ := hv
  have hx := B.exec
  have hb := B.bytes
  have hr := B.returns
  have hts := atoms_spec (ws := wsX6_in) B.pre
  have hown : s.vm.findClass RX6 = some m.cls := findClass_of_methodNamed B.named
  have hlocks := B.notSynchronized
  have hS : va_S (dkA z) s.heap s.heap [] := va_S.rf
  have hF : dkF [] I0 I0 := dkF_rf _ _
  have hl := lv_entry ([.int p0, .int p1, .int p2]) (n := 3) (Nat.le_of_ble_eq_true rfl)
  have hgo : entryFrame m args 3 = entryFrame m ([.int p0, .int p1, .int p2] : List Value).toArray 3 := by rw [ha]
  rw [hgo, lg_entry_eq]
  generalize (lg_sl ([.int p0, .int p1, .int p2]) ++ List.replicate (3 - (lg_sl ([.int p0, .int p1, .int p2])).length) Slot.unset).toArray = ls at hl ⊢
  have hl : lv_has ls 3 [(0, .int p0), (1, .int p1), (2, .int p2)] := hl
  refine lv_iload_n hx hb dX6_in_0 rfl (lv_at hl 0 rfl) ?_
  refine lv_iload_n hx hb dX6_in_1 rfl (lv_at hl 1 rfl) ?_
  refine lv_icmp_lt (tgt := 14) hx hb dX6_in_2 (by decide) (fun c1 => ?_) (fun c1 => ?_)
  ·
    have q2 : p0.toInt + 1 ≤ p1.toInt := (dkc_lt c1)
    have d3 : dkN [(-2147483648, -1)] p0 := dkN_le1 1 (dkN_top p0) dp1 (dkc_lt c1) rfl
    refine lv_iconst (v := 0) hx hb dX6_in_14 (by decide) ?_
    exact W.zret (v := 0) (ty := .boolean) hx hb hr rfl (fun t ht hW9 => ⟨⟨0, I0, rfl, ⟨hF, hO, Or.inl ⟨dkN_sub (dkN_lit (x := 0) (0) rfl) rfl, dkN_sub d3 rfl, q2, rfl, trivial⟩⟩, dkW_eq ht hW⟩, hS.F ht⟩) hS.2.2 dX6_in_15
  ·
    have q4 : p1.toInt + 0 ≤ p0.toInt := (dkc_nlt c1)
    have d5 : dkN [(0, 2147483647)] p0 := dkN_le2 0 dp1 (dkN_top p0) (dkc_nlt c1) rfl
    refine lv_iload_n hx hb dX6_in_5 rfl (lv_at hl 0 rfl) ?_
    refine lv_iload_n hx hb dX6_in_6 rfl (lv_at hl 2 rfl) ?_
    refine lv_icmp_gt (tgt := 14) hx hb dX6_in_7 (by decide) (fun c6 => ?_) (fun c6 => ?_)
    ·
      have q7 : p2.toInt + 1 ≤ p0.toInt := (dkc_lt c6)
      refine lv_iconst (v := 0) hx hb dX6_in_14 (by decide) ?_
      exact W.zret (v := 0) (ty := .boolean) hx hb hr rfl (fun t ht hW9 => ⟨⟨0, I0, rfl, ⟨hF, hO, Or.inr (Or.inl ⟨dkN_sub (dkN_lit (x := 0) (0) rfl) rfl, dkN_sub d5 rfl, q4, q7, rfl, trivial⟩)⟩, dkW_eq ht hW⟩, hS.F ht⟩) hS.2.2 dX6_in_15
    ·
      have q8 : p0.toInt + 0 ≤ p2.toInt := (dkc_nlt c6)
      have d9 : dkN [(0, 15)] p2 := dkN_le2 0 d5 dp2 (dkc_nlt c6) rfl
      have d10 : dkN [(0, 15)] p0 := dkN_le1 0 d5 dp2 (dkc_nlt c6) rfl
      refine lv_iconst (v := 1) hx hb dX6_in_10 (by decide) ?_
      refine lv_goto (tgt := 15) hx hb dX6_in_11 (by decide) ?_
      exact W.zret (v := 1) (ty := .boolean) hx hb hr rfl (fun t ht hW9 => ⟨⟨1, I0, rfl, ⟨hF, hO, Or.inr (Or.inr (⟨dkN_sub (dkN_lit (x := 1) (1) rfl) rfl, dkN_sub d10 rfl, dkN_sub d9 rfl, q4, q8, rfl, trivial⟩))⟩, dkW_eq ht hW⟩, hS.F ht⟩) hS.2.2 dX6_in_15
set_option maxHeartbeats 4000000 in
set_option maxRecDepth 100000 in
theorem fx_X6_trace_1 (l : Launch) (g : dkG) (z : Nat) (I0 : dkI) (p0 : Int32)  (hO : dkOk I0) : Met l yX6_trace wsX6_trace (dkR 1) (dkPc g z [.ref (z + 340), .int p0] I0) (dkQi g z (fun r I1 => dkF [] I0 I1 ∧ dkOk I1 ∧ ((dkN [(-1000000, -1000000)] r ∧ dkN [(-2147483648, -1)] p0 ∧ ((I0 340 25) - (1 : Int32)).toInt = (I0 340 25).toInt - (1 : Int) ∧ p0.toInt + 1 ≤ (0 : Int) ∧ r = (-1000000) ∧ True) ∨ (dkN [(-1000000, -1000000)] r ∧ dkN [(0, 2147483647)] p0 ∧ ((I0 340 25) - (1 : Int32)).toInt = (I0 340 25).toInt - (1 : Int) ∧ (0 : Int) + 0 ≤ p0.toInt ∧ ((I0 340 25) - (1 : Int32)).toInt + 1 ≤ p0.toInt ∧ r = (-1000000) ∧ True) ∨ (True ∧ dkN [(0, 15)] p0 ∧ ((I0 340 25) - (1 : Int32)).toInt = (I0 340 25).toInt - (1 : Int) ∧ (0 : Int) + 0 ≤ p0.toInt ∧ p0.toInt + 0 ≤ ((I0 340 25) - (1 : Int32)).toInt ∧ r = I0 353 (Int32.toNatClampNeg p0) ∧ True)))) 0 0 (dkA z) := by
  refine Met.ofW (cc := cX6_trace) (maxL := 2) (ret := (some .int)) (by decide) rfl ?_
  intro p e s m args below meth c s₁ B hml hv
  obtain ⟨ha, hW, hK, hT⟩ := hv
  have hx := B.exec
  have hb := B.bytes
  have hr := B.returns
  have hts := atoms_spec (ws := wsX6_trace) B.pre
  have hown : s.vm.findClass RX6 = some m.cls := findClass_of_methodNamed B.named
  have hlocks := B.notSynchronized
  have hS : va_S (dkA z) s.heap s.heap [] := va_S.rf
  have hF : dkF [] I0 I0 := dkF_rf _ _
  have hl := lv_entry ([.ref (z + 340), .int p0]) (n := 2) (Nat.le_of_ble_eq_true rfl)
  have hgo : entryFrame m args 2 = entryFrame m ([.ref (z + 340), .int p0] : List Value).toArray 2 := by rw [ha]
  rw [hgo, lg_entry_eq]
  generalize (lg_sl ([.ref (z + 340), .int p0]) ++ List.replicate (2 - (lg_sl ([.ref (z + 340), .int p0])).length) Slot.unset).toArray = ls at hl ⊢
  have hl : lv_has ls 2 [(0, .ref (z + 340)), (1, .int p0)] := hl
  refine lv_iload_n hx hb dX6_trace_0 rfl (lv_at hl 1 rfl) ?_
  refine lv_iconst (v := 0) hx hb dX6_trace_1 (by decide) ?_
  refine lv_aload_n hx hb dX6_trace_2 rfl (lv_at hl 0 rfl) ?_
  refine dk_get (k := 340) hx hb hts iX6_trace_6 hown hK (dk_at340 hW) rfl 25 (by decide) (hts (.fieldLink RX6 252 "DogKingsModel" "traced" "I") (List.mem_of_getElem? (i := 1) rfl)) rfl dX6_trace_3 ?_
  refine lv_topi (fun v1 ev1 => ?_)
  have dv1 : dkN [(0, 16)] v1 := by rw [ev1]; exact (hO 340 25)
  have xv1 : v1 = I0 340 25 := ev1.trans rfl
  refine lv_iconst (v := 1) hx hb dX6_trace_6 (by decide) ?_
  refine lv_isub hx hb dX6_trace_7 ?_
  refine lv_topi (fun v2 ev2 => ?_)
  have dv2 : dkN [(-1, 15)] v2 := by rw [ev2]; exact dkN_subt dv1 (dkN_lit (x := 1) (1) rfl) rfl
  have xv2 : v2 = (I0 340 25) - (1 : Int32) := by rw [ev2, xv1]
  have q3 : ((I0 340 25) - (1 : Int32)).toInt = (I0 340 25).toInt - (1 : Int) := by first | (rw [← xv2, ← xv1]; exact (by rw [ev2]; exact dk_subE dv1 (dkN_lit (x := 1) (1) rfl) rfl)) | (subst xv2 xv1; exact (by rw [ev2]; exact dk_subE dv1 (dkN_lit (x := 1) (1) rfl) rfl))
  refine dk_Si (As := [.int p0, .int 0, .int v2]) (rest := []) ⟨hx, hb, hml, hown, hts⟩ (fx_X6_in_40 l g z I0 p0 0 v2 (dkN_lit (x := 0) (0) rfl) dv2 hO) (va_cwS 3 hts gX6_trace_X6_in rfl rfl rfl (by decide +kernel) ⟨Nat.le_of_ble_eq_true rfl, Nat.le_of_ble_eq_true rfl⟩) hK hT hW hS rfl hl.1 rfl (Nat.le_of_ble_eq_true rfl) dX6_trace_8 ⟨Nat.zero_le _, Nat.zero_le _⟩ (fun v4 I4 H4 L4 hp4 hW hS => ?_)
  obtain ⟨hF4, hO, hc4⟩ := hp4
  have hF := dkF_call hF hF4 rfl
  have eI4 : I0 = I4 := (dkF_nil hF4).symm
  subst eI4
  rcases hc4 with ⟨dv4, a4_0, x4_0, xr4, -⟩ | hc4
  ·
    have q5 : p0.toInt + 1 ≤ (0 : Int) := x4_0
    have xv4 : v4 = 0 := by have h := xr4; exact h
    have d6 : dkN [(-2147483648, -1)] p0 := dkN_eq1 (dkN_top p0) a4_0 rfl rfl
    refine lv_if_eq (tgt := 23) hx hb dX6_trace_11 (by decide) (fun c7 => ?_) (fun c7 => ?_)
    ·
      refine lv_ldc (v := (-1000000)) hx hb hown (hts (.constant RX6 50 (-1000000)) (List.mem_of_getElem? (i := 3) rfl)) dX6_trace_23 ?_
      exact W.iret (v := (-1000000)) hx hb hr (fun t ht hW9 => ⟨⟨(-1000000), I0, rfl, ⟨hF, hO, Or.inl ⟨dkN_sub (dkN_lit (x := (-1000000)) (-1000000) rfl) rfl, dkN_sub d6 rfl, q3, q5, rfl, trivial⟩⟩, dkW_eq ht hW⟩, hS.F ht⟩) hS.2.2 dX6_trace_25
    ·
      exact absurd ((xv4).trans (rfl).symm) c7
  rcases hc4 with ⟨dv4, a4_0, x4_0, x4_1, xr4, -⟩ | hc4
  ·
    have q8 : (0 : Int) + 0 ≤ p0.toInt := x4_0
    have q9 : ((I0 340 25) - (1 : Int32)).toInt + 1 ≤ p0.toInt := by have h := x4_1; rw [xv2] at h; exact h
    have xv4 : v4 = 0 := by have h := xr4; exact h
    have d10 : dkN [(0, 2147483647)] p0 := dkN_eq1 (dkN_top p0) a4_0 rfl rfl
    refine lv_if_eq (tgt := 23) hx hb dX6_trace_11 (by decide) (fun c11 => ?_) (fun c11 => ?_)
    ·
      refine lv_ldc (v := (-1000000)) hx hb hown (hts (.constant RX6 50 (-1000000)) (List.mem_of_getElem? (i := 3) rfl)) dX6_trace_23 ?_
      exact W.iret (v := (-1000000)) hx hb hr (fun t ht hW9 => ⟨⟨(-1000000), I0, rfl, ⟨hF, hO, Or.inr (Or.inl ⟨dkN_sub (dkN_lit (x := (-1000000)) (-1000000) rfl) rfl, dkN_sub d10 rfl, q3, q8, q9, rfl, trivial⟩)⟩, dkW_eq ht hW⟩, hS.F ht⟩) hS.2.2 dX6_trace_25
    ·
      exact absurd ((xv4).trans (rfl).symm) c11
  ·
    obtain ⟨dv4, a4_0, a4_2, x4_0, x4_1, xr4, -⟩ := hc4
    have q12 : (0 : Int) + 0 ≤ p0.toInt := x4_0
    have q13 : p0.toInt + 0 ≤ ((I0 340 25) - (1 : Int32)).toInt := by have h := x4_1; rw [xv2] at h; exact h
    have xv4 : v4 = 1 := by have h := xr4; exact h
    have d14 : dkN [(0, 15)] p0 := dkN_eq1 (dkN_top p0) a4_0 rfl rfl
    have d15 : dkN [(0, 15)] v2 := dkN_eq1 dv2 a4_2 rfl rfl
    refine lv_if_eq (tgt := 23) hx hb dX6_trace_11 (by decide) (fun c16 => ?_) (fun c16 => ?_)
    ·
      exact (dkN_nil (show dkN [] v4 from dkN_eq1 dv4 (dkN_lit (x := 0) (0) rfl) (congrArg Int32.toInt c16) rfl)).elim
    ·
      refine lv_aload_n hx hb dX6_trace_14 rfl (lv_at hl 0 rfl) ?_
      refine dk_get (k := 340) hx hb hts iX6_trace_6 hown hK (dk_at340 hW) rfl 24 (by decide) (hts (.fieldLink RX6 47 "DogKingsModel" "trace" "[I") (List.mem_of_getElem? (i := 2) rfl)) rfl dX6_trace_15 ?_
      refine lv_iload_n hx hb dX6_trace_18 rfl (lv_at hl 1 rfl) ?_
      refine dk_ild (k := 353) hx hb hK (dk_at353 hW) (dkN_in (n := 16) d14 rfl) dX6_trace_19 ?_
      refine lv_topi (fun v17 ev17 => ?_)
      have xv17 : v17 = I0 353 (Int32.toNatClampNeg p0) := ev17.trans rfl
      refine lv_goto (tgt := 25) hx hb dX6_trace_20 (by decide) ?_
      exact W.iret (v := v17) hx hb hr (fun t ht hW9 => ⟨⟨v17, I0, rfl, ⟨hF, hO, Or.inr (Or.inr (⟨trivial, dkN_sub d14 rfl, q3, q12, q13, xv17, trivial⟩))⟩, dkW_eq ht hW⟩, hS.F ht⟩) hS.2.2 dX6_trace_25
set_option maxHeartbeats 4000000 in
set_option maxRecDepth 100000 in
theorem fx_X0_keep_1 (l : Launch) (g : dkG) (z : Nat) (I0 : dkI)  (hO : dkOk I0) (hP : dkQQ I0) : Met l yX0_keep wsX0_keep (dkR 1) (dkPc g z [.ref (z + 59), .ref (z + 25)] I0) (dkQv g z (fun I1 => dkF [(61, 324, 0, 2147483647), (59, 59, 1, 2)] I0 I1 ∧ dkOk I1 ∧ dkQQ I1 ∧ ((dkN [(1, 24)] (I1 59 2) ∧ True)))) 0 0 (dkA z) := by
  refine Met.ofW (cc := cX0_keep) (maxL := 2) (ret := none) (by decide) rfl ?_
  intro p e s m args below meth c s₁ B hml hv
  obtain ⟨ha, hW, hK, hT⟩ := hv
  have hx := B.exec
  have hb := B.bytes
  have hr := B.returns
  have hts := atoms_spec (ws := wsX0_keep) B.pre
  have hown : s.vm.findClass RX0 = some m.cls := findClass_of_methodNamed B.named
  have hlocks := B.notSynchronized
  have hS : va_S (dkA z) s.heap s.heap [] := va_S.rf
  have hF : dkF [(61, 324, 0, 2147483647), (59, 59, 1, 2)] I0 I0 := dkF_rf _ _
  have hl := lv_entry ([.ref (z + 59), .ref (z + 25)]) (n := 2) (Nat.le_of_ble_eq_true rfl)
  have hgo : entryFrame m args 2 = entryFrame m ([.ref (z + 59), .ref (z + 25)] : List Value).toArray 2 := by rw [ha]
  rw [hgo, lg_entry_eq]
  generalize (lg_sl ([.ref (z + 59), .ref (z + 25)]) ++ List.replicate (2 - (lg_sl ([.ref (z + 59), .ref (z + 25)])).length) Slot.unset).toArray = ls at hl ⊢
  have hl : lv_has ls 2 [(0, .ref (z + 59)), (1, .ref (z + 25))] := hl
  refine lv_aload_n hx hb dX0_keep_0 rfl (lv_at hl 0 rfl) ?_
  refine dk_get (k := 59) hx hb hts iX0_keep_0 hown hK (dk_at59 hW) rfl 0 (by decide) (hts (.fieldLink RX0 11 "DogKings$Acts" "before" "[LDogKings$Town;") (List.mem_of_getElem? (i := 1) rfl)) rfl dX0_keep_1 ?_
  refine lv_aload_n hx hb dX0_keep_4 rfl (lv_at hl 0 rfl) ?_
  refine dk_get (k := 59) hx hb hts iX0_keep_0 hown hK (dk_at59 hW) rfl 1 (by decide) (hts (.fieldLink RX0 16 "DogKings$Acts" "next" "I") (List.mem_of_getElem? (i := 2) rfl)) rfl dX0_keep_5 ?_
  refine lv_topi (fun v1 ev1 => ?_)
  have dv1 : dkN [(0, 23)] v1 := by rw [ev1]; exact (hO 59 1)
  have xv1 : v1 = I0 59 1 := ev1.trans rfl
  obtain ⟨tf2, htf2, etf2, hlotf2, hhitf2⟩ := dk_townAt60 (z := z) (dkN_in (n := 24) dv1 rfl)
  refine dk_tld (r := z + tf2) hx hb hK (dk_at60 hW) (dkN_in (n := 24) dv1 rfl) etf2 dX0_keep_8 ?_
  refine lv_aload_n hx hb dX0_keep_9 rfl (lv_at hl 1 rfl) ?_
  refine dk_Vv (As := [.ref (z + 25)]) (rest := []) ⟨hx, hb, hml, hown, hts⟩ (fx_X4_become_1 l g z I0 tf2 htf2 (25) (by unfold dkT; omega) (by omega) hO) (cwV 1 hts gX0_keep_X4_become rfl rfl rfl (by decide +kernel) ⟨Nat.le_of_ble_eq_true rfl, Nat.le_of_ble_eq_true rfl⟩) (dk_aT0 htf2 hW) rfl hK hT hW hS rfl hl.1 rfl (Nat.le_of_ble_eq_true rfl) dX0_keep_10 ⟨Nat.zero_le _, Nat.zero_le _⟩ (fun I3 H3 L3 hp3 hW hS => ?_)
  obtain ⟨hF3, hO, hc3⟩ := hp3
  have hF := dkF_hullP (lo := 61) (hi := 324) hF hF3 (dkHull_cons (by omega) (by omega) (by decide) (dkHull_cons (by omega) (by omega) (by decide) (dkHull_cons (by omega) (by omega) (by decide) (dkHull_cons (by omega) (by omega) (by decide) (dkHull_cons (by omega) (by omega) (by decide) (dkHull_cons (by omega) (by omega) (by decide) (dkHull_cons (by omega) (by omega) (by decide) (dkHull_cons (by omega) (by omega) (by decide) (dkHull_cons (by omega) (by omega) (by decide) (dkHull_cons (by omega) (by omega) (by decide) (dkHull_cons (by omega) (by omega) (by decide) (dkHull_cons (by omega) (by omega) (by decide) dkHull_nil)))))))))))) rfl
  obtain ⟨xh3_0, xh3_1, xh3_2, xp3_0, -⟩ := hc3
  have y4 : I3 tf2 0 = I0 25 0 := by have h := xh3_0; exact h
  have y5 : I3 tf2 4 = I0 25 4 := by have h := xh3_1; exact h
  have y6 : I3 tf2 11 = I0 25 11 := by have h := xh3_2; exact h
  have yp7 : ∀ j : Nat, j < Int32.toNatClampNeg (I0 25 11) → I3 (tf2 + 7) j = I0 32 j := by have h := xp3_0; exact h
  refine lv_aload_n hx hb dX0_keep_13 rfl (lv_at hl 0 rfl) ?_
  refine lv_aload_n hx hb dX0_keep_14 rfl (lv_at hl 0 rfl) ?_
  refine dk_get (k := 59) hx hb hts iX0_keep_0 hown hK (dk_at59 hW) rfl 1 (by decide) (hts (.fieldLink RX0 16 "DogKings$Acts" "next" "I") (List.mem_of_getElem? (i := 2) rfl)) rfl dX0_keep_15 ?_
  refine lv_topi (fun v8 ev8 => ?_)
  have dv8 : dkN [(0, 23)] v8 := by rw [ev8]; exact (hO 59 1)
  have xv8 : v8 = I0 59 1 := ev8.trans ((hF3 59 1 (dkNin_n (by omega) (dkNin_n (by omega) (dkNin_n (by omega) (dkNin_n (by omega) (dkNin_n (by omega) (dkNin_n (by omega) (dkNin_n (by omega) (dkNin_n (by omega) (dkNin_n (by omega) (dkNin_n (by omega) (dkNin_n (by omega) (dkNin_n (by omega) dkNin_nil))))))))))))).trans rfl)
  refine lv_iconst (v := 1) hx hb dX0_keep_18 (by decide) ?_
  refine lv_iadd hx hb dX0_keep_19 ?_
  refine lv_topi (fun v9 ev9 => ?_)
  have dv9 : dkN [(1, 24)] v9 := by rw [ev9]; exact dkN_add dv8 (dkN_lit (x := 1) (1) rfl) rfl
  have xv9 : v9 = (I0 59 1) + (1 : Int32) := by rw [ev9, xv8]
  have q10 : ((I0 59 1) + (1 : Int32)).toInt = (I0 59 1).toInt + (1 : Int) := by first | (rw [← xv9, ← xv8]; exact (by rw [ev9]; exact dk_addE dv8 (dkN_lit (x := 1) (1) rfl) rfl)) | (subst xv9 xv8; exact (by rw [ev9]; exact dk_addE dv8 (dkN_lit (x := 1) (1) rfl) rfl))
  refine lv_bipush (v := 24) hx hb dX0_keep_20 (by decide) ?_
  refine lv_irem hx hb dX0_keep_22 (dkN_ne0 (dkN_lit (x := 24) (24) rfl) rfl) ?_
  refine lv_topi (fun v11 ev11 => ?_)
  have dv11 : dkN [(0, 23)] v11 := by rw [ev11]; exact dkN_rem 24 (by decide) dv9 (dkN_lit (x := 24) (24) rfl) rfl
  have xv11 : v11 = ((I0 59 1) + (1 : Int32)) - ((I0 59 1) + (1 : Int32)) / (24 : Int32) * (24 : Int32) := by rw [ev11, xv9]
  refine dk_put (k := 59) hx hb hts iX0_keep_0 tyX0 tyX0_ok nmX0 hown hK hW (dk_at59 hW) hS rfl 1 (by decide) (hts (.fieldLink RX0 16 "DogKings$Acts" "next" "I") (List.mem_of_getElem? (i := 2) rfl)) rfl rfl (Nat.le_of_ble_eq_true rfl) rfl dX0_keep_23 (fun I12 H12 L12 eI12 hW hS => ?_)
  have eI12 : I12 = dkU I3 59 1 v11 := eI12
  have hO := dkO_set hO eI12 (dkN_sub dv11 rfl)
  have hF := dkF_set hF eI12 rfl
  refine lv_aload_n hx hb dX0_keep_26 rfl (lv_at hl 0 rfl) ?_
  refine lv_aload_n hx hb dX0_keep_27 rfl (lv_at hl 0 rfl) ?_
  refine dk_get (k := 59) hx hb hts iX0_keep_0 hown hK (dk_at59 hW) rfl 2 (by decide) (hts (.fieldLink RX0 24 "DogKings$Acts" "kept" "I") (List.mem_of_getElem? (i := 3) rfl)) rfl dX0_keep_28 ?_
  refine lv_topi (fun v13 ev13 => ?_)
  have dv13 : dkN [(0, 24)] v13 := by rw [ev13]; exact (hO 59 2)
  have xv13 : v13 = I0 59 2 := ev13.trans ((by rw [eI12, dkU_sn (by decide)] : I12 59 2 = _).trans ((hF3 59 2 (dkNin_n (by omega) (dkNin_n (by omega) (dkNin_n (by omega) (dkNin_n (by omega) (dkNin_n (by omega) (dkNin_n (by omega) (dkNin_n (by omega) (dkNin_n (by omega) (dkNin_n (by omega) (dkNin_n (by omega) (dkNin_n (by omega) (dkNin_n (by omega) dkNin_nil))))))))))))).trans rfl))
  refine lv_iconst (v := 1) hx hb dX0_keep_31 (by decide) ?_
  refine lv_iadd hx hb dX0_keep_32 ?_
  refine lv_topi (fun v14 ev14 => ?_)
  have dv14 : dkN [(1, 25)] v14 := by rw [ev14]; exact dkN_add dv13 (dkN_lit (x := 1) (1) rfl) rfl
  have xv14 : v14 = (I0 59 2) + (1 : Int32) := by rw [ev14, xv13]
  have q15 : ((I0 59 2) + (1 : Int32)).toInt = (I0 59 2).toInt + (1 : Int) := by first | (rw [← xv14, ← xv13]; exact (by rw [ev14]; exact dk_addE dv13 (dkN_lit (x := 1) (1) rfl) rfl)) | (subst xv14 xv13; exact (by rw [ev14]; exact dk_addE dv13 (dkN_lit (x := 1) (1) rfl) rfl))
  refine lv_bipush (v := 24) hx hb dX0_keep_33 (by decide) ?_
  refine va_mmin hx hb (by rw [hml]; exact hl.1.symm) hown (hts (.methodLink RX0 27 Lib.Math.min.name) (List.mem_of_getElem? (i := 4) rfl)) (hts (.static Lib.Math.min.name) (List.mem_of_getElem? (i := 5) rfl)) (hts (.initialized "java/lang/Math") (List.mem_of_getElem? (i := 6) rfl)) (hts (.code Lib.Math.min.name Lib.Math.min.code 2 (some .int)) (List.mem_of_getElem? (i := 7) rfl)) (Nat.le_of_ble_eq_true rfl) (Nat.le_of_ble_eq_true rfl) (Nat.zero_le _) (Nat.zero_le _) dX0_keep_35 ?_
  refine lv_topi (fun v16 ev16 => ?_)
  have dv16 : dkN [(1, 24)] v16 := by rw [ev16]; exact dkN_min dv14 (dkN_lit (x := 24) (24) rfl) rfl
  refine dk_put (k := 59) hx hb hts iX0_keep_0 tyX0 tyX0_ok nmX0 hown hK hW (dk_at59 hW) hS rfl 2 (by decide) (hts (.fieldLink RX0 24 "DogKings$Acts" "kept" "I") (List.mem_of_getElem? (i := 3) rfl)) rfl rfl (Nat.le_of_ble_eq_true rfl) rfl dX0_keep_38 (fun I17 H17 L17 eI17 hW hS => ?_)
  have eI17 : I17 = dkU I12 59 2 v16 := eI17
  have hO := dkO_set hO eI17 (dkN_sub dv16 rfl)
  have hF := dkF_set hF eI17 rfl
  have hO0 := ‹dkOk I0›
  have hb1 := dkN_lo (b := 0) (show dkN [(0, 23)] (I0 59 1) from hO0 59 1) rfl
  have hb2 := dkN_hi (b := 23) (show dkN [(0, 23)] (I0 59 1) from hO0 59 1) rfl
  have hb3 := dkN_lo (b := 0) (show dkN [(0, 24)] (I0 59 2) from hO0 59 2) rfl
  have hy1 := dkN_hi (b := 24) dv16 rfl
  have hy2 := dkN_lo (b := 0) dv16 rfl
  have hy3 : v16.toInt ≤ (I0 59 2).toInt + 1 := by have h1 := (show v16.toInt ≤ v14.toInt by rw [ev16]; exact dk_minle); rw [xv14] at h1; omega
  have hP := dkQQ_keep ‹dkQQ I0› (dk_tIdx (i := I0 59 1) (by have h1 := etf2; rw [xv1] at h1; exact h1)) (fun k j h => hF3 k j (dkNin_n (by omega) (dkNin_n (by omega) (dkNin_n (by omega) (dkNin_n (by omega) (dkNin_n (by omega) (dkNin_n (by omega) (dkNin_n (by omega) (dkNin_n (by omega) (dkNin_n (by omega) (dkNin_n (by omega) (dkNin_n (by omega) (dkNin_n (by omega) dkNin_nil))))))))))))) xh3_0 xh3_1 xh3_2 (fun j hj => xp3_0 j hj) eI12 (by have h1 := dk_remN ev11 (by rw [xv9]; omega) rfl; rw [xv9] at h1; have h2 : Int32.toNatClampNeg (I0 59 1) = (I0 59 1).toInt.toNat := rfl; omega) eI17 (by have h2 : Int32.toNatClampNeg (I0 59 2) = (I0 59 2).toInt.toNat := rfl; have h3 : Int32.toNatClampNeg v16 = v16.toInt.toNat := rfl; omega) (by have h3 : Int32.toNatClampNeg v16 = v16.toInt.toNat := rfl; omega) (by have h2 : Int32.toNatClampNeg (I0 59 1) = (I0 59 1).toInt.toNat := rfl; omega)
  exact W.vret hx hb hr (fun t ht hW9 => ⟨⟨I17, rfl, ⟨hF, hO, hP, ⟨(show dkN [(1, 24)] (I17 59 2) from dkN_sub (by rw [eI17, dkU_ss]; exact dv16) rfl), trivial⟩⟩, dkW_eq ht hW⟩, hS.F ht⟩) hS.2.2 dX0_keep_41
set_option maxHeartbeats 4000000 in
set_option maxRecDepth 100000 in
theorem c_X5_minutes_1 (l : Launch) (g : dkG) (z : Nat) (I0 : dkI) (p0 : Int32)  (hO : dkOk I0) (hP : dkQQ I0) : Met l yX5_minutes wsX5_minutes (dkR 5) (dkPc g z [.ref (z + 0), .int p0] I0) (dkQi g z (fun r I1 => dkF [(61, 324, 0, 2147483647), (25, 25, 2, 3), (28, 28, 0, 4), (30, 30, 0, 4), (31, 31, 0, 4), (34, 34, 0, 5), (35, 35, 0, 8), (59, 59, 1, 2)] I0 I1 ∧ dkOk I1 ∧ dkQQ I1 ∧ ((True ∧ True)))) 0 0 (dkA z) := by
  refine Met.ofW (cc := cX5_minutes) (maxL := 3) (ret := (some .int)) (by decide) rfl ?_
  intro p e s m args below meth c s₁ B hml hv
  obtain ⟨ha, hW, hK, hT⟩ := hv
  have hx := B.exec
  have hb := B.bytes
  have hr := B.returns
  have hts := atoms_spec (ws := wsX5_minutes) B.pre
  have hown : s.vm.findClass RX5 = some m.cls := findClass_of_methodNamed B.named
  have hlocks := B.notSynchronized
  have hS : va_S (dkA z) s.heap s.heap [] := va_S.rf
  have hF : dkF [(61, 324, 0, 2147483647), (25, 25, 2, 3), (28, 28, 0, 4), (30, 30, 0, 4), (31, 31, 0, 4), (34, 34, 0, 5), (35, 35, 0, 8), (59, 59, 1, 2)] I0 I0 := dkF_rf _ _
  have hl := lv_entry ([.ref (z + 0), .int p0]) (n := 3) (Nat.le_of_ble_eq_true rfl)
  have hgo : entryFrame m args 3 = entryFrame m ([.ref (z + 0), .int p0] : List Value).toArray 3 := by rw [ha]
  rw [hgo, lg_entry_eq]
  generalize (lg_sl ([.ref (z + 0), .int p0]) ++ List.replicate (3 - (lg_sl ([.ref (z + 0), .int p0])).length) Slot.unset).toArray = ls at hl ⊢
  have hl : lv_has ls 3 [(0, .ref (z + 0)), (1, .int p0)] := hl
  have C45 : ∀ (n : Nat), ∀ (I : dkI) (H : Heap) (locs : List Loc) (ls : Array Slot) (x45_2 : Int32), (24 - x45_2.toInt).toNat < n → dkW g z I H → va_S (dkA z) s.heap H locs → dkF [(61, 324, 0, 2147483647), (25, 25, 2, 3), (28, 28, 0, 4), (30, 30, 0, 4), (31, 31, 0, 4), (34, 34, 0, 5), (35, 35, 0, 8), (59, 59, 1, 2)] I0 I → dkOk I → dkQQ I → dkN [(0, 24)] x45_2 → dkN [(1, 24)] p0 → dkN [(1, 9)] (I 25 0) → lv_has ls 3 [(0, .ref (z + 0)), (1, .int p0), (2, .int x45_2)] → W p l e (headSpec wsX5_minutes (dkR 5)).room s m args below meth c H locs 0 0 (MQ below (dkQi g z (fun r I1 => dkF [(61, 324, 0, 2147483647), (25, 25, 2, 3), (28, 28, 0, 4), (30, 30, 0, 4), (31, 31, 0, 4), (34, 34, 0, 5), (35, 35, 0, 8), (59, 59, 1, 2)] I0 I1 ∧ dkOk I1 ∧ dkQQ I1 ∧ ((True ∧ True)))) args s 0 0 (dkA z)) (F0 m 45 ls []) := by
    intro n
    induction n with
    | zero => intro I H locs ls x45_2 hn; exact absurd hn (Nat.not_lt_zero _)
    | succ n ih45 =>
      intro I45_ H locs ls x45_2 hn45 hW hS hF_45 hO hP k45_0 r45_0 f45_0 hl
      have hF := hF_45
      refine lv_iload_n hx hb dX5_minutes_45 rfl (lv_at hl 2 rfl) ?_
      refine lv_iload_n hx hb dX5_minutes_46 rfl (lv_at hl 1 rfl) ?_
      refine lv_icmp_ge (tgt := 75) hx hb dX5_minutes_47 (by decide) (fun c1 => ?_) (fun c1 => ?_)
      ·
        have d2 : dkN [(1, 24)] x45_2 := dkN_le2 0 r45_0 k45_0 (dkc_le c1) rfl
        refine lv_aload_n hx hb dX5_minutes_75 rfl (lv_at hl 0 rfl) ?_
        refine dk_get (k := 0) hx hb hts iX5_minutes_5 hown hK (dk_at0 hW) rfl 5 (by decide) (hts (.fieldLink RX5 31 "DogKings" "now" "LDogKings$Town;") (List.mem_of_getElem? (i := 1) rfl)) rfl dX5_minutes_76 ?_
        refine dk_get (k := 25) hx hb hts iX5_minutes_4 hown hK (dk_at25 hW) rfl 2 (by decide) (hts (.fieldLink RX5 130 "DogKings$Town" "friday" "I") (List.mem_of_getElem? (i := 4) rfl)) rfl dX5_minutes_79 ?_
        refine lv_topi (fun v3 ev3 => ?_)
        exact W.iret (v := v3) hx hb hr (fun t ht hW9 => ⟨⟨v3, I45_, rfl, ⟨hF, hO, hP, ⟨trivial, trivial⟩⟩, dkW_eq ht hW⟩, hS.F ht⟩) hS.2.2 dX5_minutes_82
      ·
        have d4 : dkN [(0, 23)] x45_2 := dkN_le1 1 k45_0 r45_0 (dkc_nle c1) rfl
        refine lv_aload_n hx hb dX5_minutes_50 rfl (lv_at hl 0 rfl) ?_
        refine dk_get (k := 0) hx hb hts iX5_minutes_5 hown hK (dk_at0 hW) rfl 7 (by decide) (hts (.fieldLink RX5 42 "DogKings" "acts" "LDogKings$Acts;") (List.mem_of_getElem? (i := 6) rfl)) rfl dX5_minutes_51 ?_
        refine lv_aload_n hx hb dX5_minutes_54 rfl (lv_at hl 0 rfl) ?_
        refine dk_get (k := 0) hx hb hts iX5_minutes_5 hown hK (dk_at0 hW) rfl 5 (by decide) (hts (.fieldLink RX5 31 "DogKings" "now" "LDogKings$Town;") (List.mem_of_getElem? (i := 1) rfl)) rfl dX5_minutes_55 ?_
        refine dk_Vv (As := [.ref (z + 25)]) (rest := []) ⟨hx, hb, hml, hown, hts⟩ (fx_X0_keep_1 l g z I45_ hO hP) (cwV 1 hts gX5_minutes_X0_keep rfl rfl rfl (by decide +kernel) ⟨Nat.le_of_ble_eq_true rfl, Nat.le_of_ble_eq_true rfl⟩) (dk_at59 hW) rfl hK hT hW hS rfl hl.1 rfl (Nat.le_of_ble_eq_true rfl) dX5_minutes_58 ⟨Nat.zero_le _, Nat.zero_le _⟩ (fun I5 H5 L5 hp5 hW hS => ?_)
        obtain ⟨hF5, hO, hP, hc5⟩ := hp5
        have hF := dkF_call hF hF5 rfl
        obtain ⟨f5_59_2, -⟩ := hc5
        refine lv_aload_n hx hb dX5_minutes_61 rfl (lv_at hl 0 rfl) ?_
        refine dk_get (k := 0) hx hb hts iX5_minutes_5 hown hK (dk_at0 hW) rfl 5 (by decide) (hts (.fieldLink RX5 31 "DogKings" "now" "LDogKings$Town;") (List.mem_of_getElem? (i := 1) rfl)) rfl dX5_minutes_62 ?_
        refine dk_Vi (As := []) (rest := []) ⟨hx, hb, hml, hown, hts⟩ (c_X4_pass_0 l g z I5 (25) (by unfold dkT; omega) hO) (cwV 0 hts gX5_minutes_X4_pass rfl rfl rfl (by decide +kernel) ⟨Nat.le_of_ble_eq_true rfl, Nat.le_of_ble_eq_true rfl⟩) (dk_at25 hW) rfl hK hT hW hS rfl hl.1 rfl (Nat.le_of_ble_eq_true rfl) dX5_minutes_65 ⟨Nat.zero_le _, Nat.zero_le _⟩ (fun v6 I6 H6 L6 hp6 hW hS => ?_)
        obtain ⟨hF6, hO, hc6⟩ := hp6
        have hF := dkF_call hF hF6 rfl
        have hP := dkQQ_F hP hF6 rfl
        obtain ⟨dv6, f6_25_3, -⟩ := hc6
        refine lv_pop hx hb dX5_minutes_68 rfl ?_
        obtain ⟨v7, ev7⟩ : ∃ y : Int32, y = x45_2 + 1 := ⟨_, rfl⟩
        have dv7 : dkN [(1, 24)] v7 := by rw [ev7]; exact dkN_add d4 (dkN_lit (x := 1) (1) rfl) rfl
        refine lv_iinc (v := v7) (lv' := [(2, .int v7), (0, .ref (z + 0)), (1, .int p0)]) hx hb dX5_minutes_69 hl (k := 2) rfl (by rw [ev7]; rfl) (by decide) rfl (fun ls hl => ?_)
        refine lv_goto (tgt := 45) hx hb dX5_minutes_72 (by decide) ?_
        exact ih45 I6 _ _ ls v7 (dk_near hn45 (by rw [ev7]; exact dk_inc d4 rfl) (dkN_lt d4 rfl)) hW hS hF hO hP (dkN_sub dv7 rfl) (dkN_sub r45_0 rfl) (show dkN [(1, 9)] (I6 25 0) from dkN_sub (by rw [hF6 25 0 rfl]; exact (by rw [hF5 25 0 rfl]; exact f45_0)) rfl) (lv_sub hl [1, 2, 0] rfl)
  refine lv_aload_n hx hb dX5_minutes_0 rfl (lv_at hl 0 rfl) ?_
  refine dk_get (k := 0) hx hb hts iX5_minutes_5 hown hK (dk_at0 hW) rfl 5 (by decide) (hts (.fieldLink RX5 31 "DogKings" "now" "LDogKings$Town;") (List.mem_of_getElem? (i := 1) rfl)) rfl dX5_minutes_1 ?_
  refine dk_Vi (As := []) (rest := []) ⟨hx, hb, hml, hown, hts⟩ (c_X4_stands_0 l g z I0 (25) (by unfold dkT; omega) hO) (cwV 0 hts gX5_minutes_X4_stands rfl rfl rfl (by decide +kernel) ⟨Nat.le_of_ble_eq_true rfl, Nat.le_of_ble_eq_true rfl⟩) (dk_at25 hW) rfl hK hT hW hS rfl hl.1 rfl (Nat.le_of_ble_eq_true rfl) dX5_minutes_4 ⟨Nat.zero_le _, Nat.zero_le _⟩ (fun v8 I8 H8 L8 hp8 hW hS => ?_)
  obtain ⟨hF8, hO, hc8⟩ := hp8
  have hF := dkF_call hF hF8 rfl
  have hP := dkQQ_F hP hF8 rfl
  rcases hc8 with ⟨dv8, f8_25_0, -⟩ | hc8
  ·
    refine lv_if_ne (tgt := 13) hx hb dX5_minutes_7 (by decide) (fun c9 => ?_) (fun c9 => ?_)
    ·
      exact (dkN_nil (show dkN [] v8 from dkN_ne1 (0) dv8 (dkN_lit (x := 0) (0) rfl) (dk_ne c9) rfl)).elim
    ·
      refine lv_ldc (v := (-1000002)) hx hb hown (hts (.constant RX5 129 (-1000002)) (List.mem_of_getElem? (i := 2) rfl)) dX5_minutes_10 ?_
      exact W.iret (v := (-1000002)) hx hb hr (fun t ht hW9 => ⟨⟨(-1000002), I8, rfl, ⟨hF, hO, hP, ⟨trivial, trivial⟩⟩, dkW_eq ht hW⟩, hS.F ht⟩) hS.2.2 dX5_minutes_12
  ·
    obtain ⟨dv8, f8_25_0, -⟩ := hc8
    refine lv_if_ne (tgt := 13) hx hb dX5_minutes_7 (by decide) (fun c10 => ?_) (fun c10 => ?_)
    ·
      refine lv_iload_n hx hb dX5_minutes_13 rfl (lv_at hl 1 rfl) ?_
      refine lv_iconst (v := 1) hx hb dX5_minutes_14 (by decide) ?_
      refine lv_icmp_lt (tgt := 24) hx hb dX5_minutes_15 (by decide) (fun c11 => ?_) (fun c11 => ?_)
      ·
        have d12 : dkN [(-2147483648, 0)] p0 := dkN_le1 1 (dkN_top p0) (dkN_lit (x := 1) (1) rfl) (dkc_lt c11) rfl
        refine lv_ldc (v := (-1000001)) hx hb hown (hts (.constant RX5 70 (-1000001)) (List.mem_of_getElem? (i := 3) rfl)) dX5_minutes_24 ?_
        exact W.iret (v := (-1000001)) hx hb hr (fun t ht hW9 => ⟨⟨(-1000001), I8, rfl, ⟨hF, hO, hP, ⟨trivial, trivial⟩⟩, dkW_eq ht hW⟩, hS.F ht⟩) hS.2.2 dX5_minutes_26
      ·
        have d13 : dkN [(1, 2147483647)] p0 := dkN_le2 0 (dkN_lit (x := 1) (1) rfl) (dkN_top p0) (dkc_nlt c11) rfl
        refine lv_iload_n hx hb dX5_minutes_18 rfl (lv_at hl 1 rfl) ?_
        refine lv_bipush (v := 24) hx hb dX5_minutes_19 (by decide) ?_
        refine lv_icmp_le (tgt := 27) hx hb dX5_minutes_21 (by decide) (fun c14 => ?_) (fun c14 => ?_)
        ·
          have d15 : dkN [(1, 24)] p0 := dkN_le1 0 d13 (dkN_lit (x := 24) (24) rfl) (dkc_le c14) rfl
          refine lv_aload_n hx hb dX5_minutes_27 rfl (lv_at hl 0 rfl) ?_
          refine dk_get (k := 0) hx hb hts iX5_minutes_5 hown hK (dk_at0 hW) rfl 5 (by decide) (hts (.fieldLink RX5 31 "DogKings" "now" "LDogKings$Town;") (List.mem_of_getElem? (i := 1) rfl)) rfl dX5_minutes_28 ?_
          refine dk_get (k := 25) hx hb hts iX5_minutes_4 hown hK (dk_at25 hW) rfl 2 (by decide) (hts (.fieldLink RX5 130 "DogKings$Town" "friday" "I") (List.mem_of_getElem? (i := 4) rfl)) rfl dX5_minutes_31 ?_
          refine lv_topi (fun v16 ev16 => ?_)
          refine lv_sipush (v := 999) hx hb dX5_minutes_34 (by decide) ?_
          refine lv_icmp_lt (tgt := 43) hx hb dX5_minutes_37 (by decide) (fun c17 => ?_) (fun c17 => ?_)
          ·
            have d18 : dkN [(-2147483648, 998)] v16 := dkN_le1 1 (dkN_top v16) (dkN_lit (x := 999) (999) rfl) (dkc_lt c17) rfl
            have f19 : dkN [(-2147483648, 998)] (I8 25 2) := by rw [← ev16]; exact d18
            refine lv_iconst (v := 0) hx hb dX5_minutes_43 (by decide) ?_
            refine lv_istore_n (lv' := [(2, .int 0), (0, .ref (z + 0)), (1, .int p0)]) hx hb dX5_minutes_44 rfl hl (by decide) rfl (fun ls hl => ?_)
            exact C45 _ I8 _ _ ls 0 (Nat.lt_succ_self _) hW hS hF hO hP (dkN_sub (dkN_lit (x := 0) (0) rfl) rfl) (dkN_sub d15 rfl) (show dkN [(1, 9)] (I8 25 0) from dkN_sub f8_25_0 rfl) (lv_sub hl [1, 2, 0] rfl)
          ·
            have d20 : dkN [(999, 2147483647)] v16 := dkN_le2 0 (dkN_lit (x := 999) (999) rfl) (dkN_top v16) (dkc_nlt c17) rfl
            have f21 : dkN [(999, 2147483647)] (I8 25 2) := by rw [← ev16]; exact d20
            refine lv_ldc (v := (-1000003)) hx hb hown (hts (.constant RX5 99 (-1000003)) (List.mem_of_getElem? (i := 5) rfl)) dX5_minutes_40 ?_
            exact W.iret (v := (-1000003)) hx hb hr (fun t ht hW9 => ⟨⟨(-1000003), I8, rfl, ⟨hF, hO, hP, ⟨trivial, trivial⟩⟩, dkW_eq ht hW⟩, hS.F ht⟩) hS.2.2 dX5_minutes_42
        ·
          have d22 : dkN [(25, 2147483647)] p0 := dkN_le2 1 (dkN_lit (x := 24) (24) rfl) d13 (dkc_nle c14) rfl
          refine lv_ldc (v := (-1000001)) hx hb hown (hts (.constant RX5 70 (-1000001)) (List.mem_of_getElem? (i := 3) rfl)) dX5_minutes_24 ?_
          exact W.iret (v := (-1000001)) hx hb hr (fun t ht hW9 => ⟨⟨(-1000001), I8, rfl, ⟨hF, hO, hP, ⟨trivial, trivial⟩⟩, dkW_eq ht hW⟩, hS.F ht⟩) hS.2.2 dX5_minutes_26
    ·
      exact (dkN_nil (show dkN [] v8 from dkN_eq1 dv8 (dkN_lit (x := 0) (0) rfl) (congrArg Int32.toInt c10) rfl)).elim
set_option maxHeartbeats 4000000 in
set_option maxRecDepth 100000 in
theorem c_X5_bones_1 (l : Launch) (g : dkG) (z : Nat) (I0 : dkI) (p0 : Int32) (p1 : Int32)  (hO : dkOk I0) (hP : dkQQ I0) : Met l yX5_bones wsX5_bones (dkR 2) (dkPc g z [.ref (z + 0), .int p0, .int p1] I0) (dkQi g z (fun r I1 => dkF [(61, 324, 0, 2147483647), (29, 29, 0, 4), (59, 59, 1, 2)] I0 I1 ∧ dkOk I1 ∧ dkQQ I1 ∧ ((True ∧ True)))) 0 0 (dkA z) := by
  refine Met.ofW (cc := cX5_bones) (maxL := 4) (ret := (some .int)) (by decide) rfl ?_
  intro p e s m args below meth c s₁ B hml hv
  obtain ⟨ha, hW, hK, hT⟩ := hv
  have hx := B.exec
  have hb := B.bytes
  have hr := B.returns
  have hts := atoms_spec (ws := wsX5_bones) B.pre
  have hown : s.vm.findClass RX5 = some m.cls := findClass_of_methodNamed B.named
  have hlocks := B.notSynchronized
  have hS : va_S (dkA z) s.heap s.heap [] := va_S.rf
  have hF : dkF [(61, 324, 0, 2147483647), (29, 29, 0, 4), (59, 59, 1, 2)] I0 I0 := dkF_rf _ _
  have hl := lv_entry ([.ref (z + 0), .int p0, .int p1]) (n := 4) (Nat.le_of_ble_eq_true rfl)
  have hgo : entryFrame m args 4 = entryFrame m ([.ref (z + 0), .int p0, .int p1] : List Value).toArray 4 := by rw [ha]
  rw [hgo, lg_entry_eq]
  generalize (lg_sl ([.ref (z + 0), .int p0, .int p1]) ++ List.replicate (4 - (lg_sl ([.ref (z + 0), .int p0, .int p1])).length) Slot.unset).toArray = ls at hl ⊢
  have hl : lv_has ls 4 [(0, .ref (z + 0)), (1, .int p0), (2, .int p1)] := hl
  refine lv_aload_n hx hb dX5_bones_0 rfl (lv_at hl 0 rfl) ?_
  refine lv_iload_n hx hb dX5_bones_1 rfl (lv_at hl 1 rfl) ?_
  refine dk_Vi (As := [.int p0]) (rest := []) ⟨hx, hb, hml, hown, hts⟩ (c_X5_isPerson_0 l g z I0 p0 hO) (cwV 1 hts gX5_bones_X5_isPerson rfl rfl rfl (by decide +kernel) ⟨Nat.le_of_ble_eq_true rfl, Nat.le_of_ble_eq_true rfl⟩) (dk_at0 hW) rfl hK hT hW hS rfl hl.1 rfl (Nat.le_of_ble_eq_true rfl) dX5_bones_2 ⟨Nat.zero_le _, Nat.zero_le _⟩ (fun v1 I1 H1 L1 hp1 hW hS => ?_)
  obtain ⟨hF1, hO, hc1⟩ := hp1
  have hF := dkF_call hF hF1 rfl
  have hP := dkQQ_F hP hF1 rfl
  rcases hc1 with ⟨dv1, -⟩ | hc1
  ·
    refine lv_if_eq (tgt := 17) hx hb dX5_bones_5 (by decide) (fun c2 => ?_) (fun c2 => ?_)
    ·
      refine lv_ldc (v := (-1000001)) hx hb hown (hts (.constant RX5 70 (-1000001)) (List.mem_of_getElem? (i := 1) rfl)) dX5_bones_17 ?_
      exact W.iret (v := (-1000001)) hx hb hr (fun t ht hW9 => ⟨⟨(-1000001), I1, rfl, ⟨hF, hO, hP, ⟨trivial, trivial⟩⟩, dkW_eq ht hW⟩, hS.F ht⟩) hS.2.2 dX5_bones_19
    ·
      exact (dkN_nil (show dkN [] v1 from dkN_ne1 (0) dv1 (dkN_lit (x := 0) (0) rfl) (dk_ne c2) rfl)).elim
  ·
    obtain ⟨dv1, a1_0, f1_25_4, -⟩ := hc1
    have d3 : dkN [(0, 4)] p0 := dkN_eq1 (dkN_top p0) a1_0 rfl rfl
    refine lv_if_eq (tgt := 17) hx hb dX5_bones_5 (by decide) (fun c4 => ?_) (fun c4 => ?_)
    ·
      exact (dkN_nil (show dkN [] v1 from dkN_eq1 dv1 (dkN_lit (x := 0) (0) rfl) (congrArg Int32.toInt c4) rfl)).elim
    ·
      refine lv_iload_n hx hb dX5_bones_8 rfl (lv_at hl 2 rfl) ?_
      refine lv_bipush (v := 9) hx hb dX5_bones_9 (by decide) ?_
      refine dk_Si (As := [.int p1, .int 9]) (rest := []) ⟨hx, hb, hml, hown, hts⟩ (c_X5_isUpTo_3 l g z I1 p1 9 (dkN_lit (x := 9) (9) rfl) hO) (va_cwS 2 hts gX5_bones_X5_isUpTo rfl rfl rfl (by decide +kernel) ⟨Nat.le_of_ble_eq_true rfl, Nat.le_of_ble_eq_true rfl⟩) hK hT hW hS rfl hl.1 rfl (Nat.le_of_ble_eq_true rfl) dX5_bones_11 ⟨Nat.zero_le _, Nat.zero_le _⟩ (fun v5 I5 H5 L5 hp5 hW hS => ?_)
      obtain ⟨hF5, hO, hc5⟩ := hp5
      have hF := dkF_call hF hF5 rfl
      have hP := dkQQ_F hP hF5 rfl
      rcases hc5 with ⟨dv5, a5_0, -⟩ | hc5
      ·
        have d6 : dkN [(-2147483648, -1), (10, 2147483647)] p1 := dkN_eq1 (dkN_top p1) a5_0 rfl rfl
        refine lv_if_ne (tgt := 20) hx hb dX5_bones_14 (by decide) (fun c7 => ?_) (fun c7 => ?_)
        ·
          exact (dkN_nil (show dkN [] v5 from dkN_ne1 (0) dv5 (dkN_lit (x := 0) (0) rfl) (dk_ne c7) rfl)).elim
        ·
          refine lv_ldc (v := (-1000001)) hx hb hown (hts (.constant RX5 70 (-1000001)) (List.mem_of_getElem? (i := 1) rfl)) dX5_bones_17 ?_
          exact W.iret (v := (-1000001)) hx hb hr (fun t ht hW9 => ⟨⟨(-1000001), I5, rfl, ⟨hF, hO, hP, ⟨trivial, trivial⟩⟩, dkW_eq ht hW⟩, hS.F ht⟩) hS.2.2 dX5_bones_19
      ·
        obtain ⟨dv5, a5_0, -⟩ := hc5
        have d8 : dkN [(0, 9)] p1 := dkN_eq1 (dkN_top p1) a5_0 rfl rfl
        refine lv_if_ne (tgt := 20) hx hb dX5_bones_14 (by decide) (fun c9 => ?_) (fun c9 => ?_)
        ·
          refine lv_aload_n hx hb dX5_bones_20 rfl (lv_at hl 0 rfl) ?_
          refine dk_get (k := 0) hx hb hts iX5_bones_5 hown hK (dk_at0 hW) rfl 5 (by decide) (hts (.fieldLink RX5 31 "DogKings" "now" "LDogKings$Town;") (List.mem_of_getElem? (i := 2) rfl)) rfl dX5_bones_21 ?_
          refine dk_get (k := 25) hx hb hts iX5_bones_4 hown hK (dk_at25 hW) rfl 8 (by decide) (hts (.fieldLink RX5 143 "DogKings$Town" "bones" "[I") (List.mem_of_getElem? (i := 3) rfl)) rfl dX5_bones_24 ?_
          refine lv_iload_n hx hb dX5_bones_27 rfl (lv_at hl 1 rfl) ?_
          refine dk_ild (k := 29) hx hb hK (dk_at29 hW) (dkN_in (n := 5) d3 rfl) dX5_bones_28 ?_
          refine lv_topi (fun v10 ev10 => ?_)
          refine lv_istore_n (lv' := [(3, .int v10), (0, .ref (z + 0)), (1, .int p0), (2, .int p1)]) hx hb dX5_bones_29 rfl hl (by decide) rfl (fun ls hl => ?_)
          refine lv_iload_n hx hb dX5_bones_30 rfl (lv_at hl 3 rfl) ?_
          refine lv_iload_n hx hb dX5_bones_31 rfl (lv_at hl 0 rfl) ?_
          refine lv_icmp_eq (tgt := 56) hx hb dX5_bones_32 (by decide) (fun c11 => ?_) (fun c11 => ?_)
          ·
            have d12 : dkN [(0, 9)] v10 := dkN_eq1 (dkN_top v10) d8 (congrArg Int32.toInt c11).symm rfl
            refine lv_iload_n hx hb dX5_bones_56 rfl (lv_at hl 0 rfl) ?_
            exact W.iret (v := v10) hx hb hr (fun t ht hW9 => ⟨⟨v10, I5, rfl, ⟨hF, hO, hP, ⟨trivial, trivial⟩⟩, dkW_eq ht hW⟩, hS.F ht⟩) hS.2.2 dX5_bones_57
          ·
            refine lv_aload_n hx hb dX5_bones_35 rfl (lv_at hl 1 rfl) ?_
            refine dk_get (k := 0) hx hb hts iX5_bones_5 hown hK (dk_at0 hW) rfl 7 (by decide) (hts (.fieldLink RX5 42 "DogKings" "acts" "LDogKings$Acts;") (List.mem_of_getElem? (i := 4) rfl)) rfl dX5_bones_36 ?_
            refine lv_aload_n hx hb dX5_bones_39 rfl (lv_at hl 1 rfl) ?_
            refine dk_get (k := 0) hx hb hts iX5_bones_5 hown hK (dk_at0 hW) rfl 5 (by decide) (hts (.fieldLink RX5 31 "DogKings" "now" "LDogKings$Town;") (List.mem_of_getElem? (i := 2) rfl)) rfl dX5_bones_40 ?_
            refine dk_Vv (As := [.ref (z + 25)]) (rest := []) ⟨hx, hb, hml, hown, hts⟩ (fx_X0_keep_1 l g z I5 hO hP) (cwV 1 hts gX5_bones_X0_keep rfl rfl rfl (by decide +kernel) ⟨Nat.le_of_ble_eq_true rfl, Nat.le_of_ble_eq_true rfl⟩) (dk_at59 hW) rfl hK hT hW hS rfl hl.1 rfl (Nat.le_of_ble_eq_true rfl) dX5_bones_43 ⟨Nat.zero_le _, Nat.zero_le _⟩ (fun I13 H13 L13 hp13 hW hS => ?_)
            obtain ⟨hF13, hO, hP, hc13⟩ := hp13
            have hF := dkF_call hF hF13 rfl
            obtain ⟨f13_59_2, -⟩ := hc13
            refine lv_aload_n hx hb dX5_bones_46 rfl (lv_at hl 1 rfl) ?_
            refine dk_get (k := 0) hx hb hts iX5_bones_5 hown hK (dk_at0 hW) rfl 5 (by decide) (hts (.fieldLink RX5 31 "DogKings" "now" "LDogKings$Town;") (List.mem_of_getElem? (i := 2) rfl)) rfl dX5_bones_47 ?_
            refine dk_get (k := 25) hx hb hts iX5_bones_4 hown hK (dk_at25 hW) rfl 8 (by decide) (hts (.fieldLink RX5 143 "DogKings$Town" "bones" "[I") (List.mem_of_getElem? (i := 3) rfl)) rfl dX5_bones_50 ?_
            refine lv_iload_n hx hb dX5_bones_53 rfl (lv_at hl 2 rfl) ?_
            refine lv_iload_n hx hb dX5_bones_54 rfl (lv_at hl 3 rfl) ?_
            refine dk_ist (k := 29) hx hb hK hW (fun _ => rfl) (by decide) hS (dkN_in (n := 5) d3 rfl) dX5_bones_55 (fun I14 H14 L14 eI14 hW hS => ?_)
            have hO := dkO_set hO eI14 (dkN_sub d8 rfl)
            have hF := dkF_set hF eI14 (dkIn_v d3 rfl)
            have hP := dkQQ_set hP eI14 (dkQQb_v d3 rfl)
            refine lv_iload_n hx hb dX5_bones_56 rfl (lv_at hl 0 rfl) ?_
            exact W.iret (v := v10) hx hb hr (fun t ht hW9 => ⟨⟨v10, I14, rfl, ⟨hF, hO, hP, ⟨trivial, trivial⟩⟩, dkW_eq ht hW⟩, hS.F ht⟩) hS.2.2 dX5_bones_57
        ·
          exact (dkN_nil (show dkN [] v5 from dkN_eq1 dv5 (dkN_lit (x := 0) (0) rfl) (congrArg Int32.toInt c9) rfl)).elim
set_option maxHeartbeats 4000000 in
set_option maxRecDepth 100000 in
theorem c_X5_walk_1 (l : Launch) (g : dkG) (z : Nat) (I0 : dkI) (p0 : Int32) (p1 : Int32)  (hO : dkOk I0) (hP : dkQQ I0) : Met l yX5_walk wsX5_walk (dkR 2) (dkPc g z [.ref (z + 0), .int p0, .int p1] I0) (dkQi g z (fun r I1 => dkF [(61, 324, 0, 2147483647), (30, 30, 0, 4), (59, 59, 1, 2)] I0 I1 ∧ dkOk I1 ∧ dkQQ I1 ∧ ((True ∧ True)))) 0 0 (dkA z) := by
  refine Met.ofW (cc := cX5_walk) (maxL := 4) (ret := (some .int)) (by decide) rfl ?_
  intro p e s m args below meth c s₁ B hml hv
  obtain ⟨ha, hW, hK, hT⟩ := hv
  have hx := B.exec
  have hb := B.bytes
  have hr := B.returns
  have hts := atoms_spec (ws := wsX5_walk) B.pre
  have hown : s.vm.findClass RX5 = some m.cls := findClass_of_methodNamed B.named
  have hlocks := B.notSynchronized
  have hS : va_S (dkA z) s.heap s.heap [] := va_S.rf
  have hF : dkF [(61, 324, 0, 2147483647), (30, 30, 0, 4), (59, 59, 1, 2)] I0 I0 := dkF_rf _ _
  have hl := lv_entry ([.ref (z + 0), .int p0, .int p1]) (n := 4) (Nat.le_of_ble_eq_true rfl)
  have hgo : entryFrame m args 4 = entryFrame m ([.ref (z + 0), .int p0, .int p1] : List Value).toArray 4 := by rw [ha]
  rw [hgo, lg_entry_eq]
  generalize (lg_sl ([.ref (z + 0), .int p0, .int p1]) ++ List.replicate (4 - (lg_sl ([.ref (z + 0), .int p0, .int p1])).length) Slot.unset).toArray = ls at hl ⊢
  have hl : lv_has ls 4 [(0, .ref (z + 0)), (1, .int p0), (2, .int p1)] := hl
  refine lv_aload_n hx hb dX5_walk_0 rfl (lv_at hl 0 rfl) ?_
  refine lv_iload_n hx hb dX5_walk_1 rfl (lv_at hl 1 rfl) ?_
  refine dk_Vi (As := [.int p0]) (rest := []) ⟨hx, hb, hml, hown, hts⟩ (c_X5_isPerson_0 l g z I0 p0 hO) (cwV 1 hts gX5_walk_X5_isPerson rfl rfl rfl (by decide +kernel) ⟨Nat.le_of_ble_eq_true rfl, Nat.le_of_ble_eq_true rfl⟩) (dk_at0 hW) rfl hK hT hW hS rfl hl.1 rfl (Nat.le_of_ble_eq_true rfl) dX5_walk_2 ⟨Nat.zero_le _, Nat.zero_le _⟩ (fun v1 I1 H1 L1 hp1 hW hS => ?_)
  obtain ⟨hF1, hO, hc1⟩ := hp1
  have hF := dkF_call hF hF1 rfl
  have hP := dkQQ_F hP hF1 rfl
  rcases hc1 with ⟨dv1, -⟩ | hc1
  ·
    refine lv_if_eq (tgt := 16) hx hb dX5_walk_5 (by decide) (fun c2 => ?_) (fun c2 => ?_)
    ·
      refine lv_ldc (v := (-1000001)) hx hb hown (hts (.constant RX5 70 (-1000001)) (List.mem_of_getElem? (i := 1) rfl)) dX5_walk_16 ?_
      exact W.iret (v := (-1000001)) hx hb hr (fun t ht hW9 => ⟨⟨(-1000001), I1, rfl, ⟨hF, hO, hP, ⟨trivial, trivial⟩⟩, dkW_eq ht hW⟩, hS.F ht⟩) hS.2.2 dX5_walk_18
    ·
      exact (dkN_nil (show dkN [] v1 from dkN_ne1 (0) dv1 (dkN_lit (x := 0) (0) rfl) (dk_ne c2) rfl)).elim
  ·
    obtain ⟨dv1, a1_0, f1_25_4, -⟩ := hc1
    have d3 : dkN [(0, 4)] p0 := dkN_eq1 (dkN_top p0) a1_0 rfl rfl
    refine lv_if_eq (tgt := 16) hx hb dX5_walk_5 (by decide) (fun c4 => ?_) (fun c4 => ?_)
    ·
      exact (dkN_nil (show dkN [] v1 from dkN_eq1 dv1 (dkN_lit (x := 0) (0) rfl) (congrArg Int32.toInt c4) rfl)).elim
    ·
      refine lv_iload_n hx hb dX5_walk_8 rfl (lv_at hl 2 rfl) ?_
      refine lv_iconst (v := 2) hx hb dX5_walk_9 (by decide) ?_
      refine dk_Si (As := [.int p1, .int 2]) (rest := []) ⟨hx, hb, hml, hown, hts⟩ (c_X5_isUpTo_1 l g z I1 p1 2 (dkN_lit (x := 2) (2) rfl) hO) (va_cwS 2 hts gX5_walk_X5_isUpTo rfl rfl rfl (by decide +kernel) ⟨Nat.le_of_ble_eq_true rfl, Nat.le_of_ble_eq_true rfl⟩) hK hT hW hS rfl hl.1 rfl (Nat.le_of_ble_eq_true rfl) dX5_walk_10 ⟨Nat.zero_le _, Nat.zero_le _⟩ (fun v5 I5 H5 L5 hp5 hW hS => ?_)
      obtain ⟨hF5, hO, hc5⟩ := hp5
      have hF := dkF_call hF hF5 rfl
      have hP := dkQQ_F hP hF5 rfl
      rcases hc5 with ⟨dv5, a5_0, -⟩ | hc5
      ·
        have d6 : dkN [(-2147483648, -1), (3, 2147483647)] p1 := dkN_eq1 (dkN_top p1) a5_0 rfl rfl
        refine lv_if_ne (tgt := 19) hx hb dX5_walk_13 (by decide) (fun c7 => ?_) (fun c7 => ?_)
        ·
          exact (dkN_nil (show dkN [] v5 from dkN_ne1 (0) dv5 (dkN_lit (x := 0) (0) rfl) (dk_ne c7) rfl)).elim
        ·
          refine lv_ldc (v := (-1000001)) hx hb hown (hts (.constant RX5 70 (-1000001)) (List.mem_of_getElem? (i := 1) rfl)) dX5_walk_16 ?_
          exact W.iret (v := (-1000001)) hx hb hr (fun t ht hW9 => ⟨⟨(-1000001), I5, rfl, ⟨hF, hO, hP, ⟨trivial, trivial⟩⟩, dkW_eq ht hW⟩, hS.F ht⟩) hS.2.2 dX5_walk_18
      ·
        obtain ⟨dv5, a5_0, -⟩ := hc5
        have d8 : dkN [(0, 2)] p1 := dkN_eq1 (dkN_top p1) a5_0 rfl rfl
        refine lv_if_ne (tgt := 19) hx hb dX5_walk_13 (by decide) (fun c9 => ?_) (fun c9 => ?_)
        ·
          refine lv_aload_n hx hb dX5_walk_19 rfl (lv_at hl 0 rfl) ?_
          refine dk_get (k := 0) hx hb hts iX5_walk_5 hown hK (dk_at0 hW) rfl 5 (by decide) (hts (.fieldLink RX5 31 "DogKings" "now" "LDogKings$Town;") (List.mem_of_getElem? (i := 2) rfl)) rfl dX5_walk_20 ?_
          refine dk_get (k := 25) hx hb hts iX5_walk_4 hown hK (dk_at25 hW) rfl 9 (by decide) (hts (.fieldLink RX5 146 "DogKings$Town" "gait" "[I") (List.mem_of_getElem? (i := 3) rfl)) rfl dX5_walk_23 ?_
          refine lv_iload_n hx hb dX5_walk_26 rfl (lv_at hl 1 rfl) ?_
          refine dk_ild (k := 30) hx hb hK (dk_at30 hW) (dkN_in (n := 5) d3 rfl) dX5_walk_27 ?_
          refine lv_topi (fun v10 ev10 => ?_)
          refine lv_istore_n (lv' := [(3, .int v10), (0, .ref (z + 0)), (1, .int p0), (2, .int p1)]) hx hb dX5_walk_28 rfl hl (by decide) rfl (fun ls hl => ?_)
          refine lv_iload_n hx hb dX5_walk_29 rfl (lv_at hl 3 rfl) ?_
          refine lv_iload_n hx hb dX5_walk_30 rfl (lv_at hl 0 rfl) ?_
          refine lv_icmp_eq (tgt := 55) hx hb dX5_walk_31 (by decide) (fun c11 => ?_) (fun c11 => ?_)
          ·
            have d12 : dkN [(0, 2)] v10 := dkN_eq1 (dkN_top v10) d8 (congrArg Int32.toInt c11).symm rfl
            refine lv_iload_n hx hb dX5_walk_55 rfl (lv_at hl 0 rfl) ?_
            exact W.iret (v := v10) hx hb hr (fun t ht hW9 => ⟨⟨v10, I5, rfl, ⟨hF, hO, hP, ⟨trivial, trivial⟩⟩, dkW_eq ht hW⟩, hS.F ht⟩) hS.2.2 dX5_walk_56
          ·
            refine lv_aload_n hx hb dX5_walk_34 rfl (lv_at hl 1 rfl) ?_
            refine dk_get (k := 0) hx hb hts iX5_walk_5 hown hK (dk_at0 hW) rfl 7 (by decide) (hts (.fieldLink RX5 42 "DogKings" "acts" "LDogKings$Acts;") (List.mem_of_getElem? (i := 4) rfl)) rfl dX5_walk_35 ?_
            refine lv_aload_n hx hb dX5_walk_38 rfl (lv_at hl 1 rfl) ?_
            refine dk_get (k := 0) hx hb hts iX5_walk_5 hown hK (dk_at0 hW) rfl 5 (by decide) (hts (.fieldLink RX5 31 "DogKings" "now" "LDogKings$Town;") (List.mem_of_getElem? (i := 2) rfl)) rfl dX5_walk_39 ?_
            refine dk_Vv (As := [.ref (z + 25)]) (rest := []) ⟨hx, hb, hml, hown, hts⟩ (fx_X0_keep_1 l g z I5 hO hP) (cwV 1 hts gX5_walk_X0_keep rfl rfl rfl (by decide +kernel) ⟨Nat.le_of_ble_eq_true rfl, Nat.le_of_ble_eq_true rfl⟩) (dk_at59 hW) rfl hK hT hW hS rfl hl.1 rfl (Nat.le_of_ble_eq_true rfl) dX5_walk_42 ⟨Nat.zero_le _, Nat.zero_le _⟩ (fun I13 H13 L13 hp13 hW hS => ?_)
            obtain ⟨hF13, hO, hP, hc13⟩ := hp13
            have hF := dkF_call hF hF13 rfl
            obtain ⟨f13_59_2, -⟩ := hc13
            refine lv_aload_n hx hb dX5_walk_45 rfl (lv_at hl 1 rfl) ?_
            refine dk_get (k := 0) hx hb hts iX5_walk_5 hown hK (dk_at0 hW) rfl 5 (by decide) (hts (.fieldLink RX5 31 "DogKings" "now" "LDogKings$Town;") (List.mem_of_getElem? (i := 2) rfl)) rfl dX5_walk_46 ?_
            refine dk_get (k := 25) hx hb hts iX5_walk_4 hown hK (dk_at25 hW) rfl 9 (by decide) (hts (.fieldLink RX5 146 "DogKings$Town" "gait" "[I") (List.mem_of_getElem? (i := 3) rfl)) rfl dX5_walk_49 ?_
            refine lv_iload_n hx hb dX5_walk_52 rfl (lv_at hl 2 rfl) ?_
            refine lv_iload_n hx hb dX5_walk_53 rfl (lv_at hl 3 rfl) ?_
            refine dk_ist (k := 30) hx hb hK hW (fun _ => rfl) (by decide) hS (dkN_in (n := 5) d3 rfl) dX5_walk_54 (fun I14 H14 L14 eI14 hW hS => ?_)
            have hO := dkO_set hO eI14 (dkN_sub d8 rfl)
            have hF := dkF_set hF eI14 (dkIn_v d3 rfl)
            have hP := dkQQ_set hP eI14 (dkQQb_v d3 rfl)
            refine lv_iload_n hx hb dX5_walk_55 rfl (lv_at hl 0 rfl) ?_
            exact W.iret (v := v10) hx hb hr (fun t ht hW9 => ⟨⟨v10, I14, rfl, ⟨hF, hO, hP, ⟨trivial, trivial⟩⟩, dkW_eq ht hW⟩, hS.F ht⟩) hS.2.2 dX5_walk_56
        ·
          exact (dkN_nil (show dkN [] v5 from dkN_eq1 dv5 (dkN_lit (x := 0) (0) rfl) (congrArg Int32.toInt c9) rfl)).elim
set_option maxHeartbeats 4000000 in
set_option maxRecDepth 100000 in
theorem c_X5_put_1 (l : Launch) (g : dkG) (z : Nat) (I0 : dkI) (p0 : Int32) (p1 : Int32)  (hO : dkOk I0) (hP : dkQQ I0) : Met l yX5_put wsX5_put (dkR 2) (dkPc g z [.ref (z + 0), .int p0, .int p1] I0) (dkQi g z (fun r I1 => dkF [(61, 324, 0, 2147483647), (34, 34, 0, 5), (59, 59, 1, 2)] I0 I1 ∧ dkOk I1 ∧ dkQQ I1 ∧ ((True ∧ True)))) 0 0 (dkA z) := by
  refine Met.ofW (cc := cX5_put) (maxL := 4) (ret := (some .int)) (by decide) rfl ?_
  intro p e s m args below meth c s₁ B hml hv
  obtain ⟨ha, hW, hK, hT⟩ := hv
  have hx := B.exec
  have hb := B.bytes
  have hr := B.returns
  have hts := atoms_spec (ws := wsX5_put) B.pre
  have hown : s.vm.findClass RX5 = some m.cls := findClass_of_methodNamed B.named
  have hlocks := B.notSynchronized
  have hS : va_S (dkA z) s.heap s.heap [] := va_S.rf
  have hF : dkF [(61, 324, 0, 2147483647), (34, 34, 0, 5), (59, 59, 1, 2)] I0 I0 := dkF_rf _ _
  have hl := lv_entry ([.ref (z + 0), .int p0, .int p1]) (n := 4) (Nat.le_of_ble_eq_true rfl)
  have hgo : entryFrame m args 4 = entryFrame m ([.ref (z + 0), .int p0, .int p1] : List Value).toArray 4 := by rw [ha]
  rw [hgo, lg_entry_eq]
  generalize (lg_sl ([.ref (z + 0), .int p0, .int p1]) ++ List.replicate (4 - (lg_sl ([.ref (z + 0), .int p0, .int p1])).length) Slot.unset).toArray = ls at hl ⊢
  have hl : lv_has ls 4 [(0, .ref (z + 0)), (1, .int p0), (2, .int p1)] := hl
  refine lv_aload_n hx hb dX5_put_0 rfl (lv_at hl 0 rfl) ?_
  refine lv_iload_n hx hb dX5_put_1 rfl (lv_at hl 1 rfl) ?_
  refine dk_Vi (As := [.int p0]) (rest := []) ⟨hx, hb, hml, hown, hts⟩ (c_X5_isDog_0 l g z I0 p0 hO) (cwV 1 hts gX5_put_X5_isDog rfl rfl rfl (by decide +kernel) ⟨Nat.le_of_ble_eq_true rfl, Nat.le_of_ble_eq_true rfl⟩) (dk_at0 hW) rfl hK hT hW hS rfl hl.1 rfl (Nat.le_of_ble_eq_true rfl) dX5_put_2 ⟨Nat.zero_le _, Nat.zero_le _⟩ (fun v1 I1 H1 L1 hp1 hW hS => ?_)
  obtain ⟨hF1, hO, hc1⟩ := hp1
  have hF := dkF_call hF hF1 rfl
  have hP := dkQQ_F hP hF1 rfl
  rcases hc1 with ⟨dv1, -⟩ | hc1
  ·
    refine lv_if_eq (tgt := 16) hx hb dX5_put_5 (by decide) (fun c2 => ?_) (fun c2 => ?_)
    ·
      refine lv_ldc (v := (-1000001)) hx hb hown (hts (.constant RX5 70 (-1000001)) (List.mem_of_getElem? (i := 1) rfl)) dX5_put_16 ?_
      exact W.iret (v := (-1000001)) hx hb hr (fun t ht hW9 => ⟨⟨(-1000001), I1, rfl, ⟨hF, hO, hP, ⟨trivial, trivial⟩⟩, dkW_eq ht hW⟩, hS.F ht⟩) hS.2.2 dX5_put_18
    ·
      exact (dkN_nil (show dkN [] v1 from dkN_ne1 (0) dv1 (dkN_lit (x := 0) (0) rfl) (dk_ne c2) rfl)).elim
  ·
    obtain ⟨dv1, a1_0, f1_25_11, -⟩ := hc1
    have d3 : dkN [(0, 5)] p0 := dkN_eq1 (dkN_top p0) a1_0 rfl rfl
    refine lv_if_eq (tgt := 16) hx hb dX5_put_5 (by decide) (fun c4 => ?_) (fun c4 => ?_)
    ·
      exact (dkN_nil (show dkN [] v1 from dkN_eq1 dv1 (dkN_lit (x := 0) (0) rfl) (congrArg Int32.toInt c4) rfl)).elim
    ·
      refine lv_aload_n hx hb dX5_put_8 rfl (lv_at hl 0 rfl) ?_
      refine lv_iload_n hx hb dX5_put_9 rfl (lv_at hl 2 rfl) ?_
      refine dk_Vi (As := [.int p1]) (rest := []) ⟨hx, hb, hml, hown, hts⟩ (c_X5_isPlace_0 l g z I1 p1 hO) (cwV 1 hts gX5_put_X5_isPlace rfl rfl rfl (by decide +kernel) ⟨Nat.le_of_ble_eq_true rfl, Nat.le_of_ble_eq_true rfl⟩) (dk_at0 hW) rfl hK hT hW hS rfl hl.1 rfl (Nat.le_of_ble_eq_true rfl) dX5_put_10 ⟨Nat.zero_le _, Nat.zero_le _⟩ (fun v5 I5 H5 L5 hp5 hW hS => ?_)
      obtain ⟨hF5, hO, hc5⟩ := hp5
      have hF := dkF_call hF hF5 rfl
      have hP := dkQQ_F hP hF5 rfl
      rcases hc5 with ⟨dv5, -⟩ | hc5
      ·
        refine lv_if_ne (tgt := 19) hx hb dX5_put_13 (by decide) (fun c6 => ?_) (fun c6 => ?_)
        ·
          exact (dkN_nil (show dkN [] v5 from dkN_ne1 (0) dv5 (dkN_lit (x := 0) (0) rfl) (dk_ne c6) rfl)).elim
        ·
          refine lv_ldc (v := (-1000001)) hx hb hown (hts (.constant RX5 70 (-1000001)) (List.mem_of_getElem? (i := 1) rfl)) dX5_put_16 ?_
          exact W.iret (v := (-1000001)) hx hb hr (fun t ht hW9 => ⟨⟨(-1000001), I5, rfl, ⟨hF, hO, hP, ⟨trivial, trivial⟩⟩, dkW_eq ht hW⟩, hS.F ht⟩) hS.2.2 dX5_put_18
      ·
        obtain ⟨dv5, a5_0, f5_25_0, -⟩ := hc5
        have d7 : dkN [(0, 8)] p1 := dkN_eq1 (dkN_top p1) a5_0 rfl rfl
        refine lv_if_ne (tgt := 19) hx hb dX5_put_13 (by decide) (fun c8 => ?_) (fun c8 => ?_)
        ·
          refine lv_aload_n hx hb dX5_put_19 rfl (lv_at hl 0 rfl) ?_
          refine dk_get (k := 0) hx hb hts iX5_put_5 hown hK (dk_at0 hW) rfl 5 (by decide) (hts (.fieldLink RX5 31 "DogKings" "now" "LDogKings$Town;") (List.mem_of_getElem? (i := 2) rfl)) rfl dX5_put_20 ?_
          refine dk_get (k := 25) hx hb hts iX5_put_4 hown hK (dk_at25 hW) rfl 14 (by decide) (hts (.fieldLink RX5 155 "DogKings$Town" "dogAt" "[I") (List.mem_of_getElem? (i := 3) rfl)) rfl dX5_put_23 ?_
          refine lv_iload_n hx hb dX5_put_26 rfl (lv_at hl 1 rfl) ?_
          refine dk_ild (k := 34) hx hb hK (dk_at34 hW) (dkN_in (n := 6) d3 rfl) dX5_put_27 ?_
          refine lv_topi (fun v9 ev9 => ?_)
          refine lv_istore_n (lv' := [(3, .int v9), (0, .ref (z + 0)), (1, .int p0), (2, .int p1)]) hx hb dX5_put_28 rfl hl (by decide) rfl (fun ls hl => ?_)
          refine lv_iload_n hx hb dX5_put_29 rfl (lv_at hl 3 rfl) ?_
          refine lv_iload_n hx hb dX5_put_30 rfl (lv_at hl 0 rfl) ?_
          refine lv_icmp_ne (tgt := 37) hx hb dX5_put_31 (by decide) (fun c10 => ?_) (fun c10 => ?_)
          ·
            refine lv_aload_n hx hb dX5_put_37 rfl (lv_at hl 1 rfl) ?_
            refine dk_get (k := 0) hx hb hts iX5_put_5 hown hK (dk_at0 hW) rfl 7 (by decide) (hts (.fieldLink RX5 42 "DogKings" "acts" "LDogKings$Acts;") (List.mem_of_getElem? (i := 5) rfl)) rfl dX5_put_38 ?_
            refine lv_aload_n hx hb dX5_put_41 rfl (lv_at hl 1 rfl) ?_
            refine dk_get (k := 0) hx hb hts iX5_put_5 hown hK (dk_at0 hW) rfl 5 (by decide) (hts (.fieldLink RX5 31 "DogKings" "now" "LDogKings$Town;") (List.mem_of_getElem? (i := 2) rfl)) rfl dX5_put_42 ?_
            refine dk_Vv (As := [.ref (z + 25)]) (rest := []) ⟨hx, hb, hml, hown, hts⟩ (fx_X0_keep_1 l g z I5 hO hP) (cwV 1 hts gX5_put_X0_keep rfl rfl rfl (by decide +kernel) ⟨Nat.le_of_ble_eq_true rfl, Nat.le_of_ble_eq_true rfl⟩) (dk_at59 hW) rfl hK hT hW hS rfl hl.1 rfl (Nat.le_of_ble_eq_true rfl) dX5_put_45 ⟨Nat.zero_le _, Nat.zero_le _⟩ (fun I11 H11 L11 hp11 hW hS => ?_)
            obtain ⟨hF11, hO, hP, hc11⟩ := hp11
            have hF := dkF_call hF hF11 rfl
            obtain ⟨f11_59_2, -⟩ := hc11
            refine lv_aload_n hx hb dX5_put_48 rfl (lv_at hl 1 rfl) ?_
            refine dk_get (k := 0) hx hb hts iX5_put_5 hown hK (dk_at0 hW) rfl 5 (by decide) (hts (.fieldLink RX5 31 "DogKings" "now" "LDogKings$Town;") (List.mem_of_getElem? (i := 2) rfl)) rfl dX5_put_49 ?_
            refine dk_get (k := 25) hx hb hts iX5_put_4 hown hK (dk_at25 hW) rfl 14 (by decide) (hts (.fieldLink RX5 155 "DogKings$Town" "dogAt" "[I") (List.mem_of_getElem? (i := 3) rfl)) rfl dX5_put_52 ?_
            refine lv_iload_n hx hb dX5_put_55 rfl (lv_at hl 2 rfl) ?_
            refine lv_iload_n hx hb dX5_put_56 rfl (lv_at hl 3 rfl) ?_
            refine dk_ist (k := 34) hx hb hK hW (fun _ => rfl) (by decide) hS (dkN_in (n := 6) d3 rfl) dX5_put_57 (fun I12 H12 L12 eI12 hW hS => ?_)
            have hO := dkO_set hO eI12 (dkN_sub d7 rfl)
            have hF := dkF_set hF eI12 (dkIn_v d3 rfl)
            have hP := dkQQ_set hP eI12 (dkQQb_v d3 rfl)
            refine lv_iload_n hx hb dX5_put_58 rfl (lv_at hl 0 rfl) ?_
            exact W.iret (v := v9) hx hb hr (fun t ht hW9 => ⟨⟨v9, I12, rfl, ⟨hF, hO, hP, ⟨trivial, trivial⟩⟩, dkW_eq ht hW⟩, hS.F ht⟩) hS.2.2 dX5_put_59
          ·
            have d13 : dkN [(0, 8)] v9 := dkN_eq1 (dkN_top v9) d7 (congrArg Int32.toInt c10).symm rfl
            refine lv_ldc (v := (-1000002)) hx hb hown (hts (.constant RX5 129 (-1000002)) (List.mem_of_getElem? (i := 4) rfl)) dX5_put_34 ?_
            exact W.iret (v := (-1000002)) hx hb hr (fun t ht hW9 => ⟨⟨(-1000002), I5, rfl, ⟨hF, hO, hP, ⟨trivial, trivial⟩⟩, dkW_eq ht hW⟩, hS.F ht⟩) hS.2.2 dX5_put_36
        ·
          exact (dkN_nil (show dkN [] v5 from dkN_eq1 dv5 (dkN_lit (x := 0) (0) rfl) (congrArg Int32.toInt c8) rfl)).elim
