set_option maxHeartbeats 40000000 in
set_option maxRecDepth 100000 in
theorem fx_X6_readsDog_1 (l : Launch) (g : dkG) (z : Nat) (I0 : dkI) (np0 : dkN [(-1, -1)] (I0 340 8)) (np1 : dkN [(3, 9)] (I0 347 0))  (hO : dkOk I0) : Met l yX6_readsDog wsX6_readsDog (dkR 4) (dkPc g z [.ref (z + 340)] I0) (dkQv g z (fun I1 => dkF [(340, 340, 7, 12), (347, 347, 5, 5), (347, 347, 36, 53)] I0 I1 ∧ dkOk I1 ∧ ((dkN [(3, 3)] (I1 340 7) ∧ dkN [(0, 90)] (I1 340 8) ∧ dkN [(3, 9)] (I1 347 0) ∧ dkN [(6, 6)] (I1 347 5) ∧ (6 : Int) + 0 ≤ (I0 347 5).toInt ∧ I1 340 7 = 3 ∧ I1 340 8 = I0 340 10 ∧ I1 347 0 = I0 347 0 ∧ I1 347 4 = I0 347 4 ∧ I1 347 5 = I0 347 5 ∧ True) ∨ (dkN [(1, 2)] (I1 340 7) ∧ dkN [(0, 90)] (I1 340 8) ∧ dkN [(3, 9)] (I1 347 0) ∧ dkN [(0, 5)] (I1 347 5) ∧ (I0 347 5).toInt + 1 ≤ (6 : Int) ∧ (dkDo (I0 345) (I0 340 6) (I0 347 0) (I0 340 9)).1 ≠ 0 ∧ I1 340 7 = (dkDo (I0 345) (I0 340 6) (I0 347 0) (I0 340 9)).1 ∧ I1 340 8 = (dkDo (I0 345) (I0 340 6) (I0 347 0) (I0 340 9)).2 ∧ I1 347 0 = I0 347 0 ∧ I1 347 4 = I0 347 4 ∧ I1 347 5 = I0 347 5 ∧ True) ∨ (dkN [(0, 5)] (I1 340 11) ∧ dkN [(-1, -1)] (I1 340 8) ∧ dkN [(3, 9)] (I1 347 0) ∧ dkN [(1, 6)] (I1 347 5) ∧ (I0 347 5).toInt + 1 ≤ (6 : Int) ∧ (dkDo (I0 345) (I0 340 6) (I0 347 0) (I0 340 9)).1 = 0 ∧ I1 340 7 = I0 340 7 ∧ I1 340 8 = I0 340 8 ∧ I1 340 9 = dkTe (I0 345) (I0 340 6) (dkDo (I0 345) (I0 340 6) (I0 347 0) (I0 340 9)).2 ∧ I1 340 10 = (dkDo (I0 345) (I0 340 6) (I0 347 0) (I0 340 9)).2 ∧ I1 340 11 = dkTk (I0 345) (I0 340 6) (dkDo (I0 345) (I0 340 6) (I0 347 0) (I0 340 9)).2 ∧ I1 340 12 = dkTv (I0 345) (I0 340 6) (dkDo (I0 345) (I0 340 6) (I0 347 0) (I0 340 9)).2 ∧ I1 347 0 = I0 347 0 ∧ I1 347 4 = I0 347 4 ∧ I1 347 5 = I0 347 5 + 1 ∧ ((dkSo (I0 340 12).toInt ≠ -1000000 → I1 347 (36 + 3 * Int32.toNatClampNeg (I0 347 5)) = dkSo (I0 340 12).toInt)) ∧ ((∀ j : Nat, j < Int32.toNatClampNeg (I0 347 5) → I1 347 (36 + 3 * j) = I0 347 (36 + 3 * j))) ∧ I1 347 5 = I0 347 5 + 1 ∧ True)))) 0 0 (dkA z) := by
  refine Met.ofW (cc := cX6_readsDog) (maxL := 4) (ret := none) (by decide) rfl ?_
  intro p e s m args below meth c s₁ B hml hv
  obtain ⟨ha, hW, hK, hT⟩ := hv
  have hx := B.exec
  have hb := B.bytes
  have hr := B.returns
  have hts := atoms_spec (ws := wsX6_readsDog) B.pre
  have hown : s.vm.findClass RX6 = some m.cls := findClass_of_methodNamed B.named
  have hlocks := B.notSynchronized
  have hS : va_S (dkA z) s.heap s.heap [] := va_S.rf
  have hF : dkF [(340, 340, 7, 12), (347, 347, 5, 5), (347, 347, 36, 53)] I0 I0 := dkF_rf _ _
  have hl := lv_entry ([.ref (z + 340)]) (n := 4) (Nat.le_of_ble_eq_true rfl)
  have hgo : entryFrame m args 4 = entryFrame m ([.ref (z + 340)] : List Value).toArray 4 := by rw [ha]
  rw [hgo, lg_entry_eq]
  generalize (lg_sl ([.ref (z + 340)]) ++ List.replicate (4 - (lg_sl ([.ref (z + 340)])).length) Slot.unset).toArray = ls at hl ⊢
  have hl : lv_has ls 4 [(0, .ref (z + 340))] := hl
  refine lv_aload_n hx hb dX6_readsDog_0 rfl (lv_at hl 0 rfl) ?_
  refine dk_get (k := 340) hx hb hts iX6_readsDog_6 hown hK (dk_at340 hW) rfl 12 (by decide) (hts (.fieldLink RX6 95 "DogKingsModel" "value" "I") (List.mem_of_getElem? (i := 1) rfl)) rfl dX6_readsDog_1 ?_
  refine lv_topi (fun v1 ev1 => ?_)
  have xv1 : v1 = I0 340 12 := ev1.trans rfl
  refine dk_Si (As := [.int v1]) (rest := []) ⟨hx, hb, hml, hown, hts⟩ (h_X6_kindOf_0 l g z I0 v1 hO) (va_cwS 1 hts gX6_readsDog_X6_kindOf rfl rfl rfl (by decide +kernel) ⟨Nat.le_of_ble_eq_true rfl, Nat.le_of_ble_eq_true rfl⟩) hK hT hW hS rfl hl.1 rfl (Nat.le_of_ble_eq_true rfl) dX6_readsDog_4 ⟨Nat.zero_le _, Nat.zero_le _⟩ (fun v2 I2 H2 L2 hp2 hW hS => ?_)
  obtain ⟨hF2, hO, hc2⟩ := hp2
  have hF := dkF_call hF hF2 rfl
  have eI2 : I0 = I2 := (dkF_nil hF2).symm
  subst eI2
  rcases hc2 with ⟨dv2, x2_0, xr2, -⟩ | hc2
  ·
    have q3 : dkSo (I0 340 12).toInt ≠ -1000000 := by have h := x2_0; rw [xv1] at h; exact h
    have xv2 : v2 = dkSo (I0 340 12).toInt := by have h := xr2; rw [xv1] at h; exact h
    refine lv_istore_n (lv' := [(1, .int v2), (0, .ref (z + 340))]) hx hb dX6_readsDog_7 rfl hl (by decide) rfl (fun ls hl => ?_)
    refine lv_aload_n hx hb dX6_readsDog_8 rfl (lv_at hl 1 rfl) ?_
    refine lv_aload_n hx hb dX6_readsDog_9 rfl (lv_at hl 1 rfl) ?_
    refine dk_get (k := 340) hx hb hts iX6_readsDog_6 hown hK (dk_at340 hW) rfl 14 (by decide) (hts (.fieldLink RX6 28 "DogKingsModel" "draft" "[I") (List.mem_of_getElem? (i := 2) rfl)) rfl dX6_readsDog_10 ?_
    refine lv_iconst (v := 5) hx hb dX6_readsDog_13 (by decide) ?_
    refine dk_ild (k := 347) hx hb hK (dk_at347 hW) (dkN_in (n := 54) (dkN_lit (x := 5) (5) rfl) rfl) dX6_readsDog_14 ?_
    refine lv_topi (fun v4 ev4 => ?_)
    have ev4 : v4 = I0 347 5 := ev4
    have dv4 : dkN [(0, 6)] v4 := by rw [ev4]; exact (show dkN [(0, 6)] (I0 347 5) from (hO 347 5))
    have xv4 : v4 = I0 347 5 := ev4.trans rfl
    refine lv_bipush (v := 6) hx hb dX6_readsDog_15 (by decide) ?_
    refine lv_icmp_ge (tgt := 24) hx hb dX6_readsDog_17 (by decide) (fun c5 => ?_) (fun c5 => ?_)
    ·
      have q6 : (6 : Int) + 0 ≤ (I0 347 5).toInt := by first | (rw [← xv4]; exact (dkc_le c5)) | (subst xv4; exact (dkc_le c5))
      have d7 : dkN [(6, 6)] v4 := dkN_le2 0 (dkN_lit (x := 6) (6) rfl) dv4 (dkc_le c5) rfl
      have f8 : dkN [(6, 6)] (I0 347 5) := by rw [← ev4]; exact d7
      refine lv_iconst (v := 0) hx hb dX6_readsDog_24 (by decide) ?_
      refine lv_iconst (v := 3) hx hb dX6_readsDog_25 (by decide) ?_
      refine dk_Vi (As := [.int 0, .int 3]) (rest := []) ⟨hx, hb, hml, hown, hts⟩ (fx_X6_takes_42 l g z I0 0 3 (dkN_lit (x := 0) (0) rfl) (dkN_lit (x := 3) (3) rfl) (show dkN [(-1, -1)] (I0 340 8) from dkN_sub (by rw [hF2 340 8 rfl]; exact np0) rfl) hO) (cwV 2 hts gX6_readsDog_X6_takes rfl rfl rfl (by decide +kernel) ⟨Nat.le_of_ble_eq_true rfl, Nat.le_of_ble_eq_true rfl⟩) (dk_at340 hW) rfl hK hT hW hS rfl hl.1 rfl (Nat.le_of_ble_eq_true rfl) dX6_readsDog_26 ⟨Nat.zero_le _, Nat.zero_le _⟩ (fun v9 I9 H9 L9 hp9 hW hS => ?_)
      obtain ⟨hF9, hO, hc9⟩ := hp9
      have hF := dkF_call hF hF9 rfl
      obtain ⟨dv9, f9_340_7, f9_340_8, x9_0, x9_1, xr9, xh9_0, xh9_1, xh9_2, xh9_3, xh9_4, xh9_5, -⟩ := hc9
      have q10 : (I0 340 8).toInt + 1 ≤ (0 : Int) := x9_0
      have y11 : I9 340 7 = 3 := by have h := xh9_0; exact h
      have y12 : I9 340 8 = I0 340 10 := by have h := xh9_1; exact h
      have y13 : I9 340 9 = I0 340 9 := by have h := xh9_2; exact h
      have y14 : I9 340 10 = I0 340 10 := by have h := xh9_3; exact h
      have y15 : I9 340 11 = I0 340 11 := by have h := xh9_4; exact h
      have y16 : I9 340 12 = I0 340 12 := by have h := xh9_5; exact h
      have xv9 : v9 = 0 := by have h := xr9; exact h
      refine lv_pop hx hb dX6_readsDog_29 rfl ?_
      refine lv_bipush (v := 36) hx hb dX6_readsDog_30 (by decide) ?_
      refine lv_iconst (v := 3) hx hb dX6_readsDog_32 (by decide) ?_
      refine lv_aload_n hx hb dX6_readsDog_33 rfl (lv_at hl 1 rfl) ?_
      refine dk_get (k := 340) hx hb hts iX6_readsDog_6 hown hK (dk_at340 hW) rfl 14 (by decide) (hts (.fieldLink RX6 28 "DogKingsModel" "draft" "[I") (List.mem_of_getElem? (i := 2) rfl)) rfl dX6_readsDog_34 ?_
      refine lv_iconst (v := 5) hx hb dX6_readsDog_37 (by decide) ?_
      refine dk_ild (k := 347) hx hb hK (dk_at347 hW) (dkN_in (n := 54) (dkN_lit (x := 5) (5) rfl) rfl) dX6_readsDog_38 ?_
      refine lv_topi (fun v17 ev17 => ?_)
      have ev17 : v17 = I9 347 5 := ev17
      have dv17 : dkN [(6, 6)] v17 := by rw [ev17]; exact (show dkN [(6, 6)] (I9 347 5) from (by rw [hF9 347 5 rfl]; exact f8))
      have xv17 : v17 = I0 347 5 := ev17.trans ((hF9 347 5 rfl).trans rfl)
      refine lv_bipush (v := 6) hx hb dX6_readsDog_39 (by decide) ?_
      refine lv_icmp_ge (tgt := 53) hx hb dX6_readsDog_41 (by decide) (fun c18 => ?_) (fun c18 => ?_)
      ·
        refine lv_iconst (v := 0) hx hb dX6_readsDog_53 (by decide) ?_
        refine lv_imul hx hb dX6_readsDog_54 ?_
        refine lv_topi (fun v19 ev19 => ?_)
        have dv19 : dkN [(0, 0)] v19 := by rw [ev19]; exact dkN_mulPt 3 (dkN_lit (x := 3) (3) rfl) (dkN_lit (x := 0) (0) rfl) rfl
        have xv19 : v19 = 0 := by rw [ev19]; rfl
        refine lv_iadd hx hb dX6_readsDog_55 ?_
        refine lv_topi (fun v20 ev20 => ?_)
        have dv20 : dkN [(36, 36)] v20 := by rw [ev20]; exact dkN_add (dkN_lit (x := 36) (36) rfl) dv19 rfl
        have xv20 : v20 = 36 := by rw [ev20, xv19]; rfl
        refine lv_istore_n (lv' := [(2, .int v20), (1, .int v2), (0, .ref (z + 340))]) hx hb dX6_readsDog_56 rfl hl (by decide) rfl (fun ls hl => ?_)
        refine lv_aload_n hx hb dX6_readsDog_57 rfl (lv_at hl 2 rfl) ?_
        refine lv_iconst (v := 0) hx hb dX6_readsDog_58 (by decide) ?_
        refine lv_aload_n hx hb dX6_readsDog_59 rfl (lv_at hl 2 rfl) ?_
        refine dk_get (k := 340) hx hb hts iX6_readsDog_6 hown hK (dk_at340 hW) rfl 14 (by decide) (hts (.fieldLink RX6 28 "DogKingsModel" "draft" "[I") (List.mem_of_getElem? (i := 2) rfl)) rfl dX6_readsDog_60 ?_
        refine lv_iconst (v := 0) hx hb dX6_readsDog_63 (by decide) ?_
        refine dk_ild (k := 347) hx hb hK (dk_at347 hW) (dkN_in (n := 54) (dkN_lit (x := 0) (0) rfl) rfl) dX6_readsDog_64 ?_
        refine lv_topi (fun v21 ev21 => ?_)
        have ev21 : v21 = I9 347 0 := ev21
        have dv21 : dkN [(3, 9)] v21 := by rw [ev21]; exact (show dkN [(3, 9)] (I9 347 0) from (by rw [hF9 347 0 rfl]; exact (by rw [hF2 347 0 rfl]; exact np1)))
        have xv21 : v21 = I0 347 0 := ev21.trans ((hF9 347 0 rfl).trans rfl)
        refine lv_iconst (v := 1) hx hb dX6_readsDog_65 (by decide) ?_
        refine lv_isub hx hb dX6_readsDog_66 ?_
        refine lv_topi (fun v22 ev22 => ?_)
        have dv22 : dkN [(2, 8)] v22 := by rw [ev22]; exact dkN_subt dv21 (dkN_lit (x := 1) (1) rfl) rfl
        have xv22 : v22 = (I0 347 0) - (1 : Int32) := by rw [ev22, xv21]
        have q23 : ((I0 347 0) - (1 : Int32)).toInt = (I0 347 0).toInt - (1 : Int) := by first | (rw [← xv22, ← xv21]; exact (by rw [ev22]; exact dk_subE dv21 (dkN_lit (x := 1) (1) rfl) rfl)) | (subst xv22 xv21; exact (by rw [ev22]; exact dk_subE dv21 (dkN_lit (x := 1) (1) rfl) rfl))
        refine dk_Vi (As := [.int 0, .int v22]) (rest := []) ⟨hx, hb, hml, hown, hts⟩ (h_X6_figure_0 l g z I9 0 v22 (show dkN [(0, 90)] (I9 340 8) from dkN_sub f9_340_8 rfl) hO) (cwV 2 hts gX6_readsDog_X6_figure rfl rfl rfl (by decide +kernel) ⟨Nat.le_of_ble_eq_true rfl, Nat.le_of_ble_eq_true rfl⟩) (dk_at340 hW) rfl hK hT hW hS rfl hl.1 rfl (Nat.le_of_ble_eq_true rfl) dX6_readsDog_67 ⟨Nat.zero_le _, Nat.zero_le _⟩ (fun v24 I24 H24 L24 hp24 hW hS => ?_)
        obtain ⟨hF24, hO, hc24⟩ := hp24
        have hF := dkF_call hF hF24 rfl
        have eI24 : I9 = I24 := (dkF_nil hF24).symm
        subst eI24
        obtain ⟨dv24, xr24, -⟩ := hc24
        have xv24 : v24 = 0 := by have h := xr24; exact h
        refine lv_istore_n (lv' := [(3, .int v24), (2, .int v20), (1, .int v2), (0, .ref (z + 340))]) hx hb dX6_readsDog_70 rfl hl (by decide) rfl (fun ls hl => ?_)
        refine lv_aload_n hx hb dX6_readsDog_71 rfl (lv_at hl 3 rfl) ?_
        refine lv_aload_n hx hb dX6_readsDog_72 rfl (lv_at hl 3 rfl) ?_
        refine dk_get (k := 340) hx hb hts iX6_readsDog_6 hown hK (dk_at340 hW) rfl 11 (by decide) (hts (.fieldLink RX6 98 "DogKingsModel" "token" "I") (List.mem_of_getElem? (i := 3) rfl)) rfl dX6_readsDog_73 ?_
        refine lv_topi (fun v25 ev25 => ?_)
        have xv25 : v25 = I0 340 11 := ev25.trans ((hF24 340 11 rfl).trans y15)
        refine lv_iconst (v := 4) hx hb dX6_readsDog_76 (by decide) ?_
        refine lv_icmp_ne (tgt := 84) hx hb dX6_readsDog_77 (by decide) (fun c26 => ?_) (fun c26 => ?_)
        ·
          have q27 : (I0 340 11).toInt ≠ (4 : Int) := by first | (rw [← xv25]; exact (dk_ne c26)) | (subst xv25; exact (dk_ne c26))
          have d28 : dkN [(-2147483648, 3), (5, 2147483647)] v25 := dkN_ne1 (4) (dkN_top v25) (dkN_lit (x := 4) (4) rfl) (dk_ne c26) rfl
          have f29 : dkN [(-2147483648, 3), (5, 2147483647)] (I9 340 11) := by rw [← ev25]; exact d28
          refine lv_iconst (v := 0) hx hb dX6_readsDog_84 (by decide) ?_
          refine lv_iconst (v := 1) hx hb dX6_readsDog_85 (by decide) ?_
          refine dk_Vi (As := [.int 0, .int 1]) (rest := []) ⟨hx, hb, hml, hown, hts⟩ (h_X6_takes_0 l g z I9 0 1 (show dkN [(0, 90)] (I9 340 8) from dkN_sub (by rw [hF24 340 8 rfl]; exact f9_340_8) rfl) hO) (cwV 2 hts gX6_readsDog_X6_takes rfl rfl rfl (by decide +kernel) ⟨Nat.le_of_ble_eq_true rfl, Nat.le_of_ble_eq_true rfl⟩) (dk_at340 hW) rfl hK hT hW hS rfl hl.1 rfl (Nat.le_of_ble_eq_true rfl) dX6_readsDog_86 ⟨Nat.zero_le _, Nat.zero_le _⟩ (fun v30 I30 H30 L30 hp30 hW hS => ?_)
          obtain ⟨hF30, hO, hc30⟩ := hp30
          have hF := dkF_call hF hF30 rfl
          have eI30 : I9 = I30 := (dkF_nil hF30).symm
          subst eI30
          obtain ⟨dv30, xr30, -⟩ := hc30
          have xv30 : v30 = 0 := by have h := xr30; exact h
          refine lv_pop hx hb dX6_readsDog_89 rfl ?_
          refine lv_aload_n hx hb dX6_readsDog_90 rfl (lv_at hl 3 rfl) ?_
          refine dk_Vi (As := []) (rest := []) ⟨hx, hb, hml, hown, hts⟩ (fx_X6_isWell_7 l g z I9 (show dkN [(0, 90)] (I9 340 8) from dkN_sub (by rw [hF30 340 8 rfl]; exact (by rw [hF24 340 8 rfl]; exact f9_340_8)) rfl) hO) (cwV 0 hts gX6_readsDog_X6_isWell rfl rfl rfl (by decide +kernel) ⟨Nat.le_of_ble_eq_true rfl, Nat.le_of_ble_eq_true rfl⟩) (dk_at340 hW) rfl hK hT hW hS rfl hl.1 rfl (Nat.le_of_ble_eq_true rfl) dX6_readsDog_91 ⟨Nat.zero_le _, Nat.zero_le _⟩ (fun v31 I31 H31 L31 hp31 hW hS => ?_)
          obtain ⟨hF31, hO, hc31⟩ := hp31
          have hF := dkF_call hF hF31 rfl
          have eI31 : I9 = I31 := (dkF_nil hF31).symm
          subst eI31
          obtain ⟨dv31, f31_340_8, x31_0, xr31, -⟩ := hc31
          have w32 : I9 340 8 = I0 340 10 := ((hF30 340 8 rfl).trans ((hF24 340 8 rfl).trans y12))
          have q33 : (0 : Int) + 0 ≤ (I0 340 10).toInt := by have h := x31_0; rw [w32] at h; exact h
          have xv31 : v31 = 0 := by have h := xr31; exact h
          refine lv_if_eq (tgt := 132) hx hb dX6_readsDog_94 (by decide) (fun c34 => ?_) (fun c34 => ?_)
          ·
            exact W.vret hx hb hr (fun t ht hW9 => ⟨⟨I9, rfl, ⟨hF, hO, Or.inl ⟨(show dkN [(3, 3)] (I9 340 7) from dkN_sub (by rw [hF31 340 7 rfl]; exact (by rw [hF30 340 7 rfl]; exact (by rw [hF24 340 7 rfl]; exact f9_340_7))) rfl), (show dkN [(0, 90)] (I9 340 8) from dkN_sub f31_340_8 rfl), (show dkN [(3, 9)] (I9 347 0) from dkN_sub (by rw [hF31 347 0 rfl]; exact (by rw [hF30 347 0 rfl]; exact (by rw [hF24 347 0 rfl]; exact (by rw [hF9 347 0 rfl]; exact (by rw [hF2 347 0 rfl]; exact np1))))) rfl), (show dkN [(6, 6)] (I9 347 5) from dkN_sub (by rw [hF31 347 5 rfl]; exact (by rw [hF30 347 5 rfl]; exact (by rw [hF24 347 5 rfl]; exact (by rw [hF9 347 5 rfl]; exact f8)))) rfl), (by omega), (show I9 340 7 = 3 from ((hF31 340 7 rfl).trans ((hF30 340 7 rfl).trans ((hF24 340 7 rfl).trans y11)))), (show I9 340 8 = I0 340 10 from ((hF31 340 8 rfl).trans ((hF30 340 8 rfl).trans ((hF24 340 8 rfl).trans y12)))), (show I9 347 0 = I0 347 0 from ((hF31 347 0 rfl).trans ((hF30 347 0 rfl).trans ((hF24 347 0 rfl).trans ((hF9 347 0 rfl).trans rfl))))), (show I9 347 4 = I0 347 4 from ((hF31 347 4 rfl).trans ((hF30 347 4 rfl).trans ((hF24 347 4 rfl).trans ((hF9 347 4 rfl).trans rfl))))), (show I9 347 5 = I0 347 5 from ((hF31 347 5 rfl).trans ((hF30 347 5 rfl).trans ((hF24 347 5 rfl).trans ((hF9 347 5 rfl).trans rfl))))), trivial⟩⟩, dkW_eq ht hW⟩, hS.F ht⟩) hS.2.2 dX6_readsDog_132
          ·
            exact absurd ((xv31).trans (rfl).symm) c34
        ·
          have q35 : (I0 340 11).toInt = (4 : Int) := by first | (rw [← xv25]; exact (congrArg Int32.toInt c26)) | (subst xv25; exact (congrArg Int32.toInt c26))
          have d36 : dkN [(4, 4)] v25 := dkN_eq1 (dkN_top v25) (dkN_lit (x := 4) (4) rfl) (congrArg Int32.toInt c26) rfl
          have f37 : dkN [(4, 4)] (I9 340 11) := by rw [← ev25]; exact d36
          refine lv_iconst (v := 1) hx hb dX6_readsDog_80 (by decide) ?_
          refine lv_goto (tgt := 85) hx hb dX6_readsDog_81 (by decide) ?_
          refine lv_iconst (v := 1) hx hb dX6_readsDog_85 (by decide) ?_
          refine dk_Vi (As := [.int 1, .int 1]) (rest := []) ⟨hx, hb, hml, hown, hts⟩ (h_X6_takes_0 l g z I9 1 1 (show dkN [(0, 90)] (I9 340 8) from dkN_sub (by rw [hF24 340 8 rfl]; exact f9_340_8) rfl) hO) (cwV 2 hts gX6_readsDog_X6_takes rfl rfl rfl (by decide +kernel) ⟨Nat.le_of_ble_eq_true rfl, Nat.le_of_ble_eq_true rfl⟩) (dk_at340 hW) rfl hK hT hW hS rfl hl.1 rfl (Nat.le_of_ble_eq_true rfl) dX6_readsDog_86 ⟨Nat.zero_le _, Nat.zero_le _⟩ (fun v38 I38 H38 L38 hp38 hW hS => ?_)
          obtain ⟨hF38, hO, hc38⟩ := hp38
          have hF := dkF_call hF hF38 rfl
          have eI38 : I9 = I38 := (dkF_nil hF38).symm
          subst eI38
          obtain ⟨dv38, xr38, -⟩ := hc38
          have xv38 : v38 = 0 := by have h := xr38; exact h
          refine lv_pop hx hb dX6_readsDog_89 rfl ?_
          refine lv_aload_n hx hb dX6_readsDog_90 rfl (lv_at hl 3 rfl) ?_
          refine dk_Vi (As := []) (rest := []) ⟨hx, hb, hml, hown, hts⟩ (fx_X6_isWell_7 l g z I9 (show dkN [(0, 90)] (I9 340 8) from dkN_sub (by rw [hF38 340 8 rfl]; exact (by rw [hF24 340 8 rfl]; exact f9_340_8)) rfl) hO) (cwV 0 hts gX6_readsDog_X6_isWell rfl rfl rfl (by decide +kernel) ⟨Nat.le_of_ble_eq_true rfl, Nat.le_of_ble_eq_true rfl⟩) (dk_at340 hW) rfl hK hT hW hS rfl hl.1 rfl (Nat.le_of_ble_eq_true rfl) dX6_readsDog_91 ⟨Nat.zero_le _, Nat.zero_le _⟩ (fun v39 I39 H39 L39 hp39 hW hS => ?_)
          obtain ⟨hF39, hO, hc39⟩ := hp39
          have hF := dkF_call hF hF39 rfl
          have eI39 : I9 = I39 := (dkF_nil hF39).symm
          subst eI39
          obtain ⟨dv39, f39_340_8, x39_0, xr39, -⟩ := hc39
          have w40 : I9 340 8 = I0 340 10 := ((hF38 340 8 rfl).trans ((hF24 340 8 rfl).trans y12))
          have q41 : (0 : Int) + 0 ≤ (I0 340 10).toInt := by have h := x39_0; rw [w40] at h; exact h
          have xv39 : v39 = 0 := by have h := xr39; exact h
          refine lv_if_eq (tgt := 132) hx hb dX6_readsDog_94 (by decide) (fun c42 => ?_) (fun c42 => ?_)
          ·
            exact W.vret hx hb hr (fun t ht hW9 => ⟨⟨I9, rfl, ⟨hF, hO, Or.inl ⟨(show dkN [(3, 3)] (I9 340 7) from dkN_sub (by rw [hF39 340 7 rfl]; exact (by rw [hF38 340 7 rfl]; exact (by rw [hF24 340 7 rfl]; exact f9_340_7))) rfl), (show dkN [(0, 90)] (I9 340 8) from dkN_sub f39_340_8 rfl), (show dkN [(3, 9)] (I9 347 0) from dkN_sub (by rw [hF39 347 0 rfl]; exact (by rw [hF38 347 0 rfl]; exact (by rw [hF24 347 0 rfl]; exact (by rw [hF9 347 0 rfl]; exact (by rw [hF2 347 0 rfl]; exact np1))))) rfl), (show dkN [(6, 6)] (I9 347 5) from dkN_sub (by rw [hF39 347 5 rfl]; exact (by rw [hF38 347 5 rfl]; exact (by rw [hF24 347 5 rfl]; exact (by rw [hF9 347 5 rfl]; exact f8)))) rfl), (by omega), (show I9 340 7 = 3 from ((hF39 340 7 rfl).trans ((hF38 340 7 rfl).trans ((hF24 340 7 rfl).trans y11)))), (show I9 340 8 = I0 340 10 from ((hF39 340 8 rfl).trans ((hF38 340 8 rfl).trans ((hF24 340 8 rfl).trans y12)))), (show I9 347 0 = I0 347 0 from ((hF39 347 0 rfl).trans ((hF38 347 0 rfl).trans ((hF24 347 0 rfl).trans ((hF9 347 0 rfl).trans rfl))))), (show I9 347 4 = I0 347 4 from ((hF39 347 4 rfl).trans ((hF38 347 4 rfl).trans ((hF24 347 4 rfl).trans ((hF9 347 4 rfl).trans rfl))))), (show I9 347 5 = I0 347 5 from ((hF39 347 5 rfl).trans ((hF38 347 5 rfl).trans ((hF24 347 5 rfl).trans ((hF9 347 5 rfl).trans rfl))))), trivial⟩⟩, dkW_eq ht hW⟩, hS.F ht⟩) hS.2.2 dX6_readsDog_132
          ·
            exact absurd ((xv39).trans (rfl).symm) c42
      ·
        exact (dkN_nil (show dkN [] 6 from dkN_le2 1 dv17 (dkN_lit (x := 6) (6) rfl) (dkc_nle c18) rfl)).elim
    ·
      have q43 : (I0 347 5).toInt + 1 ≤ (6 : Int) := by first | (rw [← xv4]; exact (dkc_nle c5)) | (subst xv4; exact (dkc_nle c5))
      have d44 : dkN [(0, 5)] v4 := dkN_le1 1 dv4 (dkN_lit (x := 6) (6) rfl) (dkc_nle c5) rfl
      have f45 : dkN [(0, 5)] (I0 347 5) := by rw [← ev4]; exact d44
      refine lv_iconst (v := 1) hx hb dX6_readsDog_20 (by decide) ?_
      refine lv_goto (tgt := 25) hx hb dX6_readsDog_21 (by decide) ?_
      refine lv_iconst (v := 3) hx hb dX6_readsDog_25 (by decide) ?_
      refine dk_Vi (As := [.int 1, .int 3]) (rest := []) ⟨hx, hb, hml, hown, hts⟩ (fx_X6_takes_43 l g z I0 1 3 (dkN_lit (x := 1) (1) rfl) (dkN_lit (x := 3) (3) rfl) (show dkN [(-1, -1)] (I0 340 8) from dkN_sub (by rw [hF2 340 8 rfl]; exact np0) rfl) hO) (cwV 2 hts gX6_readsDog_X6_takes rfl rfl rfl (by decide +kernel) ⟨Nat.le_of_ble_eq_true rfl, Nat.le_of_ble_eq_true rfl⟩) (dk_at340 hW) rfl hK hT hW hS rfl hl.1 rfl (Nat.le_of_ble_eq_true rfl) dX6_readsDog_26 ⟨Nat.zero_le _, Nat.zero_le _⟩ (fun v46 I46 H46 L46 hp46 hW hS => ?_)
      obtain ⟨hF46, hO, hc46⟩ := hp46
      have hF := dkF_call hF hF46 rfl
      obtain ⟨_, f46_340_11, f46_340_8, x46_0, x46_1, xr46, xh46_0, xh46_1, xh46_2, xh46_3, xh46_4, xh46_5, -⟩ := hc46
      have q47 : (I0 340 8).toInt + 1 ≤ (0 : Int) := x46_0
      have y48 : I46 340 7 = I0 340 7 := by have h := xh46_0; exact h
      have y49 : I46 340 8 = I0 340 8 := by have h := xh46_1; exact h
      have y50 : I46 340 9 = dkTe (I0 345) (I0 340 6) (I0 340 9) := by have h := xh46_2; exact h
      have y51 : I46 340 10 = I0 340 9 := by have h := xh46_3; exact h
      have y52 : I46 340 11 = dkTk (I0 345) (I0 340 6) (I0 340 9) := by have h := xh46_4; exact h
      have y53 : I46 340 12 = dkTv (I0 345) (I0 340 6) (I0 340 9) := by have h := xh46_5; exact h
      have xv46 : v46 = I0 340 12 := by have h := xr46; exact h
      refine lv_pop hx hb dX6_readsDog_29 rfl ?_
      refine lv_bipush (v := 36) hx hb dX6_readsDog_30 (by decide) ?_
      refine lv_iconst (v := 3) hx hb dX6_readsDog_32 (by decide) ?_
      refine lv_aload_n hx hb dX6_readsDog_33 rfl (lv_at hl 1 rfl) ?_
      refine dk_get (k := 340) hx hb hts iX6_readsDog_6 hown hK (dk_at340 hW) rfl 14 (by decide) (hts (.fieldLink RX6 28 "DogKingsModel" "draft" "[I") (List.mem_of_getElem? (i := 2) rfl)) rfl dX6_readsDog_34 ?_
      refine lv_iconst (v := 5) hx hb dX6_readsDog_37 (by decide) ?_
      refine dk_ild (k := 347) hx hb hK (dk_at347 hW) (dkN_in (n := 54) (dkN_lit (x := 5) (5) rfl) rfl) dX6_readsDog_38 ?_
      refine lv_topi (fun v54 ev54 => ?_)
      have ev54 : v54 = I46 347 5 := ev54
      have dv54 : dkN [(0, 5)] v54 := by rw [ev54]; exact (show dkN [(0, 5)] (I46 347 5) from (by rw [hF46 347 5 rfl]; exact f45))
      have xv54 : v54 = I0 347 5 := ev54.trans ((hF46 347 5 rfl).trans rfl)
      refine lv_bipush (v := 6) hx hb dX6_readsDog_39 (by decide) ?_
      refine lv_icmp_ge (tgt := 53) hx hb dX6_readsDog_41 (by decide) (fun c55 => ?_) (fun c55 => ?_)
      ·
        exact (dkN_nil (show dkN [] 6 from dkN_le1 0 (dkN_lit (x := 6) (6) rfl) dv54 (dkc_le c55) rfl)).elim
      ·
        refine lv_aload_n hx hb dX6_readsDog_44 rfl (lv_at hl 1 rfl) ?_
        refine dk_get (k := 340) hx hb hts iX6_readsDog_6 hown hK (dk_at340 hW) rfl 14 (by decide) (hts (.fieldLink RX6 28 "DogKingsModel" "draft" "[I") (List.mem_of_getElem? (i := 2) rfl)) rfl dX6_readsDog_45 ?_
        refine lv_iconst (v := 5) hx hb dX6_readsDog_48 (by decide) ?_
        refine dk_ild (k := 347) hx hb hK (dk_at347 hW) (dkN_in (n := 54) (dkN_lit (x := 5) (5) rfl) rfl) dX6_readsDog_49 ?_
        refine lv_topi (fun v56 ev56 => ?_)
        have ev56 : v56 = I46 347 5 := ev56
        have dv56 : dkN [(0, 5)] v56 := by rw [ev56]; exact (show dkN [(0, 5)] (I46 347 5) from (by rw [hF46 347 5 rfl]; exact f45))
        have xv56 : v56 = I0 347 5 := ev56.trans ((hF46 347 5 rfl).trans rfl)
        refine lv_goto (tgt := 54) hx hb dX6_readsDog_50 (by decide) ?_
        refine lv_imul hx hb dX6_readsDog_54 ?_
        refine lv_topi (fun v57 ev57 => ?_)
        have dv57 : dkN [(0, 0), (3, 3), (6, 6), (9, 9), (12, 12), (15, 15)] v57 := by rw [ev57]; exact dkN_mulPt 3 (dkN_lit (x := 3) (3) rfl) dv56 rfl
        have xv57 : v57 = (3 : Int32) * (I0 347 5) := by rw [ev57, xv56]
        have q58 : ((3 : Int32) * (I0 347 5)).toInt = (3 : Int) * (I0 347 5).toInt := by first | (rw [← xv57, ← xv56]; exact (by rw [ev57]; exact dk_mulE 3 (x := 3) rfl dv56 (by decide) rfl)) | (subst xv57 xv56; exact (by rw [ev57]; exact dk_mulE 3 (x := 3) rfl dv56 (by decide) rfl))
        refine lv_iadd hx hb dX6_readsDog_55 ?_
        refine lv_topi (fun v59 ev59 => ?_)
        have dv59 : dkN [(36, 36), (39, 39), (42, 42), (45, 45), (48, 48), (51, 51)] v59 := by rw [ev59]; exact dkN_add (dkN_lit (x := 36) (36) rfl) dv57 rfl
        have xv59 : v59 = (36 : Int32) + ((3 : Int32) * (I0 347 5)) := by rw [ev59, xv57]
        have q60 : ((36 : Int32) + ((3 : Int32) * (I0 347 5))).toInt = (36 : Int) + ((3 : Int32) * (I0 347 5)).toInt := by first | (rw [← xv59, ← xv57]; exact (by rw [ev59]; exact dk_addE (dkN_lit (x := 36) (36) rfl) dv57 rfl)) | (subst xv59 xv57; exact (by rw [ev59]; exact dk_addE (dkN_lit (x := 36) (36) rfl) dv57 rfl))
        refine lv_istore_n (lv' := [(2, .int v59), (1, .int v2), (0, .ref (z + 340))]) hx hb dX6_readsDog_56 rfl hl (by decide) rfl (fun ls hl => ?_)
        refine lv_aload_n hx hb dX6_readsDog_57 rfl (lv_at hl 2 rfl) ?_
        refine lv_iconst (v := 0) hx hb dX6_readsDog_58 (by decide) ?_
        refine lv_aload_n hx hb dX6_readsDog_59 rfl (lv_at hl 2 rfl) ?_
        refine dk_get (k := 340) hx hb hts iX6_readsDog_6 hown hK (dk_at340 hW) rfl 14 (by decide) (hts (.fieldLink RX6 28 "DogKingsModel" "draft" "[I") (List.mem_of_getElem? (i := 2) rfl)) rfl dX6_readsDog_60 ?_
        refine lv_iconst (v := 0) hx hb dX6_readsDog_63 (by decide) ?_
        refine dk_ild (k := 347) hx hb hK (dk_at347 hW) (dkN_in (n := 54) (dkN_lit (x := 0) (0) rfl) rfl) dX6_readsDog_64 ?_
        refine lv_topi (fun v61 ev61 => ?_)
        have ev61 : v61 = I46 347 0 := ev61
        have dv61 : dkN [(3, 9)] v61 := by rw [ev61]; exact (show dkN [(3, 9)] (I46 347 0) from (by rw [hF46 347 0 rfl]; exact (by rw [hF2 347 0 rfl]; exact np1)))
        have xv61 : v61 = I0 347 0 := ev61.trans ((hF46 347 0 rfl).trans rfl)
        refine lv_iconst (v := 1) hx hb dX6_readsDog_65 (by decide) ?_
        refine lv_isub hx hb dX6_readsDog_66 ?_
        refine lv_topi (fun v62 ev62 => ?_)
        have dv62 : dkN [(2, 8)] v62 := by rw [ev62]; exact dkN_subt dv61 (dkN_lit (x := 1) (1) rfl) rfl
        have xv62 : v62 = (I0 347 0) - (1 : Int32) := by rw [ev62, xv61]
        have q63 : ((I0 347 0) - (1 : Int32)).toInt = (I0 347 0).toInt - (1 : Int) := by first | (rw [← xv62, ← xv61]; exact (by rw [ev62]; exact dk_subE dv61 (dkN_lit (x := 1) (1) rfl) rfl)) | (subst xv62 xv61; exact (by rw [ev62]; exact dk_subE dv61 (dkN_lit (x := 1) (1) rfl) rfl))
        refine dk_Vi (As := [.int 0, .int v62]) (rest := []) ⟨hx, hb, hml, hown, hts⟩ (fx_X6_figure_12 l g z I46 0 v62 (dkN_lit (x := 0) (0) rfl) dv62 (show dkN [(-1, -1)] (I46 340 8) from dkN_sub f46_340_8 rfl) hO) (cwV 2 hts gX6_readsDog_X6_figure rfl rfl rfl (by decide +kernel) ⟨Nat.le_of_ble_eq_true rfl, Nat.le_of_ble_eq_true rfl⟩) (dk_at340 hW) rfl hK hT hW hS rfl hl.1 rfl (Nat.le_of_ble_eq_true rfl) dX6_readsDog_67 ⟨Nat.zero_le _, Nat.zero_le _⟩ (fun v64 I64 H64 L64 hp64 hW hS => ?_)
        obtain ⟨hF64, hO, hc64⟩ := hp64
        have hF := dkF_call hF hF64 rfl
        rcases hc64 with ⟨dv64, f64_340_11, f64_340_12, f64_340_7, f64_340_8, x64_0, x64_1, x64_2, xr64, xh64_0, xh64_1, xh64_2, xh64_3, xh64_4, xh64_5, -⟩ | hc64
        ·
          have w65 : I46 340 8 = I0 340 8 := y49
          have w66 : I46 340 11 = dkTk (I0 345) (I0 340 6) (I0 340 9) := y52
          have q67 : (dkTk (I0 345) (I0 340 6) (I0 340 9)).toInt = (2 : Int) := by have h := x64_1; rw [w66] at h; exact h
          have w68 : I46 340 12 = dkTv (I0 345) (I0 340 6) (I0 340 9) := y53
          have q69 : (dkTv (I0 345) (I0 340 6) (I0 340 9)).toInt + 1 ≤ (0 : Int) := by have h := x64_2; rw [w68] at h; exact h
          have y70 : I64 340 7 = 2 := by have h := xh64_0; exact h
          have w71 : I46 340 10 = I0 340 9 := y51
          have y72 : I64 340 8 = I0 340 9 := by have h := xh64_1; rw [w71] at h; exact h
          have w73 : I46 340 9 = dkTe (I0 345) (I0 340 6) (I0 340 9) := y50
          have y74 : I64 340 9 = dkTe (I0 345) (I0 340 6) (I0 340 9) := by have h := xh64_2; rw [w73] at h; exact h
          have y75 : I64 340 10 = I0 340 9 := by have h := xh64_3; rw [w71] at h; exact h
          have y76 : I64 340 11 = dkTk (I0 345) (I0 340 6) (I0 340 9) := by have h := xh64_4; rw [w66] at h; exact h
          have y77 : I64 340 12 = dkTv (I0 345) (I0 340 6) (I0 340 9) := by have h := xh64_5; rw [w68] at h; exact h
          have xv64 : v64 = 0 := by have h := xr64; exact h
          refine lv_istore_n (lv' := [(3, .int v64), (2, .int v59), (1, .int v2), (0, .ref (z + 340))]) hx hb dX6_readsDog_70 rfl hl (by decide) rfl (fun ls hl => ?_)
          refine lv_aload_n hx hb dX6_readsDog_71 rfl (lv_at hl 3 rfl) ?_
          refine lv_aload_n hx hb dX6_readsDog_72 rfl (lv_at hl 3 rfl) ?_
          refine dk_get (k := 340) hx hb hts iX6_readsDog_6 hown hK (dk_at340 hW) rfl 11 (by decide) (hts (.fieldLink RX6 98 "DogKingsModel" "token" "I") (List.mem_of_getElem? (i := 3) rfl)) rfl dX6_readsDog_73 ?_
          refine lv_topi (fun v78 ev78 => ?_)
          have dv78 : dkN [(2, 2)] v78 := by rw [ev78]; exact f64_340_11
          have xv78 : v78 = dkTk (I0 345) (I0 340 6) (I0 340 9) := ev78.trans y76
          refine lv_iconst (v := 4) hx hb dX6_readsDog_76 (by decide) ?_
          refine lv_icmp_ne (tgt := 84) hx hb dX6_readsDog_77 (by decide) (fun c79 => ?_) (fun c79 => ?_)
          ·
            have q80 : (dkTk (I0 345) (I0 340 6) (I0 340 9)).toInt ≠ (4 : Int) := by first | (rw [← xv78]; exact (dk_ne c79)) | (subst xv78; exact (dk_ne c79))
            refine lv_iconst (v := 0) hx hb dX6_readsDog_84 (by decide) ?_
            refine lv_iconst (v := 1) hx hb dX6_readsDog_85 (by decide) ?_
            refine dk_Vi (As := [.int 0, .int 1]) (rest := []) ⟨hx, hb, hml, hown, hts⟩ (h_X6_takes_0 l g z I64 0 1 (show dkN [(0, 90)] (I64 340 8) from dkN_sub f64_340_8 rfl) hO) (cwV 2 hts gX6_readsDog_X6_takes rfl rfl rfl (by decide +kernel) ⟨Nat.le_of_ble_eq_true rfl, Nat.le_of_ble_eq_true rfl⟩) (dk_at340 hW) rfl hK hT hW hS rfl hl.1 rfl (Nat.le_of_ble_eq_true rfl) dX6_readsDog_86 ⟨Nat.zero_le _, Nat.zero_le _⟩ (fun v81 I81 H81 L81 hp81 hW hS => ?_)
            obtain ⟨hF81, hO, hc81⟩ := hp81
            have hF := dkF_call hF hF81 rfl
            have eI81 : I64 = I81 := (dkF_nil hF81).symm
            subst eI81
            obtain ⟨dv81, xr81, -⟩ := hc81
            have xv81 : v81 = 0 := by have h := xr81; exact h
            refine lv_pop hx hb dX6_readsDog_89 rfl ?_
            refine lv_aload_n hx hb dX6_readsDog_90 rfl (lv_at hl 3 rfl) ?_
            refine dk_Vi (As := []) (rest := []) ⟨hx, hb, hml, hown, hts⟩ (fx_X6_isWell_7 l g z I64 (show dkN [(0, 90)] (I64 340 8) from dkN_sub (by rw [hF81 340 8 rfl]; exact f64_340_8) rfl) hO) (cwV 0 hts gX6_readsDog_X6_isWell rfl rfl rfl (by decide +kernel) ⟨Nat.le_of_ble_eq_true rfl, Nat.le_of_ble_eq_true rfl⟩) (dk_at340 hW) rfl hK hT hW hS rfl hl.1 rfl (Nat.le_of_ble_eq_true rfl) dX6_readsDog_91 ⟨Nat.zero_le _, Nat.zero_le _⟩ (fun v82 I82 H82 L82 hp82 hW hS => ?_)
            obtain ⟨hF82, hO, hc82⟩ := hp82
            have hF := dkF_call hF hF82 rfl
            have eI82 : I64 = I82 := (dkF_nil hF82).symm
            subst eI82
            obtain ⟨dv82, f82_340_8, x82_0, xr82, -⟩ := hc82
            have w83 : I64 340 8 = I0 340 9 := ((hF81 340 8 rfl).trans y72)
            have q84 : (0 : Int) + 0 ≤ (I0 340 9).toInt := by have h := x82_0; rw [w83] at h; exact h
            have xv82 : v82 = 0 := by have h := xr82; exact h
            refine lv_if_eq (tgt := 132) hx hb dX6_readsDog_94 (by decide) (fun c85 => ?_) (fun c85 => ?_)
            ·
              have i0 : (0 : Int32).toInt = 0 := rfl
              have i1 : (1 : Int32).toInt = 1 := rfl
              have i2 : (2 : Int32).toInt = 2 := rfl
              have i3 : (3 : Int32).toInt = 3 := rfl
              have i9 : (9 : Int32).toInt = 9 := rfl
              have i30 : (30 : Int32).toInt = 30 := rfl
              have i44 : (44 : Int32).toInt = 44 := rfl
              have i59 : (59 : Int32).toInt = 59 := rfl
              have i109 : (109 : Int32).toInt = 109 := rfl
              have i116 : (116 : Int32).toInt = 116 := rfl
              have e86 : dkDo (I0 345) (I0 340 6) (I0 347 0) (I0 340 9) = (2, I0 340 9) := (dkTh_q (dkK_2 (T := (I0 345)) (n := (I0 340 6)) (a := I0 340 9) (lo := 0) (hi := ((I0 347 0) - (1 : Int32))) q67 (by omega)) (by decide))
              exact W.vret hx hb hr (fun t ht hW9 => ⟨⟨I64, rfl, ⟨hF, hO, Or.inr (Or.inl ⟨(show dkN [(1, 2)] (I64 340 7) from dkN_sub (by rw [hF82 340 7 rfl]; exact (by rw [hF81 340 7 rfl]; exact f64_340_7)) rfl), (show dkN [(0, 90)] (I64 340 8) from dkN_sub f82_340_8 rfl), (show dkN [(3, 9)] (I64 347 0) from dkN_sub (by rw [hF82 347 0 rfl]; exact (by rw [hF81 347 0 rfl]; exact (by rw [hF64 347 0 rfl]; exact (by rw [hF46 347 0 rfl]; exact (by rw [hF2 347 0 rfl]; exact np1))))) rfl), (show dkN [(0, 5)] (I64 347 5) from dkN_sub (by rw [hF82 347 5 rfl]; exact (by rw [hF81 347 5 rfl]; exact (by rw [hF64 347 5 rfl]; exact (by rw [hF46 347 5 rfl]; exact f45)))) rfl), (by omega), (dkE_k e86 (by decide)), (((show I64 340 7 = 2 from ((hF82 340 7 rfl).trans ((hF81 340 7 rfl).trans y70)))).trans (dkP_1 e86).symm), (((show I64 340 8 = I0 340 9 from ((hF82 340 8 rfl).trans ((hF81 340 8 rfl).trans y72)))).trans (dkP_2 e86).symm), (show I64 347 0 = I0 347 0 from ((hF82 347 0 rfl).trans ((hF81 347 0 rfl).trans ((hF64 347 0 rfl).trans ((hF46 347 0 rfl).trans rfl))))), (show I64 347 4 = I0 347 4 from ((hF82 347 4 rfl).trans ((hF81 347 4 rfl).trans ((hF64 347 4 rfl).trans ((hF46 347 4 rfl).trans rfl))))), (show I64 347 5 = I0 347 5 from ((hF82 347 5 rfl).trans ((hF81 347 5 rfl).trans ((hF64 347 5 rfl).trans ((hF46 347 5 rfl).trans rfl))))), trivial⟩)⟩, dkW_eq ht hW⟩, hS.F ht⟩) hS.2.2 dX6_readsDog_132
            ·
              exact absurd ((xv82).trans (rfl).symm) c85
          ·
            exact (dkN_nil (show dkN [] v78 from dkN_eq1 dv78 (dkN_lit (x := 4) (4) rfl) (congrArg Int32.toInt c79) rfl)).elim
        rcases hc64 with ⟨dv64, f64_340_11, f64_340_12, f64_340_7, f64_340_8, x64_0, x64_1, x64_2, x64_3, xr64, xh64_0, xh64_1, xh64_2, xh64_3, xh64_4, xh64_5, -⟩ | hc64
        ·
          have w87 : I46 340 8 = I0 340 8 := y49
          have w88 : I46 340 11 = dkTk (I0 345) (I0 340 6) (I0 340 9) := y52
          have q89 : (dkTk (I0 345) (I0 340 6) (I0 340 9)).toInt = (2 : Int) := by have h := x64_1; rw [w88] at h; exact h
          have w90 : I46 340 12 = dkTv (I0 345) (I0 340 6) (I0 340 9) := y53
          have q91 : (0 : Int) + 0 ≤ (dkTv (I0 345) (I0 340 6) (I0 340 9)).toInt := by have h := x64_2; rw [w90] at h; exact h
          have q92 : ((I0 347 0) - (1 : Int32)).toInt + 1 ≤ (dkTv (I0 345) (I0 340 6) (I0 340 9)).toInt := by have h := x64_3; rw [w90, xv62] at h; exact h
          have y93 : I64 340 7 = 2 := by have h := xh64_0; exact h
          have w94 : I46 340 10 = I0 340 9 := y51
          have y95 : I64 340 8 = I0 340 9 := by have h := xh64_1; rw [w94] at h; exact h
          have w96 : I46 340 9 = dkTe (I0 345) (I0 340 6) (I0 340 9) := y50
          have y97 : I64 340 9 = dkTe (I0 345) (I0 340 6) (I0 340 9) := by have h := xh64_2; rw [w96] at h; exact h
          have y98 : I64 340 10 = I0 340 9 := by have h := xh64_3; rw [w94] at h; exact h
          have y99 : I64 340 11 = dkTk (I0 345) (I0 340 6) (I0 340 9) := by have h := xh64_4; rw [w88] at h; exact h
          have y100 : I64 340 12 = dkTv (I0 345) (I0 340 6) (I0 340 9) := by have h := xh64_5; rw [w90] at h; exact h
          have xv64 : v64 = 0 := by have h := xr64; exact h
          refine lv_istore_n (lv' := [(3, .int v64), (2, .int v59), (1, .int v2), (0, .ref (z + 340))]) hx hb dX6_readsDog_70 rfl hl (by decide) rfl (fun ls hl => ?_)
          refine lv_aload_n hx hb dX6_readsDog_71 rfl (lv_at hl 3 rfl) ?_
          refine lv_aload_n hx hb dX6_readsDog_72 rfl (lv_at hl 3 rfl) ?_
          refine dk_get (k := 340) hx hb hts iX6_readsDog_6 hown hK (dk_at340 hW) rfl 11 (by decide) (hts (.fieldLink RX6 98 "DogKingsModel" "token" "I") (List.mem_of_getElem? (i := 3) rfl)) rfl dX6_readsDog_73 ?_
          refine lv_topi (fun v101 ev101 => ?_)
          have dv101 : dkN [(2, 2)] v101 := by rw [ev101]; exact f64_340_11
          have xv101 : v101 = dkTk (I0 345) (I0 340 6) (I0 340 9) := ev101.trans y99
          refine lv_iconst (v := 4) hx hb dX6_readsDog_76 (by decide) ?_
          refine lv_icmp_ne (tgt := 84) hx hb dX6_readsDog_77 (by decide) (fun c102 => ?_) (fun c102 => ?_)
          ·
            have q103 : (dkTk (I0 345) (I0 340 6) (I0 340 9)).toInt ≠ (4 : Int) := by first | (rw [← xv101]; exact (dk_ne c102)) | (subst xv101; exact (dk_ne c102))
            refine lv_iconst (v := 0) hx hb dX6_readsDog_84 (by decide) ?_
            refine lv_iconst (v := 1) hx hb dX6_readsDog_85 (by decide) ?_
            refine dk_Vi (As := [.int 0, .int 1]) (rest := []) ⟨hx, hb, hml, hown, hts⟩ (h_X6_takes_0 l g z I64 0 1 (show dkN [(0, 90)] (I64 340 8) from dkN_sub f64_340_8 rfl) hO) (cwV 2 hts gX6_readsDog_X6_takes rfl rfl rfl (by decide +kernel) ⟨Nat.le_of_ble_eq_true rfl, Nat.le_of_ble_eq_true rfl⟩) (dk_at340 hW) rfl hK hT hW hS rfl hl.1 rfl (Nat.le_of_ble_eq_true rfl) dX6_readsDog_86 ⟨Nat.zero_le _, Nat.zero_le _⟩ (fun v104 I104 H104 L104 hp104 hW hS => ?_)
            obtain ⟨hF104, hO, hc104⟩ := hp104
            have hF := dkF_call hF hF104 rfl
            have eI104 : I64 = I104 := (dkF_nil hF104).symm
            subst eI104
            obtain ⟨dv104, xr104, -⟩ := hc104
            have xv104 : v104 = 0 := by have h := xr104; exact h
            refine lv_pop hx hb dX6_readsDog_89 rfl ?_
            refine lv_aload_n hx hb dX6_readsDog_90 rfl (lv_at hl 3 rfl) ?_
            refine dk_Vi (As := []) (rest := []) ⟨hx, hb, hml, hown, hts⟩ (fx_X6_isWell_7 l g z I64 (show dkN [(0, 90)] (I64 340 8) from dkN_sub (by rw [hF104 340 8 rfl]; exact f64_340_8) rfl) hO) (cwV 0 hts gX6_readsDog_X6_isWell rfl rfl rfl (by decide +kernel) ⟨Nat.le_of_ble_eq_true rfl, Nat.le_of_ble_eq_true rfl⟩) (dk_at340 hW) rfl hK hT hW hS rfl hl.1 rfl (Nat.le_of_ble_eq_true rfl) dX6_readsDog_91 ⟨Nat.zero_le _, Nat.zero_le _⟩ (fun v105 I105 H105 L105 hp105 hW hS => ?_)
            obtain ⟨hF105, hO, hc105⟩ := hp105
            have hF := dkF_call hF hF105 rfl
            have eI105 : I64 = I105 := (dkF_nil hF105).symm
            subst eI105
            obtain ⟨dv105, f105_340_8, x105_0, xr105, -⟩ := hc105
            have w106 : I64 340 8 = I0 340 9 := ((hF104 340 8 rfl).trans y95)
            have q107 : (0 : Int) + 0 ≤ (I0 340 9).toInt := by have h := x105_0; rw [w106] at h; exact h
            have xv105 : v105 = 0 := by have h := xr105; exact h
            refine lv_if_eq (tgt := 132) hx hb dX6_readsDog_94 (by decide) (fun c108 => ?_) (fun c108 => ?_)
            ·
              have i0 : (0 : Int32).toInt = 0 := rfl
              have i1 : (1 : Int32).toInt = 1 := rfl
              have i2 : (2 : Int32).toInt = 2 := rfl
              have i3 : (3 : Int32).toInt = 3 := rfl
              have i9 : (9 : Int32).toInt = 9 := rfl
              have i30 : (30 : Int32).toInt = 30 := rfl
              have i44 : (44 : Int32).toInt = 44 := rfl
              have i59 : (59 : Int32).toInt = 59 := rfl
              have i109 : (109 : Int32).toInt = 109 := rfl
              have i116 : (116 : Int32).toInt = 116 := rfl
              have e109 : dkDo (I0 345) (I0 340 6) (I0 347 0) (I0 340 9) = (2, I0 340 9) := (dkTh_q (dkK_2 (T := (I0 345)) (n := (I0 340 6)) (a := I0 340 9) (lo := 0) (hi := ((I0 347 0) - (1 : Int32))) q89 (by omega)) (by decide))
              exact W.vret hx hb hr (fun t ht hW9 => ⟨⟨I64, rfl, ⟨hF, hO, Or.inr (Or.inl ⟨(show dkN [(1, 2)] (I64 340 7) from dkN_sub (by rw [hF105 340 7 rfl]; exact (by rw [hF104 340 7 rfl]; exact f64_340_7)) rfl), (show dkN [(0, 90)] (I64 340 8) from dkN_sub f105_340_8 rfl), (show dkN [(3, 9)] (I64 347 0) from dkN_sub (by rw [hF105 347 0 rfl]; exact (by rw [hF104 347 0 rfl]; exact (by rw [hF64 347 0 rfl]; exact (by rw [hF46 347 0 rfl]; exact (by rw [hF2 347 0 rfl]; exact np1))))) rfl), (show dkN [(0, 5)] (I64 347 5) from dkN_sub (by rw [hF105 347 5 rfl]; exact (by rw [hF104 347 5 rfl]; exact (by rw [hF64 347 5 rfl]; exact (by rw [hF46 347 5 rfl]; exact f45)))) rfl), (by omega), (dkE_k e109 (by decide)), (((show I64 340 7 = 2 from ((hF105 340 7 rfl).trans ((hF104 340 7 rfl).trans y93)))).trans (dkP_1 e109).symm), (((show I64 340 8 = I0 340 9 from ((hF105 340 8 rfl).trans ((hF104 340 8 rfl).trans y95)))).trans (dkP_2 e109).symm), (show I64 347 0 = I0 347 0 from ((hF105 347 0 rfl).trans ((hF104 347 0 rfl).trans ((hF64 347 0 rfl).trans ((hF46 347 0 rfl).trans rfl))))), (show I64 347 4 = I0 347 4 from ((hF105 347 4 rfl).trans ((hF104 347 4 rfl).trans ((hF64 347 4 rfl).trans ((hF46 347 4 rfl).trans rfl))))), (show I64 347 5 = I0 347 5 from ((hF105 347 5 rfl).trans ((hF104 347 5 rfl).trans ((hF64 347 5 rfl).trans ((hF46 347 5 rfl).trans rfl))))), trivial⟩)⟩, dkW_eq ht hW⟩, hS.F ht⟩) hS.2.2 dX6_readsDog_132
            ·
              exact absurd ((xv105).trans (rfl).symm) c108
          ·
            exact (dkN_nil (show dkN [] v101 from dkN_eq1 dv101 (dkN_lit (x := 4) (4) rfl) (congrArg Int32.toInt c102) rfl)).elim
        rcases hc64 with ⟨dv64, f64_340_11, f64_340_8, x64_0, x64_1, x64_2, x64_3, xr64, xh64_0, xh64_1, xh64_2, xh64_3, xh64_4, xh64_5, -⟩ | hc64
        ·
          have w110 : I46 340 8 = I0 340 8 := y49
          have w111 : I46 340 11 = dkTk (I0 345) (I0 340 6) (I0 340 9) := y52
          have q112 : (dkTk (I0 345) (I0 340 6) (I0 340 9)).toInt = (2 : Int) := by have h := x64_1; rw [w111] at h; exact h
          have w113 : I46 340 12 = dkTv (I0 345) (I0 340 6) (I0 340 9) := y53
          have q114 : (0 : Int) + 0 ≤ (dkTv (I0 345) (I0 340 6) (I0 340 9)).toInt := by have h := x64_2; rw [w113] at h; exact h
          have q115 : (dkTv (I0 345) (I0 340 6) (I0 340 9)).toInt + 0 ≤ ((I0 347 0) - (1 : Int32)).toInt := by have h := x64_3; rw [w113, xv62] at h; exact h
          have w116 : I46 340 7 = I0 340 7 := y48
          have y117 : I64 340 7 = I0 340 7 := by have h := xh64_0; rw [w116] at h; exact h
          have y118 : I64 340 8 = I0 340 8 := by have h := xh64_1; rw [w110] at h; exact h
          have w119 : I46 345 = I0 345 := ((funext fun j => hF46 345 j (dkNin_k rfl dkNin_nil)).trans rfl)
          have w120 : I46 340 6 = I0 340 6 := ((hF46 340 6 rfl).trans rfl)
          have w121 : I46 340 9 = dkTe (I0 345) (I0 340 6) (I0 340 9) := y50
          have y122 : I64 340 9 = dkTe (I0 345) (I0 340 6) (dkTe (I0 345) (I0 340 6) (I0 340 9)) := by have h := xh64_2; rw [w119, w120, w121] at h; exact h
          have y123 : I64 340 10 = dkTe (I0 345) (I0 340 6) (I0 340 9) := by have h := xh64_3; rw [w121] at h; exact h
          have y124 : I64 340 11 = dkTk (I0 345) (I0 340 6) (dkTe (I0 345) (I0 340 6) (I0 340 9)) := by have h := xh64_4; rw [w119, w120, w121] at h; exact h
          have y125 : I64 340 12 = dkTv (I0 345) (I0 340 6) (dkTe (I0 345) (I0 340 6) (I0 340 9)) := by have h := xh64_5; rw [w119, w120, w121] at h; exact h
          have xv64 : v64 = dkTv (I0 345) (I0 340 6) (I0 340 9) := by have h := xr64; rw [w113] at h; exact h
          refine lv_istore_n (lv' := [(3, .int v64), (2, .int v59), (1, .int v2), (0, .ref (z + 340))]) hx hb dX6_readsDog_70 rfl hl (by decide) rfl (fun ls hl => ?_)
          refine lv_aload_n hx hb dX6_readsDog_71 rfl (lv_at hl 3 rfl) ?_
          refine lv_aload_n hx hb dX6_readsDog_72 rfl (lv_at hl 3 rfl) ?_
          refine dk_get (k := 340) hx hb hts iX6_readsDog_6 hown hK (dk_at340 hW) rfl 11 (by decide) (hts (.fieldLink RX6 98 "DogKingsModel" "token" "I") (List.mem_of_getElem? (i := 3) rfl)) rfl dX6_readsDog_73 ?_
          refine lv_topi (fun v126 ev126 => ?_)
          have dv126 : dkN [(0, 5)] v126 := by rw [ev126]; exact f64_340_11
          have xv126 : v126 = dkTk (I0 345) (I0 340 6) (dkTe (I0 345) (I0 340 6) (I0 340 9)) := ev126.trans y124
          refine lv_iconst (v := 4) hx hb dX6_readsDog_76 (by decide) ?_
          refine lv_icmp_ne (tgt := 84) hx hb dX6_readsDog_77 (by decide) (fun c127 => ?_) (fun c127 => ?_)
          ·
            have q128 : (dkTk (I0 345) (I0 340 6) (dkTe (I0 345) (I0 340 6) (I0 340 9))).toInt ≠ (4 : Int) := by first | (rw [← xv126]; exact (dk_ne c127)) | (subst xv126; exact (dk_ne c127))
            have d129 : dkN [(0, 3), (5, 5)] v126 := dkN_ne1 (4) dv126 (dkN_lit (x := 4) (4) rfl) (dk_ne c127) rfl
            have f130 : dkN [(0, 3), (5, 5)] (I64 340 11) := by rw [← ev126]; exact d129
            refine lv_iconst (v := 0) hx hb dX6_readsDog_84 (by decide) ?_
            refine lv_iconst (v := 1) hx hb dX6_readsDog_85 (by decide) ?_
            refine dk_Vi (As := [.int 0, .int 1]) (rest := []) ⟨hx, hb, hml, hown, hts⟩ (fx_X6_takes_31 l g z I64 0 1 (dkN_lit (x := 0) (0) rfl) (dkN_lit (x := 1) (1) rfl) (show dkN [(-1, -1)] (I64 340 8) from dkN_sub f64_340_8 rfl) hO) (cwV 2 hts gX6_readsDog_X6_takes rfl rfl rfl (by decide +kernel) ⟨Nat.le_of_ble_eq_true rfl, Nat.le_of_ble_eq_true rfl⟩) (dk_at340 hW) rfl hK hT hW hS rfl hl.1 rfl (Nat.le_of_ble_eq_true rfl) dX6_readsDog_86 ⟨Nat.zero_le _, Nat.zero_le _⟩ (fun v131 I131 H131 L131 hp131 hW hS => ?_)
            obtain ⟨hF131, hO, hc131⟩ := hp131
            have hF := dkF_call hF hF131 rfl
            obtain ⟨dv131, f131_340_7, f131_340_8, x131_0, x131_1, xr131, xh131_0, xh131_1, xh131_2, xh131_3, xh131_4, xh131_5, -⟩ := hc131
            have w132 : I64 340 8 = I0 340 8 := y118
            have y133 : I131 340 7 = 1 := by have h := xh131_0; exact h
            have w134 : I64 340 10 = dkTe (I0 345) (I0 340 6) (I0 340 9) := y123
            have y135 : I131 340 8 = dkTe (I0 345) (I0 340 6) (I0 340 9) := by have h := xh131_1; rw [w134] at h; exact h
            have w136 : I64 340 9 = dkTe (I0 345) (I0 340 6) (dkTe (I0 345) (I0 340 6) (I0 340 9)) := y122
            have y137 : I131 340 9 = dkTe (I0 345) (I0 340 6) (dkTe (I0 345) (I0 340 6) (I0 340 9)) := by have h := xh131_2; rw [w136] at h; exact h
            have y138 : I131 340 10 = dkTe (I0 345) (I0 340 6) (I0 340 9) := by have h := xh131_3; rw [w134] at h; exact h
            have w139 : I64 340 11 = dkTk (I0 345) (I0 340 6) (dkTe (I0 345) (I0 340 6) (I0 340 9)) := y124
            have y140 : I131 340 11 = dkTk (I0 345) (I0 340 6) (dkTe (I0 345) (I0 340 6) (I0 340 9)) := by have h := xh131_4; rw [w139] at h; exact h
            have w141 : I64 340 12 = dkTv (I0 345) (I0 340 6) (dkTe (I0 345) (I0 340 6) (I0 340 9)) := y125
            have y142 : I131 340 12 = dkTv (I0 345) (I0 340 6) (dkTe (I0 345) (I0 340 6) (I0 340 9)) := by have h := xh131_5; rw [w141] at h; exact h
            have xv131 : v131 = 0 := by have h := xr131; exact h
            refine lv_pop hx hb dX6_readsDog_89 rfl ?_
            refine lv_aload_n hx hb dX6_readsDog_90 rfl (lv_at hl 3 rfl) ?_
            refine dk_Vi (As := []) (rest := []) ⟨hx, hb, hml, hown, hts⟩ (fx_X6_isWell_7 l g z I131 (show dkN [(0, 90)] (I131 340 8) from dkN_sub f131_340_8 rfl) hO) (cwV 0 hts gX6_readsDog_X6_isWell rfl rfl rfl (by decide +kernel) ⟨Nat.le_of_ble_eq_true rfl, Nat.le_of_ble_eq_true rfl⟩) (dk_at340 hW) rfl hK hT hW hS rfl hl.1 rfl (Nat.le_of_ble_eq_true rfl) dX6_readsDog_91 ⟨Nat.zero_le _, Nat.zero_le _⟩ (fun v143 I143 H143 L143 hp143 hW hS => ?_)
            obtain ⟨hF143, hO, hc143⟩ := hp143
            have hF := dkF_call hF hF143 rfl
            have eI143 : I131 = I143 := (dkF_nil hF143).symm
            subst eI143
            obtain ⟨dv143, f143_340_8, x143_0, xr143, -⟩ := hc143
            have w144 : I131 340 8 = dkTe (I0 345) (I0 340 6) (I0 340 9) := y135
            have q145 : (0 : Int) + 0 ≤ (dkTe (I0 345) (I0 340 6) (I0 340 9)).toInt := by have h := x143_0; rw [w144] at h; exact h
            have xv143 : v143 = 0 := by have h := xr143; exact h
            refine lv_if_eq (tgt := 132) hx hb dX6_readsDog_94 (by decide) (fun c146 => ?_) (fun c146 => ?_)
            ·
              have i0 : (0 : Int32).toInt = 0 := rfl
              have i1 : (1 : Int32).toInt = 1 := rfl
              have i2 : (2 : Int32).toInt = 2 := rfl
              have i3 : (3 : Int32).toInt = 3 := rfl
              have i9 : (9 : Int32).toInt = 9 := rfl
              have i30 : (30 : Int32).toInt = 30 := rfl
              have i44 : (44 : Int32).toInt = 44 := rfl
              have i59 : (59 : Int32).toInt = 59 := rfl
              have i109 : (109 : Int32).toInt = 109 := rfl
              have i116 : (116 : Int32).toInt = 116 := rfl
              have e147 : dkDo (I0 345) (I0 340 6) (I0 347 0) (I0 340 9) = (1, dkTe (I0 345) (I0 340 6) (I0 340 9)) := ((dkTh_p (dkK_0 (T := (I0 345)) (n := (I0 340 6)) (a := I0 340 9) (lo := 0) (hi := ((I0 347 0) - (1 : Int32))) q112 (by omega) (by omega))).trans (dkK_sn (T := (I0 345)) (n := (I0 340 6)) (a := dkTe (I0 345) (I0 340 6) (I0 340 9)) q128))
              exact W.vret hx hb hr (fun t ht hW9 => ⟨⟨I131, rfl, ⟨hF, hO, Or.inr (Or.inl ⟨(show dkN [(1, 2)] (I131 340 7) from dkN_sub (by rw [hF143 340 7 rfl]; exact f131_340_7) rfl), (show dkN [(0, 90)] (I131 340 8) from dkN_sub f143_340_8 rfl), (show dkN [(3, 9)] (I131 347 0) from dkN_sub (by rw [hF143 347 0 rfl]; exact (by rw [hF131 347 0 rfl]; exact (by rw [hF64 347 0 rfl]; exact (by rw [hF46 347 0 rfl]; exact (by rw [hF2 347 0 rfl]; exact np1))))) rfl), (show dkN [(0, 5)] (I131 347 5) from dkN_sub (by rw [hF143 347 5 rfl]; exact (by rw [hF131 347 5 rfl]; exact (by rw [hF64 347 5 rfl]; exact (by rw [hF46 347 5 rfl]; exact f45)))) rfl), (by omega), (dkE_k e147 (by decide)), (((show I131 340 7 = 1 from ((hF143 340 7 rfl).trans y133))).trans (dkP_1 e147).symm), (((show I131 340 8 = dkTe (I0 345) (I0 340 6) (I0 340 9) from ((hF143 340 8 rfl).trans y135))).trans (dkP_2 e147).symm), (show I131 347 0 = I0 347 0 from ((hF143 347 0 rfl).trans ((hF131 347 0 rfl).trans ((hF64 347 0 rfl).trans ((hF46 347 0 rfl).trans rfl))))), (show I131 347 4 = I0 347 4 from ((hF143 347 4 rfl).trans ((hF131 347 4 rfl).trans ((hF64 347 4 rfl).trans ((hF46 347 4 rfl).trans rfl))))), (show I131 347 5 = I0 347 5 from ((hF143 347 5 rfl).trans ((hF131 347 5 rfl).trans ((hF64 347 5 rfl).trans ((hF46 347 5 rfl).trans rfl))))), trivial⟩)⟩, dkW_eq ht hW⟩, hS.F ht⟩) hS.2.2 dX6_readsDog_132
            ·
              exact absurd ((xv143).trans (rfl).symm) c146
          ·
            have q148 : (dkTk (I0 345) (I0 340 6) (dkTe (I0 345) (I0 340 6) (I0 340 9))).toInt = (4 : Int) := by first | (rw [← xv126]; exact (congrArg Int32.toInt c127)) | (subst xv126; exact (congrArg Int32.toInt c127))
            have d149 : dkN [(4, 4)] v126 := dkN_eq1 dv126 (dkN_lit (x := 4) (4) rfl) (congrArg Int32.toInt c127) rfl
            have f150 : dkN [(4, 4)] (I64 340 11) := by rw [← ev126]; exact d149
            refine lv_iconst (v := 1) hx hb dX6_readsDog_80 (by decide) ?_
            refine lv_goto (tgt := 85) hx hb dX6_readsDog_81 (by decide) ?_
            refine lv_iconst (v := 1) hx hb dX6_readsDog_85 (by decide) ?_
            refine dk_Vi (As := [.int 1, .int 1]) (rest := []) ⟨hx, hb, hml, hown, hts⟩ (fx_X6_takes_38 l g z I64 1 1 (dkN_lit (x := 1) (1) rfl) (dkN_lit (x := 1) (1) rfl) (show dkN [(-1, -1)] (I64 340 8) from dkN_sub f64_340_8 rfl) hO) (cwV 2 hts gX6_readsDog_X6_takes rfl rfl rfl (by decide +kernel) ⟨Nat.le_of_ble_eq_true rfl, Nat.le_of_ble_eq_true rfl⟩) (dk_at340 hW) rfl hK hT hW hS rfl hl.1 rfl (Nat.le_of_ble_eq_true rfl) dX6_readsDog_86 ⟨Nat.zero_le _, Nat.zero_le _⟩ (fun v151 I151 H151 L151 hp151 hW hS => ?_)
            obtain ⟨hF151, hO, hc151⟩ := hp151
            have hF := dkF_call hF hF151 rfl
            obtain ⟨_, f151_340_11, f151_340_8, x151_0, x151_1, xr151, xh151_0, xh151_1, xh151_2, xh151_3, xh151_4, xh151_5, -⟩ := hc151
            have w152 : I64 340 8 = I0 340 8 := y118
            have w153 : I64 340 7 = I0 340 7 := y117
            have y154 : I151 340 7 = I0 340 7 := by have h := xh151_0; rw [w153] at h; exact h
            have y155 : I151 340 8 = I0 340 8 := by have h := xh151_1; rw [w152] at h; exact h
            have w156 : I64 345 = I0 345 := ((funext fun j => hF64 345 j (dkNin_k rfl dkNin_nil)).trans ((funext fun j => hF46 345 j (dkNin_k rfl dkNin_nil)).trans rfl))
            have w157 : I64 340 6 = I0 340 6 := ((hF64 340 6 rfl).trans ((hF46 340 6 rfl).trans rfl))
            have w158 : I64 340 9 = dkTe (I0 345) (I0 340 6) (dkTe (I0 345) (I0 340 6) (I0 340 9)) := y122
            have y159 : I151 340 9 = dkTe (I0 345) (I0 340 6) (dkTe (I0 345) (I0 340 6) (dkTe (I0 345) (I0 340 6) (I0 340 9))) := by have h := xh151_2; rw [w156, w157, w158] at h; exact h
            have y160 : I151 340 10 = dkTe (I0 345) (I0 340 6) (dkTe (I0 345) (I0 340 6) (I0 340 9)) := by have h := xh151_3; rw [w158] at h; exact h
            have y161 : I151 340 11 = dkTk (I0 345) (I0 340 6) (dkTe (I0 345) (I0 340 6) (dkTe (I0 345) (I0 340 6) (I0 340 9))) := by have h := xh151_4; rw [w156, w157, w158] at h; exact h
            have y162 : I151 340 12 = dkTv (I0 345) (I0 340 6) (dkTe (I0 345) (I0 340 6) (dkTe (I0 345) (I0 340 6) (I0 340 9))) := by have h := xh151_5; rw [w156, w157, w158] at h; exact h
            have w163 : I64 340 12 = dkTv (I0 345) (I0 340 6) (dkTe (I0 345) (I0 340 6) (I0 340 9)) := y125
            have xv151 : v151 = dkTv (I0 345) (I0 340 6) (dkTe (I0 345) (I0 340 6) (I0 340 9)) := by have h := xr151; rw [w163] at h; exact h
            refine lv_pop hx hb dX6_readsDog_89 rfl ?_
            refine lv_aload_n hx hb dX6_readsDog_90 rfl (lv_at hl 3 rfl) ?_
            refine dk_Vi (As := []) (rest := []) ⟨hx, hb, hml, hown, hts⟩ (fx_X6_isWell_6 l g z I151 (show dkN [(-1, -1)] (I151 340 8) from dkN_sub f151_340_8 rfl) hO) (cwV 0 hts gX6_readsDog_X6_isWell rfl rfl rfl (by decide +kernel) ⟨Nat.le_of_ble_eq_true rfl, Nat.le_of_ble_eq_true rfl⟩) (dk_at340 hW) rfl hK hT hW hS rfl hl.1 rfl (Nat.le_of_ble_eq_true rfl) dX6_readsDog_91 ⟨Nat.zero_le _, Nat.zero_le _⟩ (fun v164 I164 H164 L164 hp164 hW hS => ?_)
            obtain ⟨hF164, hO, hc164⟩ := hp164
            have hF := dkF_call hF hF164 rfl
            have eI164 : I151 = I164 := (dkF_nil hF164).symm
            subst eI164
            obtain ⟨dv164, f164_340_8, x164_0, xr164, -⟩ := hc164
            have w165 : I151 340 8 = I0 340 8 := y155
            have xv164 : v164 = 1 := by have h := xr164; exact h
            refine lv_if_eq (tgt := 132) hx hb dX6_readsDog_94 (by decide) (fun c166 => ?_) (fun c166 => ?_)
            ·
              exact (dkN_nil (show dkN [] v164 from dkN_eq1 dv164 (dkN_lit (x := 0) (0) rfl) (congrArg Int32.toInt c166) rfl)).elim
            ·
              refine lv_aload_n hx hb dX6_readsDog_97 rfl (lv_at hl 3 rfl) ?_
              refine dk_get (k := 340) hx hb hts iX6_readsDog_6 hown hK (dk_at340 hW) rfl 14 (by decide) (hts (.fieldLink RX6 28 "DogKingsModel" "draft" "[I") (List.mem_of_getElem? (i := 2) rfl)) rfl dX6_readsDog_98 ?_
              refine lv_iload_n hx hb dX6_readsDog_101 rfl (lv_at hl 1 rfl) ?_
              refine lv_iload_n hx hb dX6_readsDog_102 rfl (lv_at hl 2 rfl) ?_
              refine dk_ist (k := 347) hx hb hK hW (fun _ => rfl) (by decide) hS (dkN_in (n := 54) dv59 rfl) dX6_readsDog_103 (fun I167 H167 L167 eI167 hW hS => ?_)
              have hO := dkO_set hO eI167 (by rw [dkB_w (k := 347) (B := [(-2147483648, 2147483647)]) (by decide) dv59 rfl]; exact dkN_top _)
              have hF := dkF_set hF eI167 (dkIn_v dv59 rfl)
              refine lv_aload_n hx hb dX6_readsDog_104 rfl (lv_at hl 3 rfl) ?_
              refine dk_get (k := 340) hx hb hts iX6_readsDog_6 hown hK (dk_at340 hW) rfl 14 (by decide) (hts (.fieldLink RX6 28 "DogKingsModel" "draft" "[I") (List.mem_of_getElem? (i := 2) rfl)) rfl dX6_readsDog_105 ?_
              refine lv_iload_n hx hb dX6_readsDog_108 rfl (lv_at hl 1 rfl) ?_
              refine lv_iconst (v := 1) hx hb dX6_readsDog_109 (by decide) ?_
              refine lv_iadd hx hb dX6_readsDog_110 ?_
              refine lv_topi (fun v168 ev168 => ?_)
              have dv168 : dkN [(37, 37), (40, 40), (43, 43), (46, 46), (49, 49), (52, 52)] v168 := by rw [ev168]; exact dkN_add dv59 (dkN_lit (x := 1) (1) rfl) rfl
              have xv168 : v168 = ((36 : Int32) + ((3 : Int32) * (I0 347 5))) + (1 : Int32) := by rw [ev168, xv59]
              have q169 : (((36 : Int32) + ((3 : Int32) * (I0 347 5))) + (1 : Int32)).toInt = ((36 : Int32) + ((3 : Int32) * (I0 347 5))).toInt + (1 : Int) := by first | (rw [← xv168, ← xv59]; exact (by rw [ev168]; exact dk_addE dv59 (dkN_lit (x := 1) (1) rfl) rfl)) | (subst xv168 xv59; exact (by rw [ev168]; exact dk_addE dv59 (dkN_lit (x := 1) (1) rfl) rfl))
              refine lv_iload_n hx hb dX6_readsDog_111 rfl (lv_at hl 0 rfl) ?_
              refine dk_ist (k := 347) hx hb hK hW (fun _ => rfl) (by decide) hS (dkN_in (n := 54) dv168 rfl) dX6_readsDog_112 (fun I170 H170 L170 eI170 hW hS => ?_)
              have hO := dkO_set hO eI170 (by rw [dkB_w (k := 347) (B := [(-2147483648, 2147483647)]) (by decide) dv168 rfl]; exact dkN_top _)
              have hF := dkF_set hF eI170 (dkIn_v dv168 rfl)
              refine lv_aload_n hx hb dX6_readsDog_113 rfl (lv_at hl 3 rfl) ?_
              refine dk_get (k := 340) hx hb hts iX6_readsDog_6 hown hK (dk_at340 hW) rfl 14 (by decide) (hts (.fieldLink RX6 28 "DogKingsModel" "draft" "[I") (List.mem_of_getElem? (i := 2) rfl)) rfl dX6_readsDog_114 ?_
              refine lv_iload_n hx hb dX6_readsDog_117 rfl (lv_at hl 1 rfl) ?_
              refine lv_iconst (v := 2) hx hb dX6_readsDog_118 (by decide) ?_
              refine lv_iadd hx hb dX6_readsDog_119 ?_
              refine lv_topi (fun v171 ev171 => ?_)
              have dv171 : dkN [(38, 38), (41, 41), (44, 44), (47, 47), (50, 50), (53, 53)] v171 := by rw [ev171]; exact dkN_add dv59 (dkN_lit (x := 2) (2) rfl) rfl
              have xv171 : v171 = ((36 : Int32) + ((3 : Int32) * (I0 347 5))) + (2 : Int32) := by rw [ev171, xv59]
              have q172 : (((36 : Int32) + ((3 : Int32) * (I0 347 5))) + (2 : Int32)).toInt = ((36 : Int32) + ((3 : Int32) * (I0 347 5))).toInt + (2 : Int) := by first | (rw [← xv171, ← xv59]; exact (by rw [ev171]; exact dk_addE dv59 (dkN_lit (x := 2) (2) rfl) rfl)) | (subst xv171 xv59; exact (by rw [ev171]; exact dk_addE dv59 (dkN_lit (x := 2) (2) rfl) rfl))
              refine lv_iload_n hx hb dX6_readsDog_120 rfl (lv_at hl 0 rfl) ?_
              refine dk_ist (k := 347) hx hb hK hW (fun _ => rfl) (by decide) hS (dkN_in (n := 54) dv171 rfl) dX6_readsDog_121 (fun I173 H173 L173 eI173 hW hS => ?_)
              have hO := dkO_set hO eI173 (by rw [dkB_w (k := 347) (B := [(-2147483648, 2147483647)]) (by decide) dv171 rfl]; exact dkN_top _)
              have hF := dkF_set hF eI173 (dkIn_v dv171 rfl)
              refine lv_aload_n hx hb dX6_readsDog_122 rfl (lv_at hl 3 rfl) ?_
              refine dk_get (k := 340) hx hb hts iX6_readsDog_6 hown hK (dk_at340 hW) rfl 14 (by decide) (hts (.fieldLink RX6 28 "DogKingsModel" "draft" "[I") (List.mem_of_getElem? (i := 2) rfl)) rfl dX6_readsDog_123 ?_
              refine lv_iconst (v := 5) hx hb dX6_readsDog_126 (by decide) ?_
              refine lv_dup2_11 hx hb dX6_readsDog_127 rfl rfl ?_
              refine dk_ild (k := 347) hx hb hK (dk_at347 hW) (dkN_in (n := 54) (dkN_lit (x := 5) (5) rfl) rfl) dX6_readsDog_128 ?_
              refine lv_topi (fun v174 ev174 => ?_)
              have ev174 : v174 = I173 347 5 := ev174
              have dv174 : dkN [(0, 5)] v174 := by rw [ev174]; exact (show dkN [(0, 5)] (I173 347 5) from (by rw [eI173, dkU_sn (dkN_njx dv171 rfl)]; exact (by rw [eI170, dkU_sn (dkN_njx dv168 rfl)]; exact (by rw [eI167, dkU_sn (dkN_njx dv59 rfl)]; exact (by rw [hF164 347 5 rfl]; exact (by rw [hF151 347 5 rfl]; exact (by rw [hF64 347 5 rfl]; exact (by rw [hF46 347 5 rfl]; exact f45))))))))
              have xv174 : v174 = I0 347 5 := ev174.trans ((by rw [eI173, dkU_sn (dkN_njx dv171 rfl)] : I173 347 5 = _).trans ((by rw [eI170, dkU_sn (dkN_njx dv168 rfl)] : I170 347 5 = _).trans ((by rw [eI167, dkU_sn (dkN_njx dv59 rfl)] : I167 347 5 = _).trans ((hF164 347 5 rfl).trans ((hF151 347 5 rfl).trans ((hF64 347 5 rfl).trans ((hF46 347 5 rfl).trans rfl)))))))
              refine lv_iconst (v := 1) hx hb dX6_readsDog_129 (by decide) ?_
              refine lv_iadd hx hb dX6_readsDog_130 ?_
              refine lv_topi (fun v175 ev175 => ?_)
              have dv175 : dkN [(1, 6)] v175 := by rw [ev175]; exact dkN_add dv174 (dkN_lit (x := 1) (1) rfl) rfl
              have xv175 : v175 = (I0 347 5) + (1 : Int32) := by rw [ev175, xv174]
              have q176 : ((I0 347 5) + (1 : Int32)).toInt = (I0 347 5).toInt + (1 : Int) := by first | (rw [← xv175, ← xv174]; exact (by rw [ev175]; exact dk_addE dv174 (dkN_lit (x := 1) (1) rfl) rfl)) | (subst xv175 xv174; exact (by rw [ev175]; exact dk_addE dv174 (dkN_lit (x := 1) (1) rfl) rfl))
              refine dk_ist (k := 347) hx hb hK hW (fun _ => rfl) (by decide) hS (dkN_in (n := 54) (dkN_lit (x := 5) (5) rfl) rfl) dX6_readsDog_131 (fun I177 H177 L177 eI177 hW hS => ?_)
              have eI177 : I177 = dkU I173 347 5 v175 := eI177
              have hO := dkO_set hO eI177 (dkN_sub dv175 rfl)
              have hF := dkF_set hF eI177 rfl
              have i0 : (0 : Int32).toInt = 0 := rfl
              have i1 : (1 : Int32).toInt = 1 := rfl
              have i2 : (2 : Int32).toInt = 2 := rfl
              have i3 : (3 : Int32).toInt = 3 := rfl
              have i9 : (9 : Int32).toInt = 9 := rfl
              have i30 : (30 : Int32).toInt = 30 := rfl
              have i44 : (44 : Int32).toInt = 44 := rfl
              have i59 : (59 : Int32).toInt = 59 := rfl
              have i109 : (109 : Int32).toInt = 109 := rfl
              have i116 : (116 : Int32).toInt = 116 := rfl
              have e178 : dkDo (I0 345) (I0 340 6) (I0 347 0) (I0 340 9) = (0, dkTe (I0 345) (I0 340 6) (dkTe (I0 345) (I0 340 6) (I0 340 9))) := ((dkTh_p (dkK_0 (T := (I0 345)) (n := (I0 340 6)) (a := I0 340 9) (lo := 0) (hi := ((I0 347 0) - (1 : Int32))) q112 (by omega) (by omega))).trans (dkK_s (T := (I0 345)) (n := (I0 340 6)) (a := dkTe (I0 345) (I0 340 6) (I0 340 9)) q148))
              have st179 := dkSt_3 (d := I0 347 5) eI167 eI170 eI173 eI177 (by rw [xv59]; omega) (by rw [xv168]; omega) (by rw [xv171]; omega) (dk_nlt (dkN_ge (show dkN [(0, 6)] (I0 347 5) from ‹dkOk I0› 347 5) rfl))
              exact W.vret hx hb hr (fun t ht hW9 => ⟨⟨I177, rfl, ⟨hF, hO, Or.inr (Or.inr (⟨(show dkN [(0, 5)] (I177 340 11) from dkN_sub (by rw [eI177, dkU_n (by decide)]; exact (by rw [eI173, dkU_n (by decide)]; exact (by rw [eI170, dkU_n (by decide)]; exact (by rw [eI167, dkU_n (by decide)]; exact (by rw [hF164 340 11 rfl]; exact f151_340_11))))) rfl), (show dkN [(-1, -1)] (I177 340 8) from dkN_sub (by rw [eI177, dkU_n (by decide)]; exact (by rw [eI173, dkU_n (by decide)]; exact (by rw [eI170, dkU_n (by decide)]; exact (by rw [eI167, dkU_n (by decide)]; exact f164_340_8)))) rfl), (show dkN [(3, 9)] (I177 347 0) from dkN_sub (by rw [eI177, dkU_sn (by decide)]; exact (by rw [eI173, dkU_sn (dkN_njx dv171 rfl)]; exact (by rw [eI170, dkU_sn (dkN_njx dv168 rfl)]; exact (by rw [eI167, dkU_sn (dkN_njx dv59 rfl)]; exact (by rw [hF164 347 0 rfl]; exact (by rw [hF151 347 0 rfl]; exact (by rw [hF64 347 0 rfl]; exact (by rw [hF46 347 0 rfl]; exact (by rw [hF2 347 0 rfl]; exact np1))))))))) rfl), (show dkN [(1, 6)] (I177 347 5) from dkN_sub (by rw [eI177, dkU_ss]; exact dv175) rfl), (by omega), (dkP_1 e178), (show I177 340 7 = I0 340 7 from ((by rw [eI177, dkU_n (by decide)] : I177 340 7 = _).trans ((by rw [eI173, dkU_n (by decide)] : I173 340 7 = _).trans ((by rw [eI170, dkU_n (by decide)] : I170 340 7 = _).trans ((by rw [eI167, dkU_n (by decide)] : I167 340 7 = _).trans ((hF164 340 7 rfl).trans y154)))))), (show I177 340 8 = I0 340 8 from ((by rw [eI177, dkU_n (by decide)] : I177 340 8 = _).trans ((by rw [eI173, dkU_n (by decide)] : I173 340 8 = _).trans ((by rw [eI170, dkU_n (by decide)] : I170 340 8 = _).trans ((by rw [eI167, dkU_n (by decide)] : I167 340 8 = _).trans ((hF164 340 8 rfl).trans y155)))))), (((show I177 340 9 = dkTe (I0 345) (I0 340 6) (dkTe (I0 345) (I0 340 6) (dkTe (I0 345) (I0 340 6) (I0 340 9))) from ((by rw [eI177, dkU_n (by decide)] : I177 340 9 = _).trans ((by rw [eI173, dkU_n (by decide)] : I173 340 9 = _).trans ((by rw [eI170, dkU_n (by decide)] : I170 340 9 = _).trans ((by rw [eI167, dkU_n (by decide)] : I167 340 9 = _).trans ((hF164 340 9 rfl).trans y159))))))).trans (congrArg (dkTe (I0 345) (I0 340 6)) (dkP_2 e178).symm)), (((show I177 340 10 = dkTe (I0 345) (I0 340 6) (dkTe (I0 345) (I0 340 6) (I0 340 9)) from ((by rw [eI177, dkU_n (by decide)] : I177 340 10 = _).trans ((by rw [eI173, dkU_n (by decide)] : I173 340 10 = _).trans ((by rw [eI170, dkU_n (by decide)] : I170 340 10 = _).trans ((by rw [eI167, dkU_n (by decide)] : I167 340 10 = _).trans ((hF164 340 10 rfl).trans y160))))))).trans (dkP_2 e178).symm), (((show I177 340 11 = dkTk (I0 345) (I0 340 6) (dkTe (I0 345) (I0 340 6) (dkTe (I0 345) (I0 340 6) (I0 340 9))) from ((by rw [eI177, dkU_n (by decide)] : I177 340 11 = _).trans ((by rw [eI173, dkU_n (by decide)] : I173 340 11 = _).trans ((by rw [eI170, dkU_n (by decide)] : I170 340 11 = _).trans ((by rw [eI167, dkU_n (by decide)] : I167 340 11 = _).trans ((hF164 340 11 rfl).trans y161))))))).trans (congrArg (dkTk (I0 345) (I0 340 6)) (dkP_2 e178).symm)), (((show I177 340 12 = dkTv (I0 345) (I0 340 6) (dkTe (I0 345) (I0 340 6) (dkTe (I0 345) (I0 340 6) (I0 340 9))) from ((by rw [eI177, dkU_n (by decide)] : I177 340 12 = _).trans ((by rw [eI173, dkU_n (by decide)] : I173 340 12 = _).trans ((by rw [eI170, dkU_n (by decide)] : I170 340 12 = _).trans ((by rw [eI167, dkU_n (by decide)] : I167 340 12 = _).trans ((hF164 340 12 rfl).trans y162))))))).trans (congrArg (dkTv (I0 345) (I0 340 6)) (dkP_2 e178).symm)), (show I177 347 0 = I0 347 0 from ((by rw [eI177, dkU_sn (by decide)] : I177 347 0 = _).trans ((by rw [eI173, dkU_sn (dkN_njx dv171 rfl)] : I173 347 0 = _).trans ((by rw [eI170, dkU_sn (dkN_njx dv168 rfl)] : I170 347 0 = _).trans ((by rw [eI167, dkU_sn (dkN_njx dv59 rfl)] : I167 347 0 = _).trans ((hF164 347 0 rfl).trans ((hF151 347 0 rfl).trans ((hF64 347 0 rfl).trans ((hF46 347 0 rfl).trans rfl))))))))), (show I177 347 4 = I0 347 4 from ((by rw [eI177, dkU_sn (by decide)] : I177 347 4 = _).trans ((by rw [eI173, dkU_sn (dkN_njx dv171 rfl)] : I173 347 4 = _).trans ((by rw [eI170, dkU_sn (dkN_njx dv168 rfl)] : I170 347 4 = _).trans ((by rw [eI167, dkU_sn (dkN_njx dv59 rfl)] : I167 347 4 = _).trans ((hF164 347 4 rfl).trans ((hF151 347 4 rfl).trans ((hF64 347 4 rfl).trans ((hF46 347 4 rfl).trans rfl))))))))), (show I177 347 5 = (I0 347 5) + (1 : Int32) from (by rw [eI177, dkU_ss, xv175])), (fun _ => st179.1.trans xv2), (fun j hj => (st179.2 j hj).trans (congrFun ((funext fun j => hF164 347 j dkNin_nil).trans ((funext fun j => hF151 347 j (dkNin_k rfl dkNin_nil)).trans ((funext fun j => hF64 347 j (dkNin_k rfl dkNin_nil)).trans ((funext fun j => hF46 347 j (dkNin_k rfl dkNin_nil)).trans rfl)))) _)), dk_incEq (by rw [eI177, dkU_ss, ev175] : I177 347 5 = v174 + 1) (ev174.trans ((by rw [eI173, dkU_sn (dkN_njx dv171 rfl)] : I173 347 5 = _).trans ((by rw [eI170, dkU_sn (dkN_njx dv168 rfl)] : I170 347 5 = _).trans ((by rw [eI167, dkU_sn (dkN_njx dv59 rfl)] : I167 347 5 = _).trans ((hF164 347 5 rfl).trans ((hF151 347 5 rfl).trans ((hF64 347 5 rfl).trans ((hF46 347 5 rfl).trans rfl)))))))), trivial⟩))⟩, dkW_eq ht hW⟩, hS.F ht⟩) hS.2.2 dX6_readsDog_132
        ·
          obtain ⟨dv64, f64_340_11, f64_340_7, f64_340_8, x64_0, x64_1, xr64, xh64_0, xh64_1, xh64_2, xh64_3, xh64_4, xh64_5, -⟩ := hc64
          have w180 : I46 340 8 = I0 340 8 := y49
          have w181 : I46 340 11 = dkTk (I0 345) (I0 340 6) (I0 340 9) := y52
          have q182 : (dkTk (I0 345) (I0 340 6) (I0 340 9)).toInt ≠ (2 : Int) := by have h := x64_1; rw [w181] at h; exact h
          have y183 : I64 340 7 = 1 := by have h := xh64_0; exact h
          have w184 : I46 340 10 = I0 340 9 := y51
          have y185 : I64 340 8 = I0 340 9 := by have h := xh64_1; rw [w184] at h; exact h
          have w186 : I46 340 9 = dkTe (I0 345) (I0 340 6) (I0 340 9) := y50
          have y187 : I64 340 9 = dkTe (I0 345) (I0 340 6) (I0 340 9) := by have h := xh64_2; rw [w186] at h; exact h
          have y188 : I64 340 10 = I0 340 9 := by have h := xh64_3; rw [w184] at h; exact h
          have y189 : I64 340 11 = dkTk (I0 345) (I0 340 6) (I0 340 9) := by have h := xh64_4; rw [w181] at h; exact h
          have w190 : I46 340 12 = dkTv (I0 345) (I0 340 6) (I0 340 9) := y53
          have y191 : I64 340 12 = dkTv (I0 345) (I0 340 6) (I0 340 9) := by have h := xh64_5; rw [w190] at h; exact h
          have xv64 : v64 = 0 := by have h := xr64; exact h
          refine lv_istore_n (lv' := [(3, .int v64), (2, .int v59), (1, .int v2), (0, .ref (z + 340))]) hx hb dX6_readsDog_70 rfl hl (by decide) rfl (fun ls hl => ?_)
          refine lv_aload_n hx hb dX6_readsDog_71 rfl (lv_at hl 3 rfl) ?_
          refine lv_aload_n hx hb dX6_readsDog_72 rfl (lv_at hl 3 rfl) ?_
          refine dk_get (k := 340) hx hb hts iX6_readsDog_6 hown hK (dk_at340 hW) rfl 11 (by decide) (hts (.fieldLink RX6 98 "DogKingsModel" "token" "I") (List.mem_of_getElem? (i := 3) rfl)) rfl dX6_readsDog_73 ?_
          refine lv_topi (fun v192 ev192 => ?_)
          have dv192 : dkN [(-2147483648, 1), (3, 2147483647)] v192 := by rw [ev192]; exact f64_340_11
          have xv192 : v192 = dkTk (I0 345) (I0 340 6) (I0 340 9) := ev192.trans y189
          refine lv_iconst (v := 4) hx hb dX6_readsDog_76 (by decide) ?_
          refine lv_icmp_ne (tgt := 84) hx hb dX6_readsDog_77 (by decide) (fun c193 => ?_) (fun c193 => ?_)
          ·
            have q194 : (dkTk (I0 345) (I0 340 6) (I0 340 9)).toInt ≠ (4 : Int) := by first | (rw [← xv192]; exact (dk_ne c193)) | (subst xv192; exact (dk_ne c193))
            have d195 : dkN [(-2147483648, 1), (3, 3), (5, 2147483647)] v192 := dkN_ne1 (4) dv192 (dkN_lit (x := 4) (4) rfl) (dk_ne c193) rfl
            have f196 : dkN [(-2147483648, 1), (3, 3), (5, 2147483647)] (I64 340 11) := by rw [← ev192]; exact d195
            refine lv_iconst (v := 0) hx hb dX6_readsDog_84 (by decide) ?_
            refine lv_iconst (v := 1) hx hb dX6_readsDog_85 (by decide) ?_
            refine dk_Vi (As := [.int 0, .int 1]) (rest := []) ⟨hx, hb, hml, hown, hts⟩ (h_X6_takes_0 l g z I64 0 1 (show dkN [(0, 90)] (I64 340 8) from dkN_sub f64_340_8 rfl) hO) (cwV 2 hts gX6_readsDog_X6_takes rfl rfl rfl (by decide +kernel) ⟨Nat.le_of_ble_eq_true rfl, Nat.le_of_ble_eq_true rfl⟩) (dk_at340 hW) rfl hK hT hW hS rfl hl.1 rfl (Nat.le_of_ble_eq_true rfl) dX6_readsDog_86 ⟨Nat.zero_le _, Nat.zero_le _⟩ (fun v197 I197 H197 L197 hp197 hW hS => ?_)
            obtain ⟨hF197, hO, hc197⟩ := hp197
            have hF := dkF_call hF hF197 rfl
            have eI197 : I64 = I197 := (dkF_nil hF197).symm
            subst eI197
            obtain ⟨dv197, xr197, -⟩ := hc197
            have xv197 : v197 = 0 := by have h := xr197; exact h
            refine lv_pop hx hb dX6_readsDog_89 rfl ?_
            refine lv_aload_n hx hb dX6_readsDog_90 rfl (lv_at hl 3 rfl) ?_
            refine dk_Vi (As := []) (rest := []) ⟨hx, hb, hml, hown, hts⟩ (fx_X6_isWell_7 l g z I64 (show dkN [(0, 90)] (I64 340 8) from dkN_sub (by rw [hF197 340 8 rfl]; exact f64_340_8) rfl) hO) (cwV 0 hts gX6_readsDog_X6_isWell rfl rfl rfl (by decide +kernel) ⟨Nat.le_of_ble_eq_true rfl, Nat.le_of_ble_eq_true rfl⟩) (dk_at340 hW) rfl hK hT hW hS rfl hl.1 rfl (Nat.le_of_ble_eq_true rfl) dX6_readsDog_91 ⟨Nat.zero_le _, Nat.zero_le _⟩ (fun v198 I198 H198 L198 hp198 hW hS => ?_)
            obtain ⟨hF198, hO, hc198⟩ := hp198
            have hF := dkF_call hF hF198 rfl
            have eI198 : I64 = I198 := (dkF_nil hF198).symm
            subst eI198
            obtain ⟨dv198, f198_340_8, x198_0, xr198, -⟩ := hc198
            have w199 : I64 340 8 = I0 340 9 := ((hF197 340 8 rfl).trans y185)
            have q200 : (0 : Int) + 0 ≤ (I0 340 9).toInt := by have h := x198_0; rw [w199] at h; exact h
            have xv198 : v198 = 0 := by have h := xr198; exact h
            refine lv_if_eq (tgt := 132) hx hb dX6_readsDog_94 (by decide) (fun c201 => ?_) (fun c201 => ?_)
            ·
              have i0 : (0 : Int32).toInt = 0 := rfl
              have i1 : (1 : Int32).toInt = 1 := rfl
              have i2 : (2 : Int32).toInt = 2 := rfl
              have i3 : (3 : Int32).toInt = 3 := rfl
              have i9 : (9 : Int32).toInt = 9 := rfl
              have i30 : (30 : Int32).toInt = 30 := rfl
              have i44 : (44 : Int32).toInt = 44 := rfl
              have i59 : (59 : Int32).toInt = 59 := rfl
              have i109 : (109 : Int32).toInt = 109 := rfl
              have i116 : (116 : Int32).toInt = 116 := rfl
              have e202 : dkDo (I0 345) (I0 340 6) (I0 347 0) (I0 340 9) = (1, I0 340 9) := (dkTh_q (dkK_1 (T := (I0 345)) (n := (I0 340 6)) (a := I0 340 9) (lo := 0) (hi := ((I0 347 0) - (1 : Int32))) q182) (by decide))
              exact W.vret hx hb hr (fun t ht hW9 => ⟨⟨I64, rfl, ⟨hF, hO, Or.inr (Or.inl ⟨(show dkN [(1, 2)] (I64 340 7) from dkN_sub (by rw [hF198 340 7 rfl]; exact (by rw [hF197 340 7 rfl]; exact f64_340_7)) rfl), (show dkN [(0, 90)] (I64 340 8) from dkN_sub f198_340_8 rfl), (show dkN [(3, 9)] (I64 347 0) from dkN_sub (by rw [hF198 347 0 rfl]; exact (by rw [hF197 347 0 rfl]; exact (by rw [hF64 347 0 rfl]; exact (by rw [hF46 347 0 rfl]; exact (by rw [hF2 347 0 rfl]; exact np1))))) rfl), (show dkN [(0, 5)] (I64 347 5) from dkN_sub (by rw [hF198 347 5 rfl]; exact (by rw [hF197 347 5 rfl]; exact (by rw [hF64 347 5 rfl]; exact (by rw [hF46 347 5 rfl]; exact f45)))) rfl), (by omega), (dkE_k e202 (by decide)), (((show I64 340 7 = 1 from ((hF198 340 7 rfl).trans ((hF197 340 7 rfl).trans y183)))).trans (dkP_1 e202).symm), (((show I64 340 8 = I0 340 9 from ((hF198 340 8 rfl).trans ((hF197 340 8 rfl).trans y185)))).trans (dkP_2 e202).symm), (show I64 347 0 = I0 347 0 from ((hF198 347 0 rfl).trans ((hF197 347 0 rfl).trans ((hF64 347 0 rfl).trans ((hF46 347 0 rfl).trans rfl))))), (show I64 347 4 = I0 347 4 from ((hF198 347 4 rfl).trans ((hF197 347 4 rfl).trans ((hF64 347 4 rfl).trans ((hF46 347 4 rfl).trans rfl))))), (show I64 347 5 = I0 347 5 from ((hF198 347 5 rfl).trans ((hF197 347 5 rfl).trans ((hF64 347 5 rfl).trans ((hF46 347 5 rfl).trans rfl))))), trivial⟩)⟩, dkW_eq ht hW⟩, hS.F ht⟩) hS.2.2 dX6_readsDog_132
            ·
              exact absurd ((xv198).trans (rfl).symm) c201
          ·
            have q203 : (dkTk (I0 345) (I0 340 6) (I0 340 9)).toInt = (4 : Int) := by first | (rw [← xv192]; exact (congrArg Int32.toInt c193)) | (subst xv192; exact (congrArg Int32.toInt c193))
            have d204 : dkN [(4, 4)] v192 := dkN_eq1 dv192 (dkN_lit (x := 4) (4) rfl) (congrArg Int32.toInt c193) rfl
            have f205 : dkN [(4, 4)] (I64 340 11) := by rw [← ev192]; exact d204
            refine lv_iconst (v := 1) hx hb dX6_readsDog_80 (by decide) ?_
            refine lv_goto (tgt := 85) hx hb dX6_readsDog_81 (by decide) ?_
            refine lv_iconst (v := 1) hx hb dX6_readsDog_85 (by decide) ?_
            refine dk_Vi (As := [.int 1, .int 1]) (rest := []) ⟨hx, hb, hml, hown, hts⟩ (h_X6_takes_0 l g z I64 1 1 (show dkN [(0, 90)] (I64 340 8) from dkN_sub f64_340_8 rfl) hO) (cwV 2 hts gX6_readsDog_X6_takes rfl rfl rfl (by decide +kernel) ⟨Nat.le_of_ble_eq_true rfl, Nat.le_of_ble_eq_true rfl⟩) (dk_at340 hW) rfl hK hT hW hS rfl hl.1 rfl (Nat.le_of_ble_eq_true rfl) dX6_readsDog_86 ⟨Nat.zero_le _, Nat.zero_le _⟩ (fun v206 I206 H206 L206 hp206 hW hS => ?_)
            obtain ⟨hF206, hO, hc206⟩ := hp206
            have hF := dkF_call hF hF206 rfl
            have eI206 : I64 = I206 := (dkF_nil hF206).symm
            subst eI206
            obtain ⟨dv206, xr206, -⟩ := hc206
            have xv206 : v206 = 0 := by have h := xr206; exact h
            refine lv_pop hx hb dX6_readsDog_89 rfl ?_
            refine lv_aload_n hx hb dX6_readsDog_90 rfl (lv_at hl 3 rfl) ?_
            refine dk_Vi (As := []) (rest := []) ⟨hx, hb, hml, hown, hts⟩ (fx_X6_isWell_7 l g z I64 (show dkN [(0, 90)] (I64 340 8) from dkN_sub (by rw [hF206 340 8 rfl]; exact f64_340_8) rfl) hO) (cwV 0 hts gX6_readsDog_X6_isWell rfl rfl rfl (by decide +kernel) ⟨Nat.le_of_ble_eq_true rfl, Nat.le_of_ble_eq_true rfl⟩) (dk_at340 hW) rfl hK hT hW hS rfl hl.1 rfl (Nat.le_of_ble_eq_true rfl) dX6_readsDog_91 ⟨Nat.zero_le _, Nat.zero_le _⟩ (fun v207 I207 H207 L207 hp207 hW hS => ?_)
            obtain ⟨hF207, hO, hc207⟩ := hp207
            have hF := dkF_call hF hF207 rfl
            have eI207 : I64 = I207 := (dkF_nil hF207).symm
            subst eI207
            obtain ⟨dv207, f207_340_8, x207_0, xr207, -⟩ := hc207
            have w208 : I64 340 8 = I0 340 9 := ((hF206 340 8 rfl).trans y185)
            have q209 : (0 : Int) + 0 ≤ (I0 340 9).toInt := by have h := x207_0; rw [w208] at h; exact h
            have xv207 : v207 = 0 := by have h := xr207; exact h
            refine lv_if_eq (tgt := 132) hx hb dX6_readsDog_94 (by decide) (fun c210 => ?_) (fun c210 => ?_)
            ·
              have i0 : (0 : Int32).toInt = 0 := rfl
              have i1 : (1 : Int32).toInt = 1 := rfl
              have i2 : (2 : Int32).toInt = 2 := rfl
              have i3 : (3 : Int32).toInt = 3 := rfl
              have i9 : (9 : Int32).toInt = 9 := rfl
              have i30 : (30 : Int32).toInt = 30 := rfl
              have i44 : (44 : Int32).toInt = 44 := rfl
              have i59 : (59 : Int32).toInt = 59 := rfl
              have i109 : (109 : Int32).toInt = 109 := rfl
              have i116 : (116 : Int32).toInt = 116 := rfl
              have e211 : dkDo (I0 345) (I0 340 6) (I0 347 0) (I0 340 9) = (1, I0 340 9) := (dkTh_q (dkK_1 (T := (I0 345)) (n := (I0 340 6)) (a := I0 340 9) (lo := 0) (hi := ((I0 347 0) - (1 : Int32))) q182) (by decide))
              exact W.vret hx hb hr (fun t ht hW9 => ⟨⟨I64, rfl, ⟨hF, hO, Or.inr (Or.inl ⟨(show dkN [(1, 2)] (I64 340 7) from dkN_sub (by rw [hF207 340 7 rfl]; exact (by rw [hF206 340 7 rfl]; exact f64_340_7)) rfl), (show dkN [(0, 90)] (I64 340 8) from dkN_sub f207_340_8 rfl), (show dkN [(3, 9)] (I64 347 0) from dkN_sub (by rw [hF207 347 0 rfl]; exact (by rw [hF206 347 0 rfl]; exact (by rw [hF64 347 0 rfl]; exact (by rw [hF46 347 0 rfl]; exact (by rw [hF2 347 0 rfl]; exact np1))))) rfl), (show dkN [(0, 5)] (I64 347 5) from dkN_sub (by rw [hF207 347 5 rfl]; exact (by rw [hF206 347 5 rfl]; exact (by rw [hF64 347 5 rfl]; exact (by rw [hF46 347 5 rfl]; exact f45)))) rfl), (by omega), (dkE_k e211 (by decide)), (((show I64 340 7 = 1 from ((hF207 340 7 rfl).trans ((hF206 340 7 rfl).trans y183)))).trans (dkP_1 e211).symm), (((show I64 340 8 = I0 340 9 from ((hF207 340 8 rfl).trans ((hF206 340 8 rfl).trans y185)))).trans (dkP_2 e211).symm), (show I64 347 0 = I0 347 0 from ((hF207 347 0 rfl).trans ((hF206 347 0 rfl).trans ((hF64 347 0 rfl).trans ((hF46 347 0 rfl).trans rfl))))), (show I64 347 4 = I0 347 4 from ((hF207 347 4 rfl).trans ((hF206 347 4 rfl).trans ((hF64 347 4 rfl).trans ((hF46 347 4 rfl).trans rfl))))), (show I64 347 5 = I0 347 5 from ((hF207 347 5 rfl).trans ((hF206 347 5 rfl).trans ((hF64 347 5 rfl).trans ((hF46 347 5 rfl).trans rfl))))), trivial⟩)⟩, dkW_eq ht hW⟩, hS.F ht⟩) hS.2.2 dX6_readsDog_132
            ·
              exact absurd ((xv207).trans (rfl).symm) c210
  ·
    obtain ⟨dv2, x2_0, xr2, -⟩ := hc2
    have q212 : dkSo (I0 340 12).toInt = -1000000 := by have h := x2_0; rw [xv1] at h; exact h
    have xv2 : v2 = 0 := by have h := xr2; exact h
    refine lv_istore_n (lv' := [(1, .int v2), (0, .ref (z + 340))]) hx hb dX6_readsDog_7 rfl hl (by decide) rfl (fun ls hl => ?_)
    refine lv_aload_n hx hb dX6_readsDog_8 rfl (lv_at hl 1 rfl) ?_
    refine lv_aload_n hx hb dX6_readsDog_9 rfl (lv_at hl 1 rfl) ?_
    refine dk_get (k := 340) hx hb hts iX6_readsDog_6 hown hK (dk_at340 hW) rfl 14 (by decide) (hts (.fieldLink RX6 28 "DogKingsModel" "draft" "[I") (List.mem_of_getElem? (i := 2) rfl)) rfl dX6_readsDog_10 ?_
    refine lv_iconst (v := 5) hx hb dX6_readsDog_13 (by decide) ?_
    refine dk_ild (k := 347) hx hb hK (dk_at347 hW) (dkN_in (n := 54) (dkN_lit (x := 5) (5) rfl) rfl) dX6_readsDog_14 ?_
    refine lv_topi (fun v213 ev213 => ?_)
    have ev213 : v213 = I0 347 5 := ev213
    have dv213 : dkN [(0, 6)] v213 := by rw [ev213]; exact (show dkN [(0, 6)] (I0 347 5) from (hO 347 5))
    have xv213 : v213 = I0 347 5 := ev213.trans rfl
    refine lv_bipush (v := 6) hx hb dX6_readsDog_15 (by decide) ?_
    refine lv_icmp_ge (tgt := 24) hx hb dX6_readsDog_17 (by decide) (fun c214 => ?_) (fun c214 => ?_)
    ·
      have q215 : (6 : Int) + 0 ≤ (I0 347 5).toInt := by first | (rw [← xv213]; exact (dkc_le c214)) | (subst xv213; exact (dkc_le c214))
      have d216 : dkN [(6, 6)] v213 := dkN_le2 0 (dkN_lit (x := 6) (6) rfl) dv213 (dkc_le c214) rfl
      have f217 : dkN [(6, 6)] (I0 347 5) := by rw [← ev213]; exact d216
      refine lv_iconst (v := 0) hx hb dX6_readsDog_24 (by decide) ?_
      refine lv_iconst (v := 3) hx hb dX6_readsDog_25 (by decide) ?_
      refine dk_Vi (As := [.int 0, .int 3]) (rest := []) ⟨hx, hb, hml, hown, hts⟩ (fx_X6_takes_42 l g z I0 0 3 (dkN_lit (x := 0) (0) rfl) (dkN_lit (x := 3) (3) rfl) (show dkN [(-1, -1)] (I0 340 8) from dkN_sub (by rw [hF2 340 8 rfl]; exact np0) rfl) hO) (cwV 2 hts gX6_readsDog_X6_takes rfl rfl rfl (by decide +kernel) ⟨Nat.le_of_ble_eq_true rfl, Nat.le_of_ble_eq_true rfl⟩) (dk_at340 hW) rfl hK hT hW hS rfl hl.1 rfl (Nat.le_of_ble_eq_true rfl) dX6_readsDog_26 ⟨Nat.zero_le _, Nat.zero_le _⟩ (fun v218 I218 H218 L218 hp218 hW hS => ?_)
      obtain ⟨hF218, hO, hc218⟩ := hp218
      have hF := dkF_call hF hF218 rfl
      obtain ⟨dv218, f218_340_7, f218_340_8, x218_0, x218_1, xr218, xh218_0, xh218_1, xh218_2, xh218_3, xh218_4, xh218_5, -⟩ := hc218
      have q219 : (I0 340 8).toInt + 1 ≤ (0 : Int) := x218_0
      have y220 : I218 340 7 = 3 := by have h := xh218_0; exact h
      have y221 : I218 340 8 = I0 340 10 := by have h := xh218_1; exact h
      have y222 : I218 340 9 = I0 340 9 := by have h := xh218_2; exact h
      have y223 : I218 340 10 = I0 340 10 := by have h := xh218_3; exact h
      have y224 : I218 340 11 = I0 340 11 := by have h := xh218_4; exact h
      have y225 : I218 340 12 = I0 340 12 := by have h := xh218_5; exact h
      have xv218 : v218 = 0 := by have h := xr218; exact h
      refine lv_pop hx hb dX6_readsDog_29 rfl ?_
      refine lv_bipush (v := 36) hx hb dX6_readsDog_30 (by decide) ?_
      refine lv_iconst (v := 3) hx hb dX6_readsDog_32 (by decide) ?_
      refine lv_aload_n hx hb dX6_readsDog_33 rfl (lv_at hl 1 rfl) ?_
      refine dk_get (k := 340) hx hb hts iX6_readsDog_6 hown hK (dk_at340 hW) rfl 14 (by decide) (hts (.fieldLink RX6 28 "DogKingsModel" "draft" "[I") (List.mem_of_getElem? (i := 2) rfl)) rfl dX6_readsDog_34 ?_
      refine lv_iconst (v := 5) hx hb dX6_readsDog_37 (by decide) ?_
      refine dk_ild (k := 347) hx hb hK (dk_at347 hW) (dkN_in (n := 54) (dkN_lit (x := 5) (5) rfl) rfl) dX6_readsDog_38 ?_
      refine lv_topi (fun v226 ev226 => ?_)
      have ev226 : v226 = I218 347 5 := ev226
      have dv226 : dkN [(6, 6)] v226 := by rw [ev226]; exact (show dkN [(6, 6)] (I218 347 5) from (by rw [hF218 347 5 rfl]; exact f217))
      have xv226 : v226 = I0 347 5 := ev226.trans ((hF218 347 5 rfl).trans rfl)
      refine lv_bipush (v := 6) hx hb dX6_readsDog_39 (by decide) ?_
      refine lv_icmp_ge (tgt := 53) hx hb dX6_readsDog_41 (by decide) (fun c227 => ?_) (fun c227 => ?_)
      ·
        refine lv_iconst (v := 0) hx hb dX6_readsDog_53 (by decide) ?_
        refine lv_imul hx hb dX6_readsDog_54 ?_
        refine lv_topi (fun v228 ev228 => ?_)
        have dv228 : dkN [(0, 0)] v228 := by rw [ev228]; exact dkN_mulPt 3 (dkN_lit (x := 3) (3) rfl) (dkN_lit (x := 0) (0) rfl) rfl
        have xv228 : v228 = 0 := by rw [ev228]; rfl
        refine lv_iadd hx hb dX6_readsDog_55 ?_
        refine lv_topi (fun v229 ev229 => ?_)
        have dv229 : dkN [(36, 36)] v229 := by rw [ev229]; exact dkN_add (dkN_lit (x := 36) (36) rfl) dv228 rfl
        have xv229 : v229 = 36 := by rw [ev229, xv228]; rfl
        refine lv_istore_n (lv' := [(2, .int v229), (1, .int v2), (0, .ref (z + 340))]) hx hb dX6_readsDog_56 rfl hl (by decide) rfl (fun ls hl => ?_)
        refine lv_aload_n hx hb dX6_readsDog_57 rfl (lv_at hl 2 rfl) ?_
        refine lv_iconst (v := 0) hx hb dX6_readsDog_58 (by decide) ?_
        refine lv_aload_n hx hb dX6_readsDog_59 rfl (lv_at hl 2 rfl) ?_
        refine dk_get (k := 340) hx hb hts iX6_readsDog_6 hown hK (dk_at340 hW) rfl 14 (by decide) (hts (.fieldLink RX6 28 "DogKingsModel" "draft" "[I") (List.mem_of_getElem? (i := 2) rfl)) rfl dX6_readsDog_60 ?_
        refine lv_iconst (v := 0) hx hb dX6_readsDog_63 (by decide) ?_
        refine dk_ild (k := 347) hx hb hK (dk_at347 hW) (dkN_in (n := 54) (dkN_lit (x := 0) (0) rfl) rfl) dX6_readsDog_64 ?_
        refine lv_topi (fun v230 ev230 => ?_)
        have ev230 : v230 = I218 347 0 := ev230
        have dv230 : dkN [(3, 9)] v230 := by rw [ev230]; exact (show dkN [(3, 9)] (I218 347 0) from (by rw [hF218 347 0 rfl]; exact (by rw [hF2 347 0 rfl]; exact np1)))
        have xv230 : v230 = I0 347 0 := ev230.trans ((hF218 347 0 rfl).trans rfl)
        refine lv_iconst (v := 1) hx hb dX6_readsDog_65 (by decide) ?_
        refine lv_isub hx hb dX6_readsDog_66 ?_
        refine lv_topi (fun v231 ev231 => ?_)
        have dv231 : dkN [(2, 8)] v231 := by rw [ev231]; exact dkN_subt dv230 (dkN_lit (x := 1) (1) rfl) rfl
        have xv231 : v231 = (I0 347 0) - (1 : Int32) := by rw [ev231, xv230]
        have q232 : ((I0 347 0) - (1 : Int32)).toInt = (I0 347 0).toInt - (1 : Int) := by first | (rw [← xv231, ← xv230]; exact (by rw [ev231]; exact dk_subE dv230 (dkN_lit (x := 1) (1) rfl) rfl)) | (subst xv231 xv230; exact (by rw [ev231]; exact dk_subE dv230 (dkN_lit (x := 1) (1) rfl) rfl))
        refine dk_Vi (As := [.int 0, .int v231]) (rest := []) ⟨hx, hb, hml, hown, hts⟩ (h_X6_figure_0 l g z I218 0 v231 (show dkN [(0, 90)] (I218 340 8) from dkN_sub f218_340_8 rfl) hO) (cwV 2 hts gX6_readsDog_X6_figure rfl rfl rfl (by decide +kernel) ⟨Nat.le_of_ble_eq_true rfl, Nat.le_of_ble_eq_true rfl⟩) (dk_at340 hW) rfl hK hT hW hS rfl hl.1 rfl (Nat.le_of_ble_eq_true rfl) dX6_readsDog_67 ⟨Nat.zero_le _, Nat.zero_le _⟩ (fun v233 I233 H233 L233 hp233 hW hS => ?_)
        obtain ⟨hF233, hO, hc233⟩ := hp233
        have hF := dkF_call hF hF233 rfl
        have eI233 : I218 = I233 := (dkF_nil hF233).symm
        subst eI233
        obtain ⟨dv233, xr233, -⟩ := hc233
        have xv233 : v233 = 0 := by have h := xr233; exact h
        refine lv_istore_n (lv' := [(3, .int v233), (2, .int v229), (1, .int v2), (0, .ref (z + 340))]) hx hb dX6_readsDog_70 rfl hl (by decide) rfl (fun ls hl => ?_)
        refine lv_aload_n hx hb dX6_readsDog_71 rfl (lv_at hl 3 rfl) ?_
        refine lv_aload_n hx hb dX6_readsDog_72 rfl (lv_at hl 3 rfl) ?_
        refine dk_get (k := 340) hx hb hts iX6_readsDog_6 hown hK (dk_at340 hW) rfl 11 (by decide) (hts (.fieldLink RX6 98 "DogKingsModel" "token" "I") (List.mem_of_getElem? (i := 3) rfl)) rfl dX6_readsDog_73 ?_
        refine lv_topi (fun v234 ev234 => ?_)
        have xv234 : v234 = I0 340 11 := ev234.trans ((hF233 340 11 rfl).trans y224)
        refine lv_iconst (v := 4) hx hb dX6_readsDog_76 (by decide) ?_
        refine lv_icmp_ne (tgt := 84) hx hb dX6_readsDog_77 (by decide) (fun c235 => ?_) (fun c235 => ?_)
        ·
          have q236 : (I0 340 11).toInt ≠ (4 : Int) := by first | (rw [← xv234]; exact (dk_ne c235)) | (subst xv234; exact (dk_ne c235))
          have d237 : dkN [(-2147483648, 3), (5, 2147483647)] v234 := dkN_ne1 (4) (dkN_top v234) (dkN_lit (x := 4) (4) rfl) (dk_ne c235) rfl
          have f238 : dkN [(-2147483648, 3), (5, 2147483647)] (I218 340 11) := by rw [← ev234]; exact d237
          refine lv_iconst (v := 0) hx hb dX6_readsDog_84 (by decide) ?_
          refine lv_iconst (v := 1) hx hb dX6_readsDog_85 (by decide) ?_
          refine dk_Vi (As := [.int 0, .int 1]) (rest := []) ⟨hx, hb, hml, hown, hts⟩ (h_X6_takes_0 l g z I218 0 1 (show dkN [(0, 90)] (I218 340 8) from dkN_sub (by rw [hF233 340 8 rfl]; exact f218_340_8) rfl) hO) (cwV 2 hts gX6_readsDog_X6_takes rfl rfl rfl (by decide +kernel) ⟨Nat.le_of_ble_eq_true rfl, Nat.le_of_ble_eq_true rfl⟩) (dk_at340 hW) rfl hK hT hW hS rfl hl.1 rfl (Nat.le_of_ble_eq_true rfl) dX6_readsDog_86 ⟨Nat.zero_le _, Nat.zero_le _⟩ (fun v239 I239 H239 L239 hp239 hW hS => ?_)
          obtain ⟨hF239, hO, hc239⟩ := hp239
          have hF := dkF_call hF hF239 rfl
          have eI239 : I218 = I239 := (dkF_nil hF239).symm
          subst eI239
          obtain ⟨dv239, xr239, -⟩ := hc239
          have xv239 : v239 = 0 := by have h := xr239; exact h
          refine lv_pop hx hb dX6_readsDog_89 rfl ?_
          refine lv_aload_n hx hb dX6_readsDog_90 rfl (lv_at hl 3 rfl) ?_
          refine dk_Vi (As := []) (rest := []) ⟨hx, hb, hml, hown, hts⟩ (fx_X6_isWell_7 l g z I218 (show dkN [(0, 90)] (I218 340 8) from dkN_sub (by rw [hF239 340 8 rfl]; exact (by rw [hF233 340 8 rfl]; exact f218_340_8)) rfl) hO) (cwV 0 hts gX6_readsDog_X6_isWell rfl rfl rfl (by decide +kernel) ⟨Nat.le_of_ble_eq_true rfl, Nat.le_of_ble_eq_true rfl⟩) (dk_at340 hW) rfl hK hT hW hS rfl hl.1 rfl (Nat.le_of_ble_eq_true rfl) dX6_readsDog_91 ⟨Nat.zero_le _, Nat.zero_le _⟩ (fun v240 I240 H240 L240 hp240 hW hS => ?_)
          obtain ⟨hF240, hO, hc240⟩ := hp240
          have hF := dkF_call hF hF240 rfl
          have eI240 : I218 = I240 := (dkF_nil hF240).symm
          subst eI240
          obtain ⟨dv240, f240_340_8, x240_0, xr240, -⟩ := hc240
          have w241 : I218 340 8 = I0 340 10 := ((hF239 340 8 rfl).trans ((hF233 340 8 rfl).trans y221))
          have q242 : (0 : Int) + 0 ≤ (I0 340 10).toInt := by have h := x240_0; rw [w241] at h; exact h
          have xv240 : v240 = 0 := by have h := xr240; exact h
          refine lv_if_eq (tgt := 132) hx hb dX6_readsDog_94 (by decide) (fun c243 => ?_) (fun c243 => ?_)
          ·
            exact W.vret hx hb hr (fun t ht hW9 => ⟨⟨I218, rfl, ⟨hF, hO, Or.inl ⟨(show dkN [(3, 3)] (I218 340 7) from dkN_sub (by rw [hF240 340 7 rfl]; exact (by rw [hF239 340 7 rfl]; exact (by rw [hF233 340 7 rfl]; exact f218_340_7))) rfl), (show dkN [(0, 90)] (I218 340 8) from dkN_sub f240_340_8 rfl), (show dkN [(3, 9)] (I218 347 0) from dkN_sub (by rw [hF240 347 0 rfl]; exact (by rw [hF239 347 0 rfl]; exact (by rw [hF233 347 0 rfl]; exact (by rw [hF218 347 0 rfl]; exact (by rw [hF2 347 0 rfl]; exact np1))))) rfl), (show dkN [(6, 6)] (I218 347 5) from dkN_sub (by rw [hF240 347 5 rfl]; exact (by rw [hF239 347 5 rfl]; exact (by rw [hF233 347 5 rfl]; exact (by rw [hF218 347 5 rfl]; exact f217)))) rfl), (by omega), (show I218 340 7 = 3 from ((hF240 340 7 rfl).trans ((hF239 340 7 rfl).trans ((hF233 340 7 rfl).trans y220)))), (show I218 340 8 = I0 340 10 from ((hF240 340 8 rfl).trans ((hF239 340 8 rfl).trans ((hF233 340 8 rfl).trans y221)))), (show I218 347 0 = I0 347 0 from ((hF240 347 0 rfl).trans ((hF239 347 0 rfl).trans ((hF233 347 0 rfl).trans ((hF218 347 0 rfl).trans rfl))))), (show I218 347 4 = I0 347 4 from ((hF240 347 4 rfl).trans ((hF239 347 4 rfl).trans ((hF233 347 4 rfl).trans ((hF218 347 4 rfl).trans rfl))))), (show I218 347 5 = I0 347 5 from ((hF240 347 5 rfl).trans ((hF239 347 5 rfl).trans ((hF233 347 5 rfl).trans ((hF218 347 5 rfl).trans rfl))))), trivial⟩⟩, dkW_eq ht hW⟩, hS.F ht⟩) hS.2.2 dX6_readsDog_132
          ·
            exact absurd ((xv240).trans (rfl).symm) c243
        ·
          have q244 : (I0 340 11).toInt = (4 : Int) := by first | (rw [← xv234]; exact (congrArg Int32.toInt c235)) | (subst xv234; exact (congrArg Int32.toInt c235))
          have d245 : dkN [(4, 4)] v234 := dkN_eq1 (dkN_top v234) (dkN_lit (x := 4) (4) rfl) (congrArg Int32.toInt c235) rfl
          have f246 : dkN [(4, 4)] (I218 340 11) := by rw [← ev234]; exact d245
          refine lv_iconst (v := 1) hx hb dX6_readsDog_80 (by decide) ?_
          refine lv_goto (tgt := 85) hx hb dX6_readsDog_81 (by decide) ?_
          refine lv_iconst (v := 1) hx hb dX6_readsDog_85 (by decide) ?_
          refine dk_Vi (As := [.int 1, .int 1]) (rest := []) ⟨hx, hb, hml, hown, hts⟩ (h_X6_takes_0 l g z I218 1 1 (show dkN [(0, 90)] (I218 340 8) from dkN_sub (by rw [hF233 340 8 rfl]; exact f218_340_8) rfl) hO) (cwV 2 hts gX6_readsDog_X6_takes rfl rfl rfl (by decide +kernel) ⟨Nat.le_of_ble_eq_true rfl, Nat.le_of_ble_eq_true rfl⟩) (dk_at340 hW) rfl hK hT hW hS rfl hl.1 rfl (Nat.le_of_ble_eq_true rfl) dX6_readsDog_86 ⟨Nat.zero_le _, Nat.zero_le _⟩ (fun v247 I247 H247 L247 hp247 hW hS => ?_)
          obtain ⟨hF247, hO, hc247⟩ := hp247
          have hF := dkF_call hF hF247 rfl
          have eI247 : I218 = I247 := (dkF_nil hF247).symm
          subst eI247
          obtain ⟨dv247, xr247, -⟩ := hc247
          have xv247 : v247 = 0 := by have h := xr247; exact h
          refine lv_pop hx hb dX6_readsDog_89 rfl ?_
          refine lv_aload_n hx hb dX6_readsDog_90 rfl (lv_at hl 3 rfl) ?_
          refine dk_Vi (As := []) (rest := []) ⟨hx, hb, hml, hown, hts⟩ (fx_X6_isWell_7 l g z I218 (show dkN [(0, 90)] (I218 340 8) from dkN_sub (by rw [hF247 340 8 rfl]; exact (by rw [hF233 340 8 rfl]; exact f218_340_8)) rfl) hO) (cwV 0 hts gX6_readsDog_X6_isWell rfl rfl rfl (by decide +kernel) ⟨Nat.le_of_ble_eq_true rfl, Nat.le_of_ble_eq_true rfl⟩) (dk_at340 hW) rfl hK hT hW hS rfl hl.1 rfl (Nat.le_of_ble_eq_true rfl) dX6_readsDog_91 ⟨Nat.zero_le _, Nat.zero_le _⟩ (fun v248 I248 H248 L248 hp248 hW hS => ?_)
          obtain ⟨hF248, hO, hc248⟩ := hp248
          have hF := dkF_call hF hF248 rfl
          have eI248 : I218 = I248 := (dkF_nil hF248).symm
          subst eI248
          obtain ⟨dv248, f248_340_8, x248_0, xr248, -⟩ := hc248
          have w249 : I218 340 8 = I0 340 10 := ((hF247 340 8 rfl).trans ((hF233 340 8 rfl).trans y221))
          have q250 : (0 : Int) + 0 ≤ (I0 340 10).toInt := by have h := x248_0; rw [w249] at h; exact h
          have xv248 : v248 = 0 := by have h := xr248; exact h
          refine lv_if_eq (tgt := 132) hx hb dX6_readsDog_94 (by decide) (fun c251 => ?_) (fun c251 => ?_)
          ·
            exact W.vret hx hb hr (fun t ht hW9 => ⟨⟨I218, rfl, ⟨hF, hO, Or.inl ⟨(show dkN [(3, 3)] (I218 340 7) from dkN_sub (by rw [hF248 340 7 rfl]; exact (by rw [hF247 340 7 rfl]; exact (by rw [hF233 340 7 rfl]; exact f218_340_7))) rfl), (show dkN [(0, 90)] (I218 340 8) from dkN_sub f248_340_8 rfl), (show dkN [(3, 9)] (I218 347 0) from dkN_sub (by rw [hF248 347 0 rfl]; exact (by rw [hF247 347 0 rfl]; exact (by rw [hF233 347 0 rfl]; exact (by rw [hF218 347 0 rfl]; exact (by rw [hF2 347 0 rfl]; exact np1))))) rfl), (show dkN [(6, 6)] (I218 347 5) from dkN_sub (by rw [hF248 347 5 rfl]; exact (by rw [hF247 347 5 rfl]; exact (by rw [hF233 347 5 rfl]; exact (by rw [hF218 347 5 rfl]; exact f217)))) rfl), (by omega), (show I218 340 7 = 3 from ((hF248 340 7 rfl).trans ((hF247 340 7 rfl).trans ((hF233 340 7 rfl).trans y220)))), (show I218 340 8 = I0 340 10 from ((hF248 340 8 rfl).trans ((hF247 340 8 rfl).trans ((hF233 340 8 rfl).trans y221)))), (show I218 347 0 = I0 347 0 from ((hF248 347 0 rfl).trans ((hF247 347 0 rfl).trans ((hF233 347 0 rfl).trans ((hF218 347 0 rfl).trans rfl))))), (show I218 347 4 = I0 347 4 from ((hF248 347 4 rfl).trans ((hF247 347 4 rfl).trans ((hF233 347 4 rfl).trans ((hF218 347 4 rfl).trans rfl))))), (show I218 347 5 = I0 347 5 from ((hF248 347 5 rfl).trans ((hF247 347 5 rfl).trans ((hF233 347 5 rfl).trans ((hF218 347 5 rfl).trans rfl))))), trivial⟩⟩, dkW_eq ht hW⟩, hS.F ht⟩) hS.2.2 dX6_readsDog_132
          ·
            exact absurd ((xv248).trans (rfl).symm) c251
      ·
        exact (dkN_nil (show dkN [] 6 from dkN_le2 1 dv226 (dkN_lit (x := 6) (6) rfl) (dkc_nle c227) rfl)).elim
    ·
      have q252 : (I0 347 5).toInt + 1 ≤ (6 : Int) := by first | (rw [← xv213]; exact (dkc_nle c214)) | (subst xv213; exact (dkc_nle c214))
      have d253 : dkN [(0, 5)] v213 := dkN_le1 1 dv213 (dkN_lit (x := 6) (6) rfl) (dkc_nle c214) rfl
      have f254 : dkN [(0, 5)] (I0 347 5) := by rw [← ev213]; exact d253
      refine lv_iconst (v := 1) hx hb dX6_readsDog_20 (by decide) ?_
      refine lv_goto (tgt := 25) hx hb dX6_readsDog_21 (by decide) ?_
      refine lv_iconst (v := 3) hx hb dX6_readsDog_25 (by decide) ?_
      refine dk_Vi (As := [.int 1, .int 3]) (rest := []) ⟨hx, hb, hml, hown, hts⟩ (fx_X6_takes_43 l g z I0 1 3 (dkN_lit (x := 1) (1) rfl) (dkN_lit (x := 3) (3) rfl) (show dkN [(-1, -1)] (I0 340 8) from dkN_sub (by rw [hF2 340 8 rfl]; exact np0) rfl) hO) (cwV 2 hts gX6_readsDog_X6_takes rfl rfl rfl (by decide +kernel) ⟨Nat.le_of_ble_eq_true rfl, Nat.le_of_ble_eq_true rfl⟩) (dk_at340 hW) rfl hK hT hW hS rfl hl.1 rfl (Nat.le_of_ble_eq_true rfl) dX6_readsDog_26 ⟨Nat.zero_le _, Nat.zero_le _⟩ (fun v255 I255 H255 L255 hp255 hW hS => ?_)
      obtain ⟨hF255, hO, hc255⟩ := hp255
      have hF := dkF_call hF hF255 rfl
      obtain ⟨_, f255_340_11, f255_340_8, x255_0, x255_1, xr255, xh255_0, xh255_1, xh255_2, xh255_3, xh255_4, xh255_5, -⟩ := hc255
      have q256 : (I0 340 8).toInt + 1 ≤ (0 : Int) := x255_0
      have y257 : I255 340 7 = I0 340 7 := by have h := xh255_0; exact h
      have y258 : I255 340 8 = I0 340 8 := by have h := xh255_1; exact h
      have y259 : I255 340 9 = dkTe (I0 345) (I0 340 6) (I0 340 9) := by have h := xh255_2; exact h
      have y260 : I255 340 10 = I0 340 9 := by have h := xh255_3; exact h
      have y261 : I255 340 11 = dkTk (I0 345) (I0 340 6) (I0 340 9) := by have h := xh255_4; exact h
      have y262 : I255 340 12 = dkTv (I0 345) (I0 340 6) (I0 340 9) := by have h := xh255_5; exact h
      have xv255 : v255 = I0 340 12 := by have h := xr255; exact h
      refine lv_pop hx hb dX6_readsDog_29 rfl ?_
      refine lv_bipush (v := 36) hx hb dX6_readsDog_30 (by decide) ?_
      refine lv_iconst (v := 3) hx hb dX6_readsDog_32 (by decide) ?_
      refine lv_aload_n hx hb dX6_readsDog_33 rfl (lv_at hl 1 rfl) ?_
      refine dk_get (k := 340) hx hb hts iX6_readsDog_6 hown hK (dk_at340 hW) rfl 14 (by decide) (hts (.fieldLink RX6 28 "DogKingsModel" "draft" "[I") (List.mem_of_getElem? (i := 2) rfl)) rfl dX6_readsDog_34 ?_
      refine lv_iconst (v := 5) hx hb dX6_readsDog_37 (by decide) ?_
      refine dk_ild (k := 347) hx hb hK (dk_at347 hW) (dkN_in (n := 54) (dkN_lit (x := 5) (5) rfl) rfl) dX6_readsDog_38 ?_
      refine lv_topi (fun v263 ev263 => ?_)
      have ev263 : v263 = I255 347 5 := ev263
      have dv263 : dkN [(0, 5)] v263 := by rw [ev263]; exact (show dkN [(0, 5)] (I255 347 5) from (by rw [hF255 347 5 rfl]; exact f254))
      have xv263 : v263 = I0 347 5 := ev263.trans ((hF255 347 5 rfl).trans rfl)
      refine lv_bipush (v := 6) hx hb dX6_readsDog_39 (by decide) ?_
      refine lv_icmp_ge (tgt := 53) hx hb dX6_readsDog_41 (by decide) (fun c264 => ?_) (fun c264 => ?_)
      ·
        exact (dkN_nil (show dkN [] 6 from dkN_le1 0 (dkN_lit (x := 6) (6) rfl) dv263 (dkc_le c264) rfl)).elim
      ·
        refine lv_aload_n hx hb dX6_readsDog_44 rfl (lv_at hl 1 rfl) ?_
        refine dk_get (k := 340) hx hb hts iX6_readsDog_6 hown hK (dk_at340 hW) rfl 14 (by decide) (hts (.fieldLink RX6 28 "DogKingsModel" "draft" "[I") (List.mem_of_getElem? (i := 2) rfl)) rfl dX6_readsDog_45 ?_
        refine lv_iconst (v := 5) hx hb dX6_readsDog_48 (by decide) ?_
        refine dk_ild (k := 347) hx hb hK (dk_at347 hW) (dkN_in (n := 54) (dkN_lit (x := 5) (5) rfl) rfl) dX6_readsDog_49 ?_
        refine lv_topi (fun v265 ev265 => ?_)
        have ev265 : v265 = I255 347 5 := ev265
        have dv265 : dkN [(0, 5)] v265 := by rw [ev265]; exact (show dkN [(0, 5)] (I255 347 5) from (by rw [hF255 347 5 rfl]; exact f254))
        have xv265 : v265 = I0 347 5 := ev265.trans ((hF255 347 5 rfl).trans rfl)
        refine lv_goto (tgt := 54) hx hb dX6_readsDog_50 (by decide) ?_
        refine lv_imul hx hb dX6_readsDog_54 ?_
        refine lv_topi (fun v266 ev266 => ?_)
        have dv266 : dkN [(0, 0), (3, 3), (6, 6), (9, 9), (12, 12), (15, 15)] v266 := by rw [ev266]; exact dkN_mulPt 3 (dkN_lit (x := 3) (3) rfl) dv265 rfl
        have xv266 : v266 = (3 : Int32) * (I0 347 5) := by rw [ev266, xv265]
        have q267 : ((3 : Int32) * (I0 347 5)).toInt = (3 : Int) * (I0 347 5).toInt := by first | (rw [← xv266, ← xv265]; exact (by rw [ev266]; exact dk_mulE 3 (x := 3) rfl dv265 (by decide) rfl)) | (subst xv266 xv265; exact (by rw [ev266]; exact dk_mulE 3 (x := 3) rfl dv265 (by decide) rfl))
        refine lv_iadd hx hb dX6_readsDog_55 ?_
        refine lv_topi (fun v268 ev268 => ?_)
        have dv268 : dkN [(36, 36), (39, 39), (42, 42), (45, 45), (48, 48), (51, 51)] v268 := by rw [ev268]; exact dkN_add (dkN_lit (x := 36) (36) rfl) dv266 rfl
        have xv268 : v268 = (36 : Int32) + ((3 : Int32) * (I0 347 5)) := by rw [ev268, xv266]
        have q269 : ((36 : Int32) + ((3 : Int32) * (I0 347 5))).toInt = (36 : Int) + ((3 : Int32) * (I0 347 5)).toInt := by first | (rw [← xv268, ← xv266]; exact (by rw [ev268]; exact dk_addE (dkN_lit (x := 36) (36) rfl) dv266 rfl)) | (subst xv268 xv266; exact (by rw [ev268]; exact dk_addE (dkN_lit (x := 36) (36) rfl) dv266 rfl))
        refine lv_istore_n (lv' := [(2, .int v268), (1, .int v2), (0, .ref (z + 340))]) hx hb dX6_readsDog_56 rfl hl (by decide) rfl (fun ls hl => ?_)
        refine lv_aload_n hx hb dX6_readsDog_57 rfl (lv_at hl 2 rfl) ?_
        refine lv_iconst (v := 0) hx hb dX6_readsDog_58 (by decide) ?_
        refine lv_aload_n hx hb dX6_readsDog_59 rfl (lv_at hl 2 rfl) ?_
        refine dk_get (k := 340) hx hb hts iX6_readsDog_6 hown hK (dk_at340 hW) rfl 14 (by decide) (hts (.fieldLink RX6 28 "DogKingsModel" "draft" "[I") (List.mem_of_getElem? (i := 2) rfl)) rfl dX6_readsDog_60 ?_
        refine lv_iconst (v := 0) hx hb dX6_readsDog_63 (by decide) ?_
        refine dk_ild (k := 347) hx hb hK (dk_at347 hW) (dkN_in (n := 54) (dkN_lit (x := 0) (0) rfl) rfl) dX6_readsDog_64 ?_
        refine lv_topi (fun v270 ev270 => ?_)
        have ev270 : v270 = I255 347 0 := ev270
        have dv270 : dkN [(3, 9)] v270 := by rw [ev270]; exact (show dkN [(3, 9)] (I255 347 0) from (by rw [hF255 347 0 rfl]; exact (by rw [hF2 347 0 rfl]; exact np1)))
        have xv270 : v270 = I0 347 0 := ev270.trans ((hF255 347 0 rfl).trans rfl)
        refine lv_iconst (v := 1) hx hb dX6_readsDog_65 (by decide) ?_
        refine lv_isub hx hb dX6_readsDog_66 ?_
        refine lv_topi (fun v271 ev271 => ?_)
        have dv271 : dkN [(2, 8)] v271 := by rw [ev271]; exact dkN_subt dv270 (dkN_lit (x := 1) (1) rfl) rfl
        have xv271 : v271 = (I0 347 0) - (1 : Int32) := by rw [ev271, xv270]
        have q272 : ((I0 347 0) - (1 : Int32)).toInt = (I0 347 0).toInt - (1 : Int) := by first | (rw [← xv271, ← xv270]; exact (by rw [ev271]; exact dk_subE dv270 (dkN_lit (x := 1) (1) rfl) rfl)) | (subst xv271 xv270; exact (by rw [ev271]; exact dk_subE dv270 (dkN_lit (x := 1) (1) rfl) rfl))
        refine dk_Vi (As := [.int 0, .int v271]) (rest := []) ⟨hx, hb, hml, hown, hts⟩ (fx_X6_figure_12 l g z I255 0 v271 (dkN_lit (x := 0) (0) rfl) dv271 (show dkN [(-1, -1)] (I255 340 8) from dkN_sub f255_340_8 rfl) hO) (cwV 2 hts gX6_readsDog_X6_figure rfl rfl rfl (by decide +kernel) ⟨Nat.le_of_ble_eq_true rfl, Nat.le_of_ble_eq_true rfl⟩) (dk_at340 hW) rfl hK hT hW hS rfl hl.1 rfl (Nat.le_of_ble_eq_true rfl) dX6_readsDog_67 ⟨Nat.zero_le _, Nat.zero_le _⟩ (fun v273 I273 H273 L273 hp273 hW hS => ?_)
        obtain ⟨hF273, hO, hc273⟩ := hp273
        have hF := dkF_call hF hF273 rfl
        rcases hc273 with ⟨dv273, f273_340_11, f273_340_12, f273_340_7, f273_340_8, x273_0, x273_1, x273_2, xr273, xh273_0, xh273_1, xh273_2, xh273_3, xh273_4, xh273_5, -⟩ | hc273
        ·
          have w274 : I255 340 8 = I0 340 8 := y258
          have w275 : I255 340 11 = dkTk (I0 345) (I0 340 6) (I0 340 9) := y261
          have q276 : (dkTk (I0 345) (I0 340 6) (I0 340 9)).toInt = (2 : Int) := by have h := x273_1; rw [w275] at h; exact h
          have w277 : I255 340 12 = dkTv (I0 345) (I0 340 6) (I0 340 9) := y262
          have q278 : (dkTv (I0 345) (I0 340 6) (I0 340 9)).toInt + 1 ≤ (0 : Int) := by have h := x273_2; rw [w277] at h; exact h
          have y279 : I273 340 7 = 2 := by have h := xh273_0; exact h
          have w280 : I255 340 10 = I0 340 9 := y260
          have y281 : I273 340 8 = I0 340 9 := by have h := xh273_1; rw [w280] at h; exact h
          have w282 : I255 340 9 = dkTe (I0 345) (I0 340 6) (I0 340 9) := y259
          have y283 : I273 340 9 = dkTe (I0 345) (I0 340 6) (I0 340 9) := by have h := xh273_2; rw [w282] at h; exact h
          have y284 : I273 340 10 = I0 340 9 := by have h := xh273_3; rw [w280] at h; exact h
          have y285 : I273 340 11 = dkTk (I0 345) (I0 340 6) (I0 340 9) := by have h := xh273_4; rw [w275] at h; exact h
          have y286 : I273 340 12 = dkTv (I0 345) (I0 340 6) (I0 340 9) := by have h := xh273_5; rw [w277] at h; exact h
          have xv273 : v273 = 0 := by have h := xr273; exact h
          refine lv_istore_n (lv' := [(3, .int v273), (2, .int v268), (1, .int v2), (0, .ref (z + 340))]) hx hb dX6_readsDog_70 rfl hl (by decide) rfl (fun ls hl => ?_)
          refine lv_aload_n hx hb dX6_readsDog_71 rfl (lv_at hl 3 rfl) ?_
          refine lv_aload_n hx hb dX6_readsDog_72 rfl (lv_at hl 3 rfl) ?_
          refine dk_get (k := 340) hx hb hts iX6_readsDog_6 hown hK (dk_at340 hW) rfl 11 (by decide) (hts (.fieldLink RX6 98 "DogKingsModel" "token" "I") (List.mem_of_getElem? (i := 3) rfl)) rfl dX6_readsDog_73 ?_
          refine lv_topi (fun v287 ev287 => ?_)
          have dv287 : dkN [(2, 2)] v287 := by rw [ev287]; exact f273_340_11
          have xv287 : v287 = dkTk (I0 345) (I0 340 6) (I0 340 9) := ev287.trans y285
          refine lv_iconst (v := 4) hx hb dX6_readsDog_76 (by decide) ?_
          refine lv_icmp_ne (tgt := 84) hx hb dX6_readsDog_77 (by decide) (fun c288 => ?_) (fun c288 => ?_)
          ·
            have q289 : (dkTk (I0 345) (I0 340 6) (I0 340 9)).toInt ≠ (4 : Int) := by first | (rw [← xv287]; exact (dk_ne c288)) | (subst xv287; exact (dk_ne c288))
            refine lv_iconst (v := 0) hx hb dX6_readsDog_84 (by decide) ?_
            refine lv_iconst (v := 1) hx hb dX6_readsDog_85 (by decide) ?_
            refine dk_Vi (As := [.int 0, .int 1]) (rest := []) ⟨hx, hb, hml, hown, hts⟩ (h_X6_takes_0 l g z I273 0 1 (show dkN [(0, 90)] (I273 340 8) from dkN_sub f273_340_8 rfl) hO) (cwV 2 hts gX6_readsDog_X6_takes rfl rfl rfl (by decide +kernel) ⟨Nat.le_of_ble_eq_true rfl, Nat.le_of_ble_eq_true rfl⟩) (dk_at340 hW) rfl hK hT hW hS rfl hl.1 rfl (Nat.le_of_ble_eq_true rfl) dX6_readsDog_86 ⟨Nat.zero_le _, Nat.zero_le _⟩ (fun v290 I290 H290 L290 hp290 hW hS => ?_)
            obtain ⟨hF290, hO, hc290⟩ := hp290
            have hF := dkF_call hF hF290 rfl
            have eI290 : I273 = I290 := (dkF_nil hF290).symm
            subst eI290
            obtain ⟨dv290, xr290, -⟩ := hc290
            have xv290 : v290 = 0 := by have h := xr290; exact h
            refine lv_pop hx hb dX6_readsDog_89 rfl ?_
            refine lv_aload_n hx hb dX6_readsDog_90 rfl (lv_at hl 3 rfl) ?_
            refine dk_Vi (As := []) (rest := []) ⟨hx, hb, hml, hown, hts⟩ (fx_X6_isWell_7 l g z I273 (show dkN [(0, 90)] (I273 340 8) from dkN_sub (by rw [hF290 340 8 rfl]; exact f273_340_8) rfl) hO) (cwV 0 hts gX6_readsDog_X6_isWell rfl rfl rfl (by decide +kernel) ⟨Nat.le_of_ble_eq_true rfl, Nat.le_of_ble_eq_true rfl⟩) (dk_at340 hW) rfl hK hT hW hS rfl hl.1 rfl (Nat.le_of_ble_eq_true rfl) dX6_readsDog_91 ⟨Nat.zero_le _, Nat.zero_le _⟩ (fun v291 I291 H291 L291 hp291 hW hS => ?_)
            obtain ⟨hF291, hO, hc291⟩ := hp291
            have hF := dkF_call hF hF291 rfl
            have eI291 : I273 = I291 := (dkF_nil hF291).symm
            subst eI291
            obtain ⟨dv291, f291_340_8, x291_0, xr291, -⟩ := hc291
            have w292 : I273 340 8 = I0 340 9 := ((hF290 340 8 rfl).trans y281)
            have q293 : (0 : Int) + 0 ≤ (I0 340 9).toInt := by have h := x291_0; rw [w292] at h; exact h
            have xv291 : v291 = 0 := by have h := xr291; exact h
            refine lv_if_eq (tgt := 132) hx hb dX6_readsDog_94 (by decide) (fun c294 => ?_) (fun c294 => ?_)
            ·
              have i0 : (0 : Int32).toInt = 0 := rfl
              have i1 : (1 : Int32).toInt = 1 := rfl
              have i2 : (2 : Int32).toInt = 2 := rfl
              have i3 : (3 : Int32).toInt = 3 := rfl
              have i9 : (9 : Int32).toInt = 9 := rfl
              have i30 : (30 : Int32).toInt = 30 := rfl
              have i44 : (44 : Int32).toInt = 44 := rfl
              have i59 : (59 : Int32).toInt = 59 := rfl
              have i109 : (109 : Int32).toInt = 109 := rfl
              have i116 : (116 : Int32).toInt = 116 := rfl
              have e295 : dkDo (I0 345) (I0 340 6) (I0 347 0) (I0 340 9) = (2, I0 340 9) := (dkTh_q (dkK_2 (T := (I0 345)) (n := (I0 340 6)) (a := I0 340 9) (lo := 0) (hi := ((I0 347 0) - (1 : Int32))) q276 (by omega)) (by decide))
              exact W.vret hx hb hr (fun t ht hW9 => ⟨⟨I273, rfl, ⟨hF, hO, Or.inr (Or.inl ⟨(show dkN [(1, 2)] (I273 340 7) from dkN_sub (by rw [hF291 340 7 rfl]; exact (by rw [hF290 340 7 rfl]; exact f273_340_7)) rfl), (show dkN [(0, 90)] (I273 340 8) from dkN_sub f291_340_8 rfl), (show dkN [(3, 9)] (I273 347 0) from dkN_sub (by rw [hF291 347 0 rfl]; exact (by rw [hF290 347 0 rfl]; exact (by rw [hF273 347 0 rfl]; exact (by rw [hF255 347 0 rfl]; exact (by rw [hF2 347 0 rfl]; exact np1))))) rfl), (show dkN [(0, 5)] (I273 347 5) from dkN_sub (by rw [hF291 347 5 rfl]; exact (by rw [hF290 347 5 rfl]; exact (by rw [hF273 347 5 rfl]; exact (by rw [hF255 347 5 rfl]; exact f254)))) rfl), (by omega), (dkE_k e295 (by decide)), (((show I273 340 7 = 2 from ((hF291 340 7 rfl).trans ((hF290 340 7 rfl).trans y279)))).trans (dkP_1 e295).symm), (((show I273 340 8 = I0 340 9 from ((hF291 340 8 rfl).trans ((hF290 340 8 rfl).trans y281)))).trans (dkP_2 e295).symm), (show I273 347 0 = I0 347 0 from ((hF291 347 0 rfl).trans ((hF290 347 0 rfl).trans ((hF273 347 0 rfl).trans ((hF255 347 0 rfl).trans rfl))))), (show I273 347 4 = I0 347 4 from ((hF291 347 4 rfl).trans ((hF290 347 4 rfl).trans ((hF273 347 4 rfl).trans ((hF255 347 4 rfl).trans rfl))))), (show I273 347 5 = I0 347 5 from ((hF291 347 5 rfl).trans ((hF290 347 5 rfl).trans ((hF273 347 5 rfl).trans ((hF255 347 5 rfl).trans rfl))))), trivial⟩)⟩, dkW_eq ht hW⟩, hS.F ht⟩) hS.2.2 dX6_readsDog_132
            ·
              exact absurd ((xv291).trans (rfl).symm) c294
          ·
            exact (dkN_nil (show dkN [] v287 from dkN_eq1 dv287 (dkN_lit (x := 4) (4) rfl) (congrArg Int32.toInt c288) rfl)).elim
        rcases hc273 with ⟨dv273, f273_340_11, f273_340_12, f273_340_7, f273_340_8, x273_0, x273_1, x273_2, x273_3, xr273, xh273_0, xh273_1, xh273_2, xh273_3, xh273_4, xh273_5, -⟩ | hc273
        ·
          have w296 : I255 340 8 = I0 340 8 := y258
          have w297 : I255 340 11 = dkTk (I0 345) (I0 340 6) (I0 340 9) := y261
          have q298 : (dkTk (I0 345) (I0 340 6) (I0 340 9)).toInt = (2 : Int) := by have h := x273_1; rw [w297] at h; exact h
          have w299 : I255 340 12 = dkTv (I0 345) (I0 340 6) (I0 340 9) := y262
          have q300 : (0 : Int) + 0 ≤ (dkTv (I0 345) (I0 340 6) (I0 340 9)).toInt := by have h := x273_2; rw [w299] at h; exact h
          have q301 : ((I0 347 0) - (1 : Int32)).toInt + 1 ≤ (dkTv (I0 345) (I0 340 6) (I0 340 9)).toInt := by have h := x273_3; rw [w299, xv271] at h; exact h
          have y302 : I273 340 7 = 2 := by have h := xh273_0; exact h
          have w303 : I255 340 10 = I0 340 9 := y260
          have y304 : I273 340 8 = I0 340 9 := by have h := xh273_1; rw [w303] at h; exact h
          have w305 : I255 340 9 = dkTe (I0 345) (I0 340 6) (I0 340 9) := y259
          have y306 : I273 340 9 = dkTe (I0 345) (I0 340 6) (I0 340 9) := by have h := xh273_2; rw [w305] at h; exact h
          have y307 : I273 340 10 = I0 340 9 := by have h := xh273_3; rw [w303] at h; exact h
          have y308 : I273 340 11 = dkTk (I0 345) (I0 340 6) (I0 340 9) := by have h := xh273_4; rw [w297] at h; exact h
          have y309 : I273 340 12 = dkTv (I0 345) (I0 340 6) (I0 340 9) := by have h := xh273_5; rw [w299] at h; exact h
          have xv273 : v273 = 0 := by have h := xr273; exact h
          refine lv_istore_n (lv' := [(3, .int v273), (2, .int v268), (1, .int v2), (0, .ref (z + 340))]) hx hb dX6_readsDog_70 rfl hl (by decide) rfl (fun ls hl => ?_)
          refine lv_aload_n hx hb dX6_readsDog_71 rfl (lv_at hl 3 rfl) ?_
          refine lv_aload_n hx hb dX6_readsDog_72 rfl (lv_at hl 3 rfl) ?_
          refine dk_get (k := 340) hx hb hts iX6_readsDog_6 hown hK (dk_at340 hW) rfl 11 (by decide) (hts (.fieldLink RX6 98 "DogKingsModel" "token" "I") (List.mem_of_getElem? (i := 3) rfl)) rfl dX6_readsDog_73 ?_
          refine lv_topi (fun v310 ev310 => ?_)
          have dv310 : dkN [(2, 2)] v310 := by rw [ev310]; exact f273_340_11
          have xv310 : v310 = dkTk (I0 345) (I0 340 6) (I0 340 9) := ev310.trans y308
          refine lv_iconst (v := 4) hx hb dX6_readsDog_76 (by decide) ?_
          refine lv_icmp_ne (tgt := 84) hx hb dX6_readsDog_77 (by decide) (fun c311 => ?_) (fun c311 => ?_)
          ·
            have q312 : (dkTk (I0 345) (I0 340 6) (I0 340 9)).toInt ≠ (4 : Int) := by first | (rw [← xv310]; exact (dk_ne c311)) | (subst xv310; exact (dk_ne c311))
            refine lv_iconst (v := 0) hx hb dX6_readsDog_84 (by decide) ?_
            refine lv_iconst (v := 1) hx hb dX6_readsDog_85 (by decide) ?_
            refine dk_Vi (As := [.int 0, .int 1]) (rest := []) ⟨hx, hb, hml, hown, hts⟩ (h_X6_takes_0 l g z I273 0 1 (show dkN [(0, 90)] (I273 340 8) from dkN_sub f273_340_8 rfl) hO) (cwV 2 hts gX6_readsDog_X6_takes rfl rfl rfl (by decide +kernel) ⟨Nat.le_of_ble_eq_true rfl, Nat.le_of_ble_eq_true rfl⟩) (dk_at340 hW) rfl hK hT hW hS rfl hl.1 rfl (Nat.le_of_ble_eq_true rfl) dX6_readsDog_86 ⟨Nat.zero_le _, Nat.zero_le _⟩ (fun v313 I313 H313 L313 hp313 hW hS => ?_)
            obtain ⟨hF313, hO, hc313⟩ := hp313
            have hF := dkF_call hF hF313 rfl
            have eI313 : I273 = I313 := (dkF_nil hF313).symm
            subst eI313
            obtain ⟨dv313, xr313, -⟩ := hc313
            have xv313 : v313 = 0 := by have h := xr313; exact h
            refine lv_pop hx hb dX6_readsDog_89 rfl ?_
            refine lv_aload_n hx hb dX6_readsDog_90 rfl (lv_at hl 3 rfl) ?_
            refine dk_Vi (As := []) (rest := []) ⟨hx, hb, hml, hown, hts⟩ (fx_X6_isWell_7 l g z I273 (show dkN [(0, 90)] (I273 340 8) from dkN_sub (by rw [hF313 340 8 rfl]; exact f273_340_8) rfl) hO) (cwV 0 hts gX6_readsDog_X6_isWell rfl rfl rfl (by decide +kernel) ⟨Nat.le_of_ble_eq_true rfl, Nat.le_of_ble_eq_true rfl⟩) (dk_at340 hW) rfl hK hT hW hS rfl hl.1 rfl (Nat.le_of_ble_eq_true rfl) dX6_readsDog_91 ⟨Nat.zero_le _, Nat.zero_le _⟩ (fun v314 I314 H314 L314 hp314 hW hS => ?_)
            obtain ⟨hF314, hO, hc314⟩ := hp314
            have hF := dkF_call hF hF314 rfl
            have eI314 : I273 = I314 := (dkF_nil hF314).symm
            subst eI314
            obtain ⟨dv314, f314_340_8, x314_0, xr314, -⟩ := hc314
            have w315 : I273 340 8 = I0 340 9 := ((hF313 340 8 rfl).trans y304)
            have q316 : (0 : Int) + 0 ≤ (I0 340 9).toInt := by have h := x314_0; rw [w315] at h; exact h
            have xv314 : v314 = 0 := by have h := xr314; exact h
            refine lv_if_eq (tgt := 132) hx hb dX6_readsDog_94 (by decide) (fun c317 => ?_) (fun c317 => ?_)
            ·
              have i0 : (0 : Int32).toInt = 0 := rfl
              have i1 : (1 : Int32).toInt = 1 := rfl
              have i2 : (2 : Int32).toInt = 2 := rfl
              have i3 : (3 : Int32).toInt = 3 := rfl
              have i9 : (9 : Int32).toInt = 9 := rfl
              have i30 : (30 : Int32).toInt = 30 := rfl
              have i44 : (44 : Int32).toInt = 44 := rfl
              have i59 : (59 : Int32).toInt = 59 := rfl
              have i109 : (109 : Int32).toInt = 109 := rfl
              have i116 : (116 : Int32).toInt = 116 := rfl
              have e318 : dkDo (I0 345) (I0 340 6) (I0 347 0) (I0 340 9) = (2, I0 340 9) := (dkTh_q (dkK_2 (T := (I0 345)) (n := (I0 340 6)) (a := I0 340 9) (lo := 0) (hi := ((I0 347 0) - (1 : Int32))) q298 (by omega)) (by decide))
              exact W.vret hx hb hr (fun t ht hW9 => ⟨⟨I273, rfl, ⟨hF, hO, Or.inr (Or.inl ⟨(show dkN [(1, 2)] (I273 340 7) from dkN_sub (by rw [hF314 340 7 rfl]; exact (by rw [hF313 340 7 rfl]; exact f273_340_7)) rfl), (show dkN [(0, 90)] (I273 340 8) from dkN_sub f314_340_8 rfl), (show dkN [(3, 9)] (I273 347 0) from dkN_sub (by rw [hF314 347 0 rfl]; exact (by rw [hF313 347 0 rfl]; exact (by rw [hF273 347 0 rfl]; exact (by rw [hF255 347 0 rfl]; exact (by rw [hF2 347 0 rfl]; exact np1))))) rfl), (show dkN [(0, 5)] (I273 347 5) from dkN_sub (by rw [hF314 347 5 rfl]; exact (by rw [hF313 347 5 rfl]; exact (by rw [hF273 347 5 rfl]; exact (by rw [hF255 347 5 rfl]; exact f254)))) rfl), (by omega), (dkE_k e318 (by decide)), (((show I273 340 7 = 2 from ((hF314 340 7 rfl).trans ((hF313 340 7 rfl).trans y302)))).trans (dkP_1 e318).symm), (((show I273 340 8 = I0 340 9 from ((hF314 340 8 rfl).trans ((hF313 340 8 rfl).trans y304)))).trans (dkP_2 e318).symm), (show I273 347 0 = I0 347 0 from ((hF314 347 0 rfl).trans ((hF313 347 0 rfl).trans ((hF273 347 0 rfl).trans ((hF255 347 0 rfl).trans rfl))))), (show I273 347 4 = I0 347 4 from ((hF314 347 4 rfl).trans ((hF313 347 4 rfl).trans ((hF273 347 4 rfl).trans ((hF255 347 4 rfl).trans rfl))))), (show I273 347 5 = I0 347 5 from ((hF314 347 5 rfl).trans ((hF313 347 5 rfl).trans ((hF273 347 5 rfl).trans ((hF255 347 5 rfl).trans rfl))))), trivial⟩)⟩, dkW_eq ht hW⟩, hS.F ht⟩) hS.2.2 dX6_readsDog_132
            ·
              exact absurd ((xv314).trans (rfl).symm) c317
          ·
            exact (dkN_nil (show dkN [] v310 from dkN_eq1 dv310 (dkN_lit (x := 4) (4) rfl) (congrArg Int32.toInt c311) rfl)).elim
        rcases hc273 with ⟨dv273, f273_340_11, f273_340_8, x273_0, x273_1, x273_2, x273_3, xr273, xh273_0, xh273_1, xh273_2, xh273_3, xh273_4, xh273_5, -⟩ | hc273
        ·
          have w319 : I255 340 8 = I0 340 8 := y258
          have w320 : I255 340 11 = dkTk (I0 345) (I0 340 6) (I0 340 9) := y261
          have q321 : (dkTk (I0 345) (I0 340 6) (I0 340 9)).toInt = (2 : Int) := by have h := x273_1; rw [w320] at h; exact h
          have w322 : I255 340 12 = dkTv (I0 345) (I0 340 6) (I0 340 9) := y262
          have q323 : (0 : Int) + 0 ≤ (dkTv (I0 345) (I0 340 6) (I0 340 9)).toInt := by have h := x273_2; rw [w322] at h; exact h
          have q324 : (dkTv (I0 345) (I0 340 6) (I0 340 9)).toInt + 0 ≤ ((I0 347 0) - (1 : Int32)).toInt := by have h := x273_3; rw [w322, xv271] at h; exact h
          have w325 : I255 340 7 = I0 340 7 := y257
          have y326 : I273 340 7 = I0 340 7 := by have h := xh273_0; rw [w325] at h; exact h
          have y327 : I273 340 8 = I0 340 8 := by have h := xh273_1; rw [w319] at h; exact h
          have w328 : I255 345 = I0 345 := ((funext fun j => hF255 345 j (dkNin_k rfl dkNin_nil)).trans rfl)
          have w329 : I255 340 6 = I0 340 6 := ((hF255 340 6 rfl).trans rfl)
          have w330 : I255 340 9 = dkTe (I0 345) (I0 340 6) (I0 340 9) := y259
          have y331 : I273 340 9 = dkTe (I0 345) (I0 340 6) (dkTe (I0 345) (I0 340 6) (I0 340 9)) := by have h := xh273_2; rw [w328, w329, w330] at h; exact h
          have y332 : I273 340 10 = dkTe (I0 345) (I0 340 6) (I0 340 9) := by have h := xh273_3; rw [w330] at h; exact h
          have y333 : I273 340 11 = dkTk (I0 345) (I0 340 6) (dkTe (I0 345) (I0 340 6) (I0 340 9)) := by have h := xh273_4; rw [w328, w329, w330] at h; exact h
          have y334 : I273 340 12 = dkTv (I0 345) (I0 340 6) (dkTe (I0 345) (I0 340 6) (I0 340 9)) := by have h := xh273_5; rw [w328, w329, w330] at h; exact h
          have xv273 : v273 = dkTv (I0 345) (I0 340 6) (I0 340 9) := by have h := xr273; rw [w322] at h; exact h
          refine lv_istore_n (lv' := [(3, .int v273), (2, .int v268), (1, .int v2), (0, .ref (z + 340))]) hx hb dX6_readsDog_70 rfl hl (by decide) rfl (fun ls hl => ?_)
          refine lv_aload_n hx hb dX6_readsDog_71 rfl (lv_at hl 3 rfl) ?_
          refine lv_aload_n hx hb dX6_readsDog_72 rfl (lv_at hl 3 rfl) ?_
          refine dk_get (k := 340) hx hb hts iX6_readsDog_6 hown hK (dk_at340 hW) rfl 11 (by decide) (hts (.fieldLink RX6 98 "DogKingsModel" "token" "I") (List.mem_of_getElem? (i := 3) rfl)) rfl dX6_readsDog_73 ?_
          refine lv_topi (fun v335 ev335 => ?_)
          have dv335 : dkN [(0, 5)] v335 := by rw [ev335]; exact f273_340_11
          have xv335 : v335 = dkTk (I0 345) (I0 340 6) (dkTe (I0 345) (I0 340 6) (I0 340 9)) := ev335.trans y333
          refine lv_iconst (v := 4) hx hb dX6_readsDog_76 (by decide) ?_
          refine lv_icmp_ne (tgt := 84) hx hb dX6_readsDog_77 (by decide) (fun c336 => ?_) (fun c336 => ?_)
          ·
            have q337 : (dkTk (I0 345) (I0 340 6) (dkTe (I0 345) (I0 340 6) (I0 340 9))).toInt ≠ (4 : Int) := by first | (rw [← xv335]; exact (dk_ne c336)) | (subst xv335; exact (dk_ne c336))
            have d338 : dkN [(0, 3), (5, 5)] v335 := dkN_ne1 (4) dv335 (dkN_lit (x := 4) (4) rfl) (dk_ne c336) rfl
            have f339 : dkN [(0, 3), (5, 5)] (I273 340 11) := by rw [← ev335]; exact d338
            refine lv_iconst (v := 0) hx hb dX6_readsDog_84 (by decide) ?_
            refine lv_iconst (v := 1) hx hb dX6_readsDog_85 (by decide) ?_
            refine dk_Vi (As := [.int 0, .int 1]) (rest := []) ⟨hx, hb, hml, hown, hts⟩ (fx_X6_takes_31 l g z I273 0 1 (dkN_lit (x := 0) (0) rfl) (dkN_lit (x := 1) (1) rfl) (show dkN [(-1, -1)] (I273 340 8) from dkN_sub f273_340_8 rfl) hO) (cwV 2 hts gX6_readsDog_X6_takes rfl rfl rfl (by decide +kernel) ⟨Nat.le_of_ble_eq_true rfl, Nat.le_of_ble_eq_true rfl⟩) (dk_at340 hW) rfl hK hT hW hS rfl hl.1 rfl (Nat.le_of_ble_eq_true rfl) dX6_readsDog_86 ⟨Nat.zero_le _, Nat.zero_le _⟩ (fun v340 I340 H340 L340 hp340 hW hS => ?_)
            obtain ⟨hF340, hO, hc340⟩ := hp340
            have hF := dkF_call hF hF340 rfl
            obtain ⟨dv340, f340_340_7, f340_340_8, x340_0, x340_1, xr340, xh340_0, xh340_1, xh340_2, xh340_3, xh340_4, xh340_5, -⟩ := hc340
            have w341 : I273 340 8 = I0 340 8 := y327
            have y342 : I340 340 7 = 1 := by have h := xh340_0; exact h
            have w343 : I273 340 10 = dkTe (I0 345) (I0 340 6) (I0 340 9) := y332
            have y344 : I340 340 8 = dkTe (I0 345) (I0 340 6) (I0 340 9) := by have h := xh340_1; rw [w343] at h; exact h
            have w345 : I273 340 9 = dkTe (I0 345) (I0 340 6) (dkTe (I0 345) (I0 340 6) (I0 340 9)) := y331
            have y346 : I340 340 9 = dkTe (I0 345) (I0 340 6) (dkTe (I0 345) (I0 340 6) (I0 340 9)) := by have h := xh340_2; rw [w345] at h; exact h
            have y347 : I340 340 10 = dkTe (I0 345) (I0 340 6) (I0 340 9) := by have h := xh340_3; rw [w343] at h; exact h
            have w348 : I273 340 11 = dkTk (I0 345) (I0 340 6) (dkTe (I0 345) (I0 340 6) (I0 340 9)) := y333
            have y349 : I340 340 11 = dkTk (I0 345) (I0 340 6) (dkTe (I0 345) (I0 340 6) (I0 340 9)) := by have h := xh340_4; rw [w348] at h; exact h
            have w350 : I273 340 12 = dkTv (I0 345) (I0 340 6) (dkTe (I0 345) (I0 340 6) (I0 340 9)) := y334
            have y351 : I340 340 12 = dkTv (I0 345) (I0 340 6) (dkTe (I0 345) (I0 340 6) (I0 340 9)) := by have h := xh340_5; rw [w350] at h; exact h
            have xv340 : v340 = 0 := by have h := xr340; exact h
            refine lv_pop hx hb dX6_readsDog_89 rfl ?_
            refine lv_aload_n hx hb dX6_readsDog_90 rfl (lv_at hl 3 rfl) ?_
            refine dk_Vi (As := []) (rest := []) ⟨hx, hb, hml, hown, hts⟩ (fx_X6_isWell_7 l g z I340 (show dkN [(0, 90)] (I340 340 8) from dkN_sub f340_340_8 rfl) hO) (cwV 0 hts gX6_readsDog_X6_isWell rfl rfl rfl (by decide +kernel) ⟨Nat.le_of_ble_eq_true rfl, Nat.le_of_ble_eq_true rfl⟩) (dk_at340 hW) rfl hK hT hW hS rfl hl.1 rfl (Nat.le_of_ble_eq_true rfl) dX6_readsDog_91 ⟨Nat.zero_le _, Nat.zero_le _⟩ (fun v352 I352 H352 L352 hp352 hW hS => ?_)
            obtain ⟨hF352, hO, hc352⟩ := hp352
            have hF := dkF_call hF hF352 rfl
            have eI352 : I340 = I352 := (dkF_nil hF352).symm
            subst eI352
            obtain ⟨dv352, f352_340_8, x352_0, xr352, -⟩ := hc352
            have w353 : I340 340 8 = dkTe (I0 345) (I0 340 6) (I0 340 9) := y344
            have q354 : (0 : Int) + 0 ≤ (dkTe (I0 345) (I0 340 6) (I0 340 9)).toInt := by have h := x352_0; rw [w353] at h; exact h
            have xv352 : v352 = 0 := by have h := xr352; exact h
            refine lv_if_eq (tgt := 132) hx hb dX6_readsDog_94 (by decide) (fun c355 => ?_) (fun c355 => ?_)
            ·
              have i0 : (0 : Int32).toInt = 0 := rfl
              have i1 : (1 : Int32).toInt = 1 := rfl
              have i2 : (2 : Int32).toInt = 2 := rfl
              have i3 : (3 : Int32).toInt = 3 := rfl
              have i9 : (9 : Int32).toInt = 9 := rfl
              have i30 : (30 : Int32).toInt = 30 := rfl
              have i44 : (44 : Int32).toInt = 44 := rfl
              have i59 : (59 : Int32).toInt = 59 := rfl
              have i109 : (109 : Int32).toInt = 109 := rfl
              have i116 : (116 : Int32).toInt = 116 := rfl
              have e356 : dkDo (I0 345) (I0 340 6) (I0 347 0) (I0 340 9) = (1, dkTe (I0 345) (I0 340 6) (I0 340 9)) := ((dkTh_p (dkK_0 (T := (I0 345)) (n := (I0 340 6)) (a := I0 340 9) (lo := 0) (hi := ((I0 347 0) - (1 : Int32))) q321 (by omega) (by omega))).trans (dkK_sn (T := (I0 345)) (n := (I0 340 6)) (a := dkTe (I0 345) (I0 340 6) (I0 340 9)) q337))
              exact W.vret hx hb hr (fun t ht hW9 => ⟨⟨I340, rfl, ⟨hF, hO, Or.inr (Or.inl ⟨(show dkN [(1, 2)] (I340 340 7) from dkN_sub (by rw [hF352 340 7 rfl]; exact f340_340_7) rfl), (show dkN [(0, 90)] (I340 340 8) from dkN_sub f352_340_8 rfl), (show dkN [(3, 9)] (I340 347 0) from dkN_sub (by rw [hF352 347 0 rfl]; exact (by rw [hF340 347 0 rfl]; exact (by rw [hF273 347 0 rfl]; exact (by rw [hF255 347 0 rfl]; exact (by rw [hF2 347 0 rfl]; exact np1))))) rfl), (show dkN [(0, 5)] (I340 347 5) from dkN_sub (by rw [hF352 347 5 rfl]; exact (by rw [hF340 347 5 rfl]; exact (by rw [hF273 347 5 rfl]; exact (by rw [hF255 347 5 rfl]; exact f254)))) rfl), (by omega), (dkE_k e356 (by decide)), (((show I340 340 7 = 1 from ((hF352 340 7 rfl).trans y342))).trans (dkP_1 e356).symm), (((show I340 340 8 = dkTe (I0 345) (I0 340 6) (I0 340 9) from ((hF352 340 8 rfl).trans y344))).trans (dkP_2 e356).symm), (show I340 347 0 = I0 347 0 from ((hF352 347 0 rfl).trans ((hF340 347 0 rfl).trans ((hF273 347 0 rfl).trans ((hF255 347 0 rfl).trans rfl))))), (show I340 347 4 = I0 347 4 from ((hF352 347 4 rfl).trans ((hF340 347 4 rfl).trans ((hF273 347 4 rfl).trans ((hF255 347 4 rfl).trans rfl))))), (show I340 347 5 = I0 347 5 from ((hF352 347 5 rfl).trans ((hF340 347 5 rfl).trans ((hF273 347 5 rfl).trans ((hF255 347 5 rfl).trans rfl))))), trivial⟩)⟩, dkW_eq ht hW⟩, hS.F ht⟩) hS.2.2 dX6_readsDog_132
            ·
              exact absurd ((xv352).trans (rfl).symm) c355
          ·
            have q357 : (dkTk (I0 345) (I0 340 6) (dkTe (I0 345) (I0 340 6) (I0 340 9))).toInt = (4 : Int) := by first | (rw [← xv335]; exact (congrArg Int32.toInt c336)) | (subst xv335; exact (congrArg Int32.toInt c336))
            have d358 : dkN [(4, 4)] v335 := dkN_eq1 dv335 (dkN_lit (x := 4) (4) rfl) (congrArg Int32.toInt c336) rfl
            have f359 : dkN [(4, 4)] (I273 340 11) := by rw [← ev335]; exact d358
            refine lv_iconst (v := 1) hx hb dX6_readsDog_80 (by decide) ?_
            refine lv_goto (tgt := 85) hx hb dX6_readsDog_81 (by decide) ?_
            refine lv_iconst (v := 1) hx hb dX6_readsDog_85 (by decide) ?_
            refine dk_Vi (As := [.int 1, .int 1]) (rest := []) ⟨hx, hb, hml, hown, hts⟩ (fx_X6_takes_38 l g z I273 1 1 (dkN_lit (x := 1) (1) rfl) (dkN_lit (x := 1) (1) rfl) (show dkN [(-1, -1)] (I273 340 8) from dkN_sub f273_340_8 rfl) hO) (cwV 2 hts gX6_readsDog_X6_takes rfl rfl rfl (by decide +kernel) ⟨Nat.le_of_ble_eq_true rfl, Nat.le_of_ble_eq_true rfl⟩) (dk_at340 hW) rfl hK hT hW hS rfl hl.1 rfl (Nat.le_of_ble_eq_true rfl) dX6_readsDog_86 ⟨Nat.zero_le _, Nat.zero_le _⟩ (fun v360 I360 H360 L360 hp360 hW hS => ?_)
            obtain ⟨hF360, hO, hc360⟩ := hp360
            have hF := dkF_call hF hF360 rfl
            obtain ⟨_, f360_340_11, f360_340_8, x360_0, x360_1, xr360, xh360_0, xh360_1, xh360_2, xh360_3, xh360_4, xh360_5, -⟩ := hc360
            have w361 : I273 340 8 = I0 340 8 := y327
            have w362 : I273 340 7 = I0 340 7 := y326
            have y363 : I360 340 7 = I0 340 7 := by have h := xh360_0; rw [w362] at h; exact h
            have y364 : I360 340 8 = I0 340 8 := by have h := xh360_1; rw [w361] at h; exact h
            have w365 : I273 345 = I0 345 := ((funext fun j => hF273 345 j (dkNin_k rfl dkNin_nil)).trans ((funext fun j => hF255 345 j (dkNin_k rfl dkNin_nil)).trans rfl))
            have w366 : I273 340 6 = I0 340 6 := ((hF273 340 6 rfl).trans ((hF255 340 6 rfl).trans rfl))
            have w367 : I273 340 9 = dkTe (I0 345) (I0 340 6) (dkTe (I0 345) (I0 340 6) (I0 340 9)) := y331
            have y368 : I360 340 9 = dkTe (I0 345) (I0 340 6) (dkTe (I0 345) (I0 340 6) (dkTe (I0 345) (I0 340 6) (I0 340 9))) := by have h := xh360_2; rw [w365, w366, w367] at h; exact h
            have y369 : I360 340 10 = dkTe (I0 345) (I0 340 6) (dkTe (I0 345) (I0 340 6) (I0 340 9)) := by have h := xh360_3; rw [w367] at h; exact h
            have y370 : I360 340 11 = dkTk (I0 345) (I0 340 6) (dkTe (I0 345) (I0 340 6) (dkTe (I0 345) (I0 340 6) (I0 340 9))) := by have h := xh360_4; rw [w365, w366, w367] at h; exact h
            have y371 : I360 340 12 = dkTv (I0 345) (I0 340 6) (dkTe (I0 345) (I0 340 6) (dkTe (I0 345) (I0 340 6) (I0 340 9))) := by have h := xh360_5; rw [w365, w366, w367] at h; exact h
            have w372 : I273 340 12 = dkTv (I0 345) (I0 340 6) (dkTe (I0 345) (I0 340 6) (I0 340 9)) := y334
            have xv360 : v360 = dkTv (I0 345) (I0 340 6) (dkTe (I0 345) (I0 340 6) (I0 340 9)) := by have h := xr360; rw [w372] at h; exact h
            refine lv_pop hx hb dX6_readsDog_89 rfl ?_
            refine lv_aload_n hx hb dX6_readsDog_90 rfl (lv_at hl 3 rfl) ?_
            refine dk_Vi (As := []) (rest := []) ⟨hx, hb, hml, hown, hts⟩ (fx_X6_isWell_6 l g z I360 (show dkN [(-1, -1)] (I360 340 8) from dkN_sub f360_340_8 rfl) hO) (cwV 0 hts gX6_readsDog_X6_isWell rfl rfl rfl (by decide +kernel) ⟨Nat.le_of_ble_eq_true rfl, Nat.le_of_ble_eq_true rfl⟩) (dk_at340 hW) rfl hK hT hW hS rfl hl.1 rfl (Nat.le_of_ble_eq_true rfl) dX6_readsDog_91 ⟨Nat.zero_le _, Nat.zero_le _⟩ (fun v373 I373 H373 L373 hp373 hW hS => ?_)
            obtain ⟨hF373, hO, hc373⟩ := hp373
            have hF := dkF_call hF hF373 rfl
            have eI373 : I360 = I373 := (dkF_nil hF373).symm
            subst eI373
            obtain ⟨dv373, f373_340_8, x373_0, xr373, -⟩ := hc373
            have w374 : I360 340 8 = I0 340 8 := y364
            have xv373 : v373 = 1 := by have h := xr373; exact h
            refine lv_if_eq (tgt := 132) hx hb dX6_readsDog_94 (by decide) (fun c375 => ?_) (fun c375 => ?_)
            ·
              exact (dkN_nil (show dkN [] v373 from dkN_eq1 dv373 (dkN_lit (x := 0) (0) rfl) (congrArg Int32.toInt c375) rfl)).elim
            ·
              refine lv_aload_n hx hb dX6_readsDog_97 rfl (lv_at hl 3 rfl) ?_
              refine dk_get (k := 340) hx hb hts iX6_readsDog_6 hown hK (dk_at340 hW) rfl 14 (by decide) (hts (.fieldLink RX6 28 "DogKingsModel" "draft" "[I") (List.mem_of_getElem? (i := 2) rfl)) rfl dX6_readsDog_98 ?_
              refine lv_iload_n hx hb dX6_readsDog_101 rfl (lv_at hl 1 rfl) ?_
              refine lv_iload_n hx hb dX6_readsDog_102 rfl (lv_at hl 2 rfl) ?_
              refine dk_ist (k := 347) hx hb hK hW (fun _ => rfl) (by decide) hS (dkN_in (n := 54) dv268 rfl) dX6_readsDog_103 (fun I376 H376 L376 eI376 hW hS => ?_)
              have hO := dkO_set hO eI376 (by rw [dkB_w (k := 347) (B := [(-2147483648, 2147483647)]) (by decide) dv268 rfl]; exact dkN_top _)
              have hF := dkF_set hF eI376 (dkIn_v dv268 rfl)
              refine lv_aload_n hx hb dX6_readsDog_104 rfl (lv_at hl 3 rfl) ?_
              refine dk_get (k := 340) hx hb hts iX6_readsDog_6 hown hK (dk_at340 hW) rfl 14 (by decide) (hts (.fieldLink RX6 28 "DogKingsModel" "draft" "[I") (List.mem_of_getElem? (i := 2) rfl)) rfl dX6_readsDog_105 ?_
              refine lv_iload_n hx hb dX6_readsDog_108 rfl (lv_at hl 1 rfl) ?_
              refine lv_iconst (v := 1) hx hb dX6_readsDog_109 (by decide) ?_
              refine lv_iadd hx hb dX6_readsDog_110 ?_
              refine lv_topi (fun v377 ev377 => ?_)
              have dv377 : dkN [(37, 37), (40, 40), (43, 43), (46, 46), (49, 49), (52, 52)] v377 := by rw [ev377]; exact dkN_add dv268 (dkN_lit (x := 1) (1) rfl) rfl
              have xv377 : v377 = ((36 : Int32) + ((3 : Int32) * (I0 347 5))) + (1 : Int32) := by rw [ev377, xv268]
              have q378 : (((36 : Int32) + ((3 : Int32) * (I0 347 5))) + (1 : Int32)).toInt = ((36 : Int32) + ((3 : Int32) * (I0 347 5))).toInt + (1 : Int) := by first | (rw [← xv377, ← xv268]; exact (by rw [ev377]; exact dk_addE dv268 (dkN_lit (x := 1) (1) rfl) rfl)) | (subst xv377 xv268; exact (by rw [ev377]; exact dk_addE dv268 (dkN_lit (x := 1) (1) rfl) rfl))
              refine lv_iload_n hx hb dX6_readsDog_111 rfl (lv_at hl 0 rfl) ?_
              refine dk_ist (k := 347) hx hb hK hW (fun _ => rfl) (by decide) hS (dkN_in (n := 54) dv377 rfl) dX6_readsDog_112 (fun I379 H379 L379 eI379 hW hS => ?_)
              have hO := dkO_set hO eI379 (by rw [dkB_w (k := 347) (B := [(-2147483648, 2147483647)]) (by decide) dv377 rfl]; exact dkN_top _)
              have hF := dkF_set hF eI379 (dkIn_v dv377 rfl)
              refine lv_aload_n hx hb dX6_readsDog_113 rfl (lv_at hl 3 rfl) ?_
              refine dk_get (k := 340) hx hb hts iX6_readsDog_6 hown hK (dk_at340 hW) rfl 14 (by decide) (hts (.fieldLink RX6 28 "DogKingsModel" "draft" "[I") (List.mem_of_getElem? (i := 2) rfl)) rfl dX6_readsDog_114 ?_
              refine lv_iload_n hx hb dX6_readsDog_117 rfl (lv_at hl 1 rfl) ?_
              refine lv_iconst (v := 2) hx hb dX6_readsDog_118 (by decide) ?_
              refine lv_iadd hx hb dX6_readsDog_119 ?_
              refine lv_topi (fun v380 ev380 => ?_)
              have dv380 : dkN [(38, 38), (41, 41), (44, 44), (47, 47), (50, 50), (53, 53)] v380 := by rw [ev380]; exact dkN_add dv268 (dkN_lit (x := 2) (2) rfl) rfl
              have xv380 : v380 = ((36 : Int32) + ((3 : Int32) * (I0 347 5))) + (2 : Int32) := by rw [ev380, xv268]
              have q381 : (((36 : Int32) + ((3 : Int32) * (I0 347 5))) + (2 : Int32)).toInt = ((36 : Int32) + ((3 : Int32) * (I0 347 5))).toInt + (2 : Int) := by first | (rw [← xv380, ← xv268]; exact (by rw [ev380]; exact dk_addE dv268 (dkN_lit (x := 2) (2) rfl) rfl)) | (subst xv380 xv268; exact (by rw [ev380]; exact dk_addE dv268 (dkN_lit (x := 2) (2) rfl) rfl))
              refine lv_iload_n hx hb dX6_readsDog_120 rfl (lv_at hl 0 rfl) ?_
              refine dk_ist (k := 347) hx hb hK hW (fun _ => rfl) (by decide) hS (dkN_in (n := 54) dv380 rfl) dX6_readsDog_121 (fun I382 H382 L382 eI382 hW hS => ?_)
              have hO := dkO_set hO eI382 (by rw [dkB_w (k := 347) (B := [(-2147483648, 2147483647)]) (by decide) dv380 rfl]; exact dkN_top _)
              have hF := dkF_set hF eI382 (dkIn_v dv380 rfl)
              refine lv_aload_n hx hb dX6_readsDog_122 rfl (lv_at hl 3 rfl) ?_
              refine dk_get (k := 340) hx hb hts iX6_readsDog_6 hown hK (dk_at340 hW) rfl 14 (by decide) (hts (.fieldLink RX6 28 "DogKingsModel" "draft" "[I") (List.mem_of_getElem? (i := 2) rfl)) rfl dX6_readsDog_123 ?_
              refine lv_iconst (v := 5) hx hb dX6_readsDog_126 (by decide) ?_
              refine lv_dup2_11 hx hb dX6_readsDog_127 rfl rfl ?_
              refine dk_ild (k := 347) hx hb hK (dk_at347 hW) (dkN_in (n := 54) (dkN_lit (x := 5) (5) rfl) rfl) dX6_readsDog_128 ?_
              refine lv_topi (fun v383 ev383 => ?_)
              have ev383 : v383 = I382 347 5 := ev383
              have dv383 : dkN [(0, 5)] v383 := by rw [ev383]; exact (show dkN [(0, 5)] (I382 347 5) from (by rw [eI382, dkU_sn (dkN_njx dv380 rfl)]; exact (by rw [eI379, dkU_sn (dkN_njx dv377 rfl)]; exact (by rw [eI376, dkU_sn (dkN_njx dv268 rfl)]; exact (by rw [hF373 347 5 rfl]; exact (by rw [hF360 347 5 rfl]; exact (by rw [hF273 347 5 rfl]; exact (by rw [hF255 347 5 rfl]; exact f254))))))))
              have xv383 : v383 = I0 347 5 := ev383.trans ((by rw [eI382, dkU_sn (dkN_njx dv380 rfl)] : I382 347 5 = _).trans ((by rw [eI379, dkU_sn (dkN_njx dv377 rfl)] : I379 347 5 = _).trans ((by rw [eI376, dkU_sn (dkN_njx dv268 rfl)] : I376 347 5 = _).trans ((hF373 347 5 rfl).trans ((hF360 347 5 rfl).trans ((hF273 347 5 rfl).trans ((hF255 347 5 rfl).trans rfl)))))))
              refine lv_iconst (v := 1) hx hb dX6_readsDog_129 (by decide) ?_
              refine lv_iadd hx hb dX6_readsDog_130 ?_
              refine lv_topi (fun v384 ev384 => ?_)
              have dv384 : dkN [(1, 6)] v384 := by rw [ev384]; exact dkN_add dv383 (dkN_lit (x := 1) (1) rfl) rfl
              have xv384 : v384 = (I0 347 5) + (1 : Int32) := by rw [ev384, xv383]
              have q385 : ((I0 347 5) + (1 : Int32)).toInt = (I0 347 5).toInt + (1 : Int) := by first | (rw [← xv384, ← xv383]; exact (by rw [ev384]; exact dk_addE dv383 (dkN_lit (x := 1) (1) rfl) rfl)) | (subst xv384 xv383; exact (by rw [ev384]; exact dk_addE dv383 (dkN_lit (x := 1) (1) rfl) rfl))
              refine dk_ist (k := 347) hx hb hK hW (fun _ => rfl) (by decide) hS (dkN_in (n := 54) (dkN_lit (x := 5) (5) rfl) rfl) dX6_readsDog_131 (fun I386 H386 L386 eI386 hW hS => ?_)
              have eI386 : I386 = dkU I382 347 5 v384 := eI386
              have hO := dkO_set hO eI386 (dkN_sub dv384 rfl)
              have hF := dkF_set hF eI386 rfl
              have i0 : (0 : Int32).toInt = 0 := rfl
              have i1 : (1 : Int32).toInt = 1 := rfl
              have i2 : (2 : Int32).toInt = 2 := rfl
              have i3 : (3 : Int32).toInt = 3 := rfl
              have i9 : (9 : Int32).toInt = 9 := rfl
              have i30 : (30 : Int32).toInt = 30 := rfl
              have i44 : (44 : Int32).toInt = 44 := rfl
              have i59 : (59 : Int32).toInt = 59 := rfl
              have i109 : (109 : Int32).toInt = 109 := rfl
              have i116 : (116 : Int32).toInt = 116 := rfl
              have e387 : dkDo (I0 345) (I0 340 6) (I0 347 0) (I0 340 9) = (0, dkTe (I0 345) (I0 340 6) (dkTe (I0 345) (I0 340 6) (I0 340 9))) := ((dkTh_p (dkK_0 (T := (I0 345)) (n := (I0 340 6)) (a := I0 340 9) (lo := 0) (hi := ((I0 347 0) - (1 : Int32))) q321 (by omega) (by omega))).trans (dkK_s (T := (I0 345)) (n := (I0 340 6)) (a := dkTe (I0 345) (I0 340 6) (I0 340 9)) q357))
              have st388 := dkSt_3 (d := I0 347 5) eI376 eI379 eI382 eI386 (by rw [xv268]; omega) (by rw [xv377]; omega) (by rw [xv380]; omega) (dk_nlt (dkN_ge (show dkN [(0, 6)] (I0 347 5) from ‹dkOk I0› 347 5) rfl))
              exact W.vret hx hb hr (fun t ht hW9 => ⟨⟨I386, rfl, ⟨hF, hO, Or.inr (Or.inr (⟨(show dkN [(0, 5)] (I386 340 11) from dkN_sub (by rw [eI386, dkU_n (by decide)]; exact (by rw [eI382, dkU_n (by decide)]; exact (by rw [eI379, dkU_n (by decide)]; exact (by rw [eI376, dkU_n (by decide)]; exact (by rw [hF373 340 11 rfl]; exact f360_340_11))))) rfl), (show dkN [(-1, -1)] (I386 340 8) from dkN_sub (by rw [eI386, dkU_n (by decide)]; exact (by rw [eI382, dkU_n (by decide)]; exact (by rw [eI379, dkU_n (by decide)]; exact (by rw [eI376, dkU_n (by decide)]; exact f373_340_8)))) rfl), (show dkN [(3, 9)] (I386 347 0) from dkN_sub (by rw [eI386, dkU_sn (by decide)]; exact (by rw [eI382, dkU_sn (dkN_njx dv380 rfl)]; exact (by rw [eI379, dkU_sn (dkN_njx dv377 rfl)]; exact (by rw [eI376, dkU_sn (dkN_njx dv268 rfl)]; exact (by rw [hF373 347 0 rfl]; exact (by rw [hF360 347 0 rfl]; exact (by rw [hF273 347 0 rfl]; exact (by rw [hF255 347 0 rfl]; exact (by rw [hF2 347 0 rfl]; exact np1))))))))) rfl), (show dkN [(1, 6)] (I386 347 5) from dkN_sub (by rw [eI386, dkU_ss]; exact dv384) rfl), (by omega), (dkP_1 e387), (show I386 340 7 = I0 340 7 from ((by rw [eI386, dkU_n (by decide)] : I386 340 7 = _).trans ((by rw [eI382, dkU_n (by decide)] : I382 340 7 = _).trans ((by rw [eI379, dkU_n (by decide)] : I379 340 7 = _).trans ((by rw [eI376, dkU_n (by decide)] : I376 340 7 = _).trans ((hF373 340 7 rfl).trans y363)))))), (show I386 340 8 = I0 340 8 from ((by rw [eI386, dkU_n (by decide)] : I386 340 8 = _).trans ((by rw [eI382, dkU_n (by decide)] : I382 340 8 = _).trans ((by rw [eI379, dkU_n (by decide)] : I379 340 8 = _).trans ((by rw [eI376, dkU_n (by decide)] : I376 340 8 = _).trans ((hF373 340 8 rfl).trans y364)))))), (((show I386 340 9 = dkTe (I0 345) (I0 340 6) (dkTe (I0 345) (I0 340 6) (dkTe (I0 345) (I0 340 6) (I0 340 9))) from ((by rw [eI386, dkU_n (by decide)] : I386 340 9 = _).trans ((by rw [eI382, dkU_n (by decide)] : I382 340 9 = _).trans ((by rw [eI379, dkU_n (by decide)] : I379 340 9 = _).trans ((by rw [eI376, dkU_n (by decide)] : I376 340 9 = _).trans ((hF373 340 9 rfl).trans y368))))))).trans (congrArg (dkTe (I0 345) (I0 340 6)) (dkP_2 e387).symm)), (((show I386 340 10 = dkTe (I0 345) (I0 340 6) (dkTe (I0 345) (I0 340 6) (I0 340 9)) from ((by rw [eI386, dkU_n (by decide)] : I386 340 10 = _).trans ((by rw [eI382, dkU_n (by decide)] : I382 340 10 = _).trans ((by rw [eI379, dkU_n (by decide)] : I379 340 10 = _).trans ((by rw [eI376, dkU_n (by decide)] : I376 340 10 = _).trans ((hF373 340 10 rfl).trans y369))))))).trans (dkP_2 e387).symm), (((show I386 340 11 = dkTk (I0 345) (I0 340 6) (dkTe (I0 345) (I0 340 6) (dkTe (I0 345) (I0 340 6) (I0 340 9))) from ((by rw [eI386, dkU_n (by decide)] : I386 340 11 = _).trans ((by rw [eI382, dkU_n (by decide)] : I382 340 11 = _).trans ((by rw [eI379, dkU_n (by decide)] : I379 340 11 = _).trans ((by rw [eI376, dkU_n (by decide)] : I376 340 11 = _).trans ((hF373 340 11 rfl).trans y370))))))).trans (congrArg (dkTk (I0 345) (I0 340 6)) (dkP_2 e387).symm)), (((show I386 340 12 = dkTv (I0 345) (I0 340 6) (dkTe (I0 345) (I0 340 6) (dkTe (I0 345) (I0 340 6) (I0 340 9))) from ((by rw [eI386, dkU_n (by decide)] : I386 340 12 = _).trans ((by rw [eI382, dkU_n (by decide)] : I382 340 12 = _).trans ((by rw [eI379, dkU_n (by decide)] : I379 340 12 = _).trans ((by rw [eI376, dkU_n (by decide)] : I376 340 12 = _).trans ((hF373 340 12 rfl).trans y371))))))).trans (congrArg (dkTv (I0 345) (I0 340 6)) (dkP_2 e387).symm)), (show I386 347 0 = I0 347 0 from ((by rw [eI386, dkU_sn (by decide)] : I386 347 0 = _).trans ((by rw [eI382, dkU_sn (dkN_njx dv380 rfl)] : I382 347 0 = _).trans ((by rw [eI379, dkU_sn (dkN_njx dv377 rfl)] : I379 347 0 = _).trans ((by rw [eI376, dkU_sn (dkN_njx dv268 rfl)] : I376 347 0 = _).trans ((hF373 347 0 rfl).trans ((hF360 347 0 rfl).trans ((hF273 347 0 rfl).trans ((hF255 347 0 rfl).trans rfl))))))))), (show I386 347 4 = I0 347 4 from ((by rw [eI386, dkU_sn (by decide)] : I386 347 4 = _).trans ((by rw [eI382, dkU_sn (dkN_njx dv380 rfl)] : I382 347 4 = _).trans ((by rw [eI379, dkU_sn (dkN_njx dv377 rfl)] : I379 347 4 = _).trans ((by rw [eI376, dkU_sn (dkN_njx dv268 rfl)] : I376 347 4 = _).trans ((hF373 347 4 rfl).trans ((hF360 347 4 rfl).trans ((hF273 347 4 rfl).trans ((hF255 347 4 rfl).trans rfl))))))))), (show I386 347 5 = (I0 347 5) + (1 : Int32) from (by rw [eI386, dkU_ss, xv384])), (fun q => absurd q212 q), (fun j hj => (st388.2 j hj).trans (congrFun ((funext fun j => hF373 347 j dkNin_nil).trans ((funext fun j => hF360 347 j (dkNin_k rfl dkNin_nil)).trans ((funext fun j => hF273 347 j (dkNin_k rfl dkNin_nil)).trans ((funext fun j => hF255 347 j (dkNin_k rfl dkNin_nil)).trans rfl)))) _)), dk_incEq (by rw [eI386, dkU_ss, ev384] : I386 347 5 = v383 + 1) (ev383.trans ((by rw [eI382, dkU_sn (dkN_njx dv380 rfl)] : I382 347 5 = _).trans ((by rw [eI379, dkU_sn (dkN_njx dv377 rfl)] : I379 347 5 = _).trans ((by rw [eI376, dkU_sn (dkN_njx dv268 rfl)] : I376 347 5 = _).trans ((hF373 347 5 rfl).trans ((hF360 347 5 rfl).trans ((hF273 347 5 rfl).trans ((hF255 347 5 rfl).trans rfl)))))))), trivial⟩))⟩, dkW_eq ht hW⟩, hS.F ht⟩) hS.2.2 dX6_readsDog_132
        ·
          obtain ⟨dv273, f273_340_11, f273_340_7, f273_340_8, x273_0, x273_1, xr273, xh273_0, xh273_1, xh273_2, xh273_3, xh273_4, xh273_5, -⟩ := hc273
          have w389 : I255 340 8 = I0 340 8 := y258
          have w390 : I255 340 11 = dkTk (I0 345) (I0 340 6) (I0 340 9) := y261
          have q391 : (dkTk (I0 345) (I0 340 6) (I0 340 9)).toInt ≠ (2 : Int) := by have h := x273_1; rw [w390] at h; exact h
          have y392 : I273 340 7 = 1 := by have h := xh273_0; exact h
          have w393 : I255 340 10 = I0 340 9 := y260
          have y394 : I273 340 8 = I0 340 9 := by have h := xh273_1; rw [w393] at h; exact h
          have w395 : I255 340 9 = dkTe (I0 345) (I0 340 6) (I0 340 9) := y259
          have y396 : I273 340 9 = dkTe (I0 345) (I0 340 6) (I0 340 9) := by have h := xh273_2; rw [w395] at h; exact h
          have y397 : I273 340 10 = I0 340 9 := by have h := xh273_3; rw [w393] at h; exact h
          have y398 : I273 340 11 = dkTk (I0 345) (I0 340 6) (I0 340 9) := by have h := xh273_4; rw [w390] at h; exact h
          have w399 : I255 340 12 = dkTv (I0 345) (I0 340 6) (I0 340 9) := y262
          have y400 : I273 340 12 = dkTv (I0 345) (I0 340 6) (I0 340 9) := by have h := xh273_5; rw [w399] at h; exact h
          have xv273 : v273 = 0 := by have h := xr273; exact h
          refine lv_istore_n (lv' := [(3, .int v273), (2, .int v268), (1, .int v2), (0, .ref (z + 340))]) hx hb dX6_readsDog_70 rfl hl (by decide) rfl (fun ls hl => ?_)
          refine lv_aload_n hx hb dX6_readsDog_71 rfl (lv_at hl 3 rfl) ?_
          refine lv_aload_n hx hb dX6_readsDog_72 rfl (lv_at hl 3 rfl) ?_
          refine dk_get (k := 340) hx hb hts iX6_readsDog_6 hown hK (dk_at340 hW) rfl 11 (by decide) (hts (.fieldLink RX6 98 "DogKingsModel" "token" "I") (List.mem_of_getElem? (i := 3) rfl)) rfl dX6_readsDog_73 ?_
          refine lv_topi (fun v401 ev401 => ?_)
          have dv401 : dkN [(-2147483648, 1), (3, 2147483647)] v401 := by rw [ev401]; exact f273_340_11
          have xv401 : v401 = dkTk (I0 345) (I0 340 6) (I0 340 9) := ev401.trans y398
          refine lv_iconst (v := 4) hx hb dX6_readsDog_76 (by decide) ?_
          refine lv_icmp_ne (tgt := 84) hx hb dX6_readsDog_77 (by decide) (fun c402 => ?_) (fun c402 => ?_)
          ·
            have q403 : (dkTk (I0 345) (I0 340 6) (I0 340 9)).toInt ≠ (4 : Int) := by first | (rw [← xv401]; exact (dk_ne c402)) | (subst xv401; exact (dk_ne c402))
            have d404 : dkN [(-2147483648, 1), (3, 3), (5, 2147483647)] v401 := dkN_ne1 (4) dv401 (dkN_lit (x := 4) (4) rfl) (dk_ne c402) rfl
            have f405 : dkN [(-2147483648, 1), (3, 3), (5, 2147483647)] (I273 340 11) := by rw [← ev401]; exact d404
            refine lv_iconst (v := 0) hx hb dX6_readsDog_84 (by decide) ?_
            refine lv_iconst (v := 1) hx hb dX6_readsDog_85 (by decide) ?_
            refine dk_Vi (As := [.int 0, .int 1]) (rest := []) ⟨hx, hb, hml, hown, hts⟩ (h_X6_takes_0 l g z I273 0 1 (show dkN [(0, 90)] (I273 340 8) from dkN_sub f273_340_8 rfl) hO) (cwV 2 hts gX6_readsDog_X6_takes rfl rfl rfl (by decide +kernel) ⟨Nat.le_of_ble_eq_true rfl, Nat.le_of_ble_eq_true rfl⟩) (dk_at340 hW) rfl hK hT hW hS rfl hl.1 rfl (Nat.le_of_ble_eq_true rfl) dX6_readsDog_86 ⟨Nat.zero_le _, Nat.zero_le _⟩ (fun v406 I406 H406 L406 hp406 hW hS => ?_)
            obtain ⟨hF406, hO, hc406⟩ := hp406
            have hF := dkF_call hF hF406 rfl
            have eI406 : I273 = I406 := (dkF_nil hF406).symm
            subst eI406
            obtain ⟨dv406, xr406, -⟩ := hc406
            have xv406 : v406 = 0 := by have h := xr406; exact h
            refine lv_pop hx hb dX6_readsDog_89 rfl ?_
            refine lv_aload_n hx hb dX6_readsDog_90 rfl (lv_at hl 3 rfl) ?_
            refine dk_Vi (As := []) (rest := []) ⟨hx, hb, hml, hown, hts⟩ (fx_X6_isWell_7 l g z I273 (show dkN [(0, 90)] (I273 340 8) from dkN_sub (by rw [hF406 340 8 rfl]; exact f273_340_8) rfl) hO) (cwV 0 hts gX6_readsDog_X6_isWell rfl rfl rfl (by decide +kernel) ⟨Nat.le_of_ble_eq_true rfl, Nat.le_of_ble_eq_true rfl⟩) (dk_at340 hW) rfl hK hT hW hS rfl hl.1 rfl (Nat.le_of_ble_eq_true rfl) dX6_readsDog_91 ⟨Nat.zero_le _, Nat.zero_le _⟩ (fun v407 I407 H407 L407 hp407 hW hS => ?_)
            obtain ⟨hF407, hO, hc407⟩ := hp407
            have hF := dkF_call hF hF407 rfl
            have eI407 : I273 = I407 := (dkF_nil hF407).symm
            subst eI407
            obtain ⟨dv407, f407_340_8, x407_0, xr407, -⟩ := hc407
            have w408 : I273 340 8 = I0 340 9 := ((hF406 340 8 rfl).trans y394)
            have q409 : (0 : Int) + 0 ≤ (I0 340 9).toInt := by have h := x407_0; rw [w408] at h; exact h
            have xv407 : v407 = 0 := by have h := xr407; exact h
            refine lv_if_eq (tgt := 132) hx hb dX6_readsDog_94 (by decide) (fun c410 => ?_) (fun c410 => ?_)
            ·
              have i0 : (0 : Int32).toInt = 0 := rfl
              have i1 : (1 : Int32).toInt = 1 := rfl
              have i2 : (2 : Int32).toInt = 2 := rfl
              have i3 : (3 : Int32).toInt = 3 := rfl
              have i9 : (9 : Int32).toInt = 9 := rfl
              have i30 : (30 : Int32).toInt = 30 := rfl
              have i44 : (44 : Int32).toInt = 44 := rfl
              have i59 : (59 : Int32).toInt = 59 := rfl
              have i109 : (109 : Int32).toInt = 109 := rfl
              have i116 : (116 : Int32).toInt = 116 := rfl
              have e411 : dkDo (I0 345) (I0 340 6) (I0 347 0) (I0 340 9) = (1, I0 340 9) := (dkTh_q (dkK_1 (T := (I0 345)) (n := (I0 340 6)) (a := I0 340 9) (lo := 0) (hi := ((I0 347 0) - (1 : Int32))) q391) (by decide))
              exact W.vret hx hb hr (fun t ht hW9 => ⟨⟨I273, rfl, ⟨hF, hO, Or.inr (Or.inl ⟨(show dkN [(1, 2)] (I273 340 7) from dkN_sub (by rw [hF407 340 7 rfl]; exact (by rw [hF406 340 7 rfl]; exact f273_340_7)) rfl), (show dkN [(0, 90)] (I273 340 8) from dkN_sub f407_340_8 rfl), (show dkN [(3, 9)] (I273 347 0) from dkN_sub (by rw [hF407 347 0 rfl]; exact (by rw [hF406 347 0 rfl]; exact (by rw [hF273 347 0 rfl]; exact (by rw [hF255 347 0 rfl]; exact (by rw [hF2 347 0 rfl]; exact np1))))) rfl), (show dkN [(0, 5)] (I273 347 5) from dkN_sub (by rw [hF407 347 5 rfl]; exact (by rw [hF406 347 5 rfl]; exact (by rw [hF273 347 5 rfl]; exact (by rw [hF255 347 5 rfl]; exact f254)))) rfl), (by omega), (dkE_k e411 (by decide)), (((show I273 340 7 = 1 from ((hF407 340 7 rfl).trans ((hF406 340 7 rfl).trans y392)))).trans (dkP_1 e411).symm), (((show I273 340 8 = I0 340 9 from ((hF407 340 8 rfl).trans ((hF406 340 8 rfl).trans y394)))).trans (dkP_2 e411).symm), (show I273 347 0 = I0 347 0 from ((hF407 347 0 rfl).trans ((hF406 347 0 rfl).trans ((hF273 347 0 rfl).trans ((hF255 347 0 rfl).trans rfl))))), (show I273 347 4 = I0 347 4 from ((hF407 347 4 rfl).trans ((hF406 347 4 rfl).trans ((hF273 347 4 rfl).trans ((hF255 347 4 rfl).trans rfl))))), (show I273 347 5 = I0 347 5 from ((hF407 347 5 rfl).trans ((hF406 347 5 rfl).trans ((hF273 347 5 rfl).trans ((hF255 347 5 rfl).trans rfl))))), trivial⟩)⟩, dkW_eq ht hW⟩, hS.F ht⟩) hS.2.2 dX6_readsDog_132
            ·
              exact absurd ((xv407).trans (rfl).symm) c410
          ·
            have q412 : (dkTk (I0 345) (I0 340 6) (I0 340 9)).toInt = (4 : Int) := by first | (rw [← xv401]; exact (congrArg Int32.toInt c402)) | (subst xv401; exact (congrArg Int32.toInt c402))
            have d413 : dkN [(4, 4)] v401 := dkN_eq1 dv401 (dkN_lit (x := 4) (4) rfl) (congrArg Int32.toInt c402) rfl
            have f414 : dkN [(4, 4)] (I273 340 11) := by rw [← ev401]; exact d413
            refine lv_iconst (v := 1) hx hb dX6_readsDog_80 (by decide) ?_
            refine lv_goto (tgt := 85) hx hb dX6_readsDog_81 (by decide) ?_
            refine lv_iconst (v := 1) hx hb dX6_readsDog_85 (by decide) ?_
            refine dk_Vi (As := [.int 1, .int 1]) (rest := []) ⟨hx, hb, hml, hown, hts⟩ (h_X6_takes_0 l g z I273 1 1 (show dkN [(0, 90)] (I273 340 8) from dkN_sub f273_340_8 rfl) hO) (cwV 2 hts gX6_readsDog_X6_takes rfl rfl rfl (by decide +kernel) ⟨Nat.le_of_ble_eq_true rfl, Nat.le_of_ble_eq_true rfl⟩) (dk_at340 hW) rfl hK hT hW hS rfl hl.1 rfl (Nat.le_of_ble_eq_true rfl) dX6_readsDog_86 ⟨Nat.zero_le _, Nat.zero_le _⟩ (fun v415 I415 H415 L415 hp415 hW hS => ?_)
            obtain ⟨hF415, hO, hc415⟩ := hp415
            have hF := dkF_call hF hF415 rfl
            have eI415 : I273 = I415 := (dkF_nil hF415).symm
            subst eI415
            obtain ⟨dv415, xr415, -⟩ := hc415
            have xv415 : v415 = 0 := by have h := xr415; exact h
            refine lv_pop hx hb dX6_readsDog_89 rfl ?_
            refine lv_aload_n hx hb dX6_readsDog_90 rfl (lv_at hl 3 rfl) ?_
            refine dk_Vi (As := []) (rest := []) ⟨hx, hb, hml, hown, hts⟩ (fx_X6_isWell_7 l g z I273 (show dkN [(0, 90)] (I273 340 8) from dkN_sub (by rw [hF415 340 8 rfl]; exact f273_340_8) rfl) hO) (cwV 0 hts gX6_readsDog_X6_isWell rfl rfl rfl (by decide +kernel) ⟨Nat.le_of_ble_eq_true rfl, Nat.le_of_ble_eq_true rfl⟩) (dk_at340 hW) rfl hK hT hW hS rfl hl.1 rfl (Nat.le_of_ble_eq_true rfl) dX6_readsDog_91 ⟨Nat.zero_le _, Nat.zero_le _⟩ (fun v416 I416 H416 L416 hp416 hW hS => ?_)
            obtain ⟨hF416, hO, hc416⟩ := hp416
            have hF := dkF_call hF hF416 rfl
            have eI416 : I273 = I416 := (dkF_nil hF416).symm
            subst eI416
            obtain ⟨dv416, f416_340_8, x416_0, xr416, -⟩ := hc416
            have w417 : I273 340 8 = I0 340 9 := ((hF415 340 8 rfl).trans y394)
            have q418 : (0 : Int) + 0 ≤ (I0 340 9).toInt := by have h := x416_0; rw [w417] at h; exact h
            have xv416 : v416 = 0 := by have h := xr416; exact h
            refine lv_if_eq (tgt := 132) hx hb dX6_readsDog_94 (by decide) (fun c419 => ?_) (fun c419 => ?_)
            ·
              have i0 : (0 : Int32).toInt = 0 := rfl
              have i1 : (1 : Int32).toInt = 1 := rfl
              have i2 : (2 : Int32).toInt = 2 := rfl
              have i3 : (3 : Int32).toInt = 3 := rfl
              have i9 : (9 : Int32).toInt = 9 := rfl
              have i30 : (30 : Int32).toInt = 30 := rfl
              have i44 : (44 : Int32).toInt = 44 := rfl
              have i59 : (59 : Int32).toInt = 59 := rfl
              have i109 : (109 : Int32).toInt = 109 := rfl
              have i116 : (116 : Int32).toInt = 116 := rfl
              have e420 : dkDo (I0 345) (I0 340 6) (I0 347 0) (I0 340 9) = (1, I0 340 9) := (dkTh_q (dkK_1 (T := (I0 345)) (n := (I0 340 6)) (a := I0 340 9) (lo := 0) (hi := ((I0 347 0) - (1 : Int32))) q391) (by decide))
              exact W.vret hx hb hr (fun t ht hW9 => ⟨⟨I273, rfl, ⟨hF, hO, Or.inr (Or.inl ⟨(show dkN [(1, 2)] (I273 340 7) from dkN_sub (by rw [hF416 340 7 rfl]; exact (by rw [hF415 340 7 rfl]; exact f273_340_7)) rfl), (show dkN [(0, 90)] (I273 340 8) from dkN_sub f416_340_8 rfl), (show dkN [(3, 9)] (I273 347 0) from dkN_sub (by rw [hF416 347 0 rfl]; exact (by rw [hF415 347 0 rfl]; exact (by rw [hF273 347 0 rfl]; exact (by rw [hF255 347 0 rfl]; exact (by rw [hF2 347 0 rfl]; exact np1))))) rfl), (show dkN [(0, 5)] (I273 347 5) from dkN_sub (by rw [hF416 347 5 rfl]; exact (by rw [hF415 347 5 rfl]; exact (by rw [hF273 347 5 rfl]; exact (by rw [hF255 347 5 rfl]; exact f254)))) rfl), (by omega), (dkE_k e420 (by decide)), (((show I273 340 7 = 1 from ((hF416 340 7 rfl).trans ((hF415 340 7 rfl).trans y392)))).trans (dkP_1 e420).symm), (((show I273 340 8 = I0 340 9 from ((hF416 340 8 rfl).trans ((hF415 340 8 rfl).trans y394)))).trans (dkP_2 e420).symm), (show I273 347 0 = I0 347 0 from ((hF416 347 0 rfl).trans ((hF415 347 0 rfl).trans ((hF273 347 0 rfl).trans ((hF255 347 0 rfl).trans rfl))))), (show I273 347 4 = I0 347 4 from ((hF416 347 4 rfl).trans ((hF415 347 4 rfl).trans ((hF273 347 4 rfl).trans ((hF255 347 4 rfl).trans rfl))))), (show I273 347 5 = I0 347 5 from ((hF416 347 5 rfl).trans ((hF415 347 5 rfl).trans ((hF273 347 5 rfl).trans ((hF255 347 5 rfl).trans rfl))))), trivial⟩)⟩, dkW_eq ht hW⟩, hS.F ht⟩) hS.2.2 dX6_readsDog_132
            ·
              exact absurd ((xv416).trans (rfl).symm) c419
