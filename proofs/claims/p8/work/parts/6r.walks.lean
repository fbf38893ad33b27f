set_option maxHeartbeats 40000000 in
set_option maxRecDepth 100000 in
theorem fx_X6_readsDog_1 (l : Launch) (g : dkG) (z : Nat) (I0 : dkI) (np0 : dkN [(-1, -1)] (I0 340 8)) (np1 : dkN [(3, 9)] (I0 347 0))  (hO : dkOk I0) : Met l yX6_readsDog wsX6_readsDog (dkR 4) (dkPc g z [.ref (z + 340)] I0) (dkQv g z (fun I1 => dkF [(340, 340, 7, 12), (347, 347, 5, 5), (347, 347, 36, 53)] I0 I1 ∧ dkOk I1 ∧ ((dkN [(3, 3)] (I1 340 7) ∧ dkN [(0, 90)] (I1 340 8) ∧ dkN [(3, 9)] (I1 347 0) ∧ dkN [(6, 6)] (I1 347 5) ∧ (6 : Int) + 0 ≤ (I0 347 5).toInt ∧ I1 340 7 = 3 ∧ I1 340 8 = I0 340 10 ∧ I1 347 0 = I0 347 0 ∧ I1 347 4 = I0 347 4 ∧ I1 347 5 = I0 347 5 ∧ True) ∨ (dkN [(1, 2)] (I1 340 7) ∧ dkN [(0, 90)] (I1 340 8) ∧ dkN [(3, 9)] (I1 347 0) ∧ dkN [(0, 5)] (I1 347 5) ∧ (I0 347 5).toInt + 1 ≤ (6 : Int) ∧ (dkDo (I0 345) (I0 340 6) (I0 347 0) (I0 340 9)).1 ≠ 0 ∧ I1 340 7 = (dkDo (I0 345) (I0 340 6) (I0 347 0) (I0 340 9)).1 ∧ I1 340 8 = (dkDo (I0 345) (I0 340 6) (I0 347 0) (I0 340 9)).2 ∧ I1 347 0 = I0 347 0 ∧ I1 347 4 = I0 347 4 ∧ I1 347 5 = I0 347 5 ∧ True) ∨ (dkN [(0, 5)] (I1 340 11) ∧ dkN [(-1, -1)] (I1 340 8) ∧ dkN [(3, 9)] (I1 347 0) ∧ dkN [(1, 6)] (I1 347 5) ∧ (I0 347 5).toInt + 1 ≤ (6 : Int) ∧ (dkDo (I0 345) (I0 340 6) (I0 347 0) (I0 340 9)).1 = 0 ∧ I1 340 7 = I0 340 7 ∧ I1 340 8 = I0 340 8 ∧ I1 340 9 = dkTe (I0 345) (I0 340 6) (dkDo (I0 345) (I0 340 6) (I0 347 0) (I0 340 9)).2 ∧ I1 340 10 = (dkDo (I0 345) (I0 340 6) (I0 347 0) (I0 340 9)).2 ∧ I1 340 11 = dkTk (I0 345) (I0 340 6) (dkDo (I0 345) (I0 340 6) (I0 347 0) (I0 340 9)).2 ∧ I1 340 12 = dkTv (I0 345) (I0 340 6) (dkDo (I0 345) (I0 340 6) (I0 347 0) (I0 340 9)).2 ∧ I1 347 0 = I0 347 0 ∧ I1 347 4 = I0 347 4 ∧ I1 347 5 = I0 347 5 + 1 ∧ I1 347 5 = I0 347 5 + 1 ∧ True)))) 0 0 (dkA z) := by
  refine Met.ofW (cc := cX6_readsDog) (maxL := 4) (ret := none) (by decide) rfl ?_
  intro p e s m args below meth c s₁ B hml hv
  obtain ⟨ha, hW, hK, hT⟩ := hv
  have hx := B.exec
  have hb := B.bytes
  have hr := B.returns
  have hts := atoms_spec (ws := wsX6_readsDog) B.pre
  have hown : s.vm.findClass RX6 = some m.cls := findClass_of_methodNamed B.named
  have hlocks := B.notSynchronized
  have hS : va_S (dkA z) s.heap s.heap [] := va_S.rf
  have hF : dkF [(340, 340, 7, 12), (347, 347, 5, 5), (347, 347, 36, 53)] I0 I0 := dkF_rf _ _
  have hl := lv_entry ([.ref (z + 340)]) (n := 4) (Nat.le_of_ble_eq_true rfl)
  have hgo : entryFrame m args 4 = entryFrame m ([.ref (z + 340)] : List Value).toArray 4 := by rw [ha]
  rw [hgo, lg_entry_eq]
  generalize (lg_sl ([.ref (z + 340)]) ++ List.replicate (4 - (lg_sl ([.ref (z + 340)])).length) Slot.unset).toArray = ls at hl ⊢
  have hl : lv_has ls 4 [(0, .ref (z + 340))] := hl
  refine lv_aload_n hx hb dX6_readsDog_0 rfl (lv_at hl 0 rfl) ?_
  refine dk_get (k := 340) hx hb hts iX6_readsDog_6 hown hK (dk_at340 hW) rfl 12 (by decide) (hts (.fieldLink RX6 95 "DogKingsModel" "value" "I") (List.mem_of_getElem? (i := 1) rfl)) rfl dX6_readsDog_1 ?_
  refine lv_topi (fun v1 ev1 => ?_)
  have xv1 : v1 = I0 340 12 := ev1.trans rfl
  refine dk_Si (As := [.int v1]) (rest := []) ⟨hx, hb, hml, hown, hts⟩ (h_X6_kindOf_0 l g z I0 v1 hO) (va_cwS 1 hts gX6_readsDog_X6_kindOf rfl rfl rfl (by decide +kernel) ⟨Nat.le_of_ble_eq_true rfl, Nat.le_of_ble_eq_true rfl⟩) hK hT hW hS rfl hl.1 rfl (Nat.le_of_ble_eq_true rfl) dX6_readsDog_4 ⟨Nat.zero_le _, Nat.zero_le _⟩ (fun v2 I2 H2 L2 hp2 hW hS => ?_)
  obtain ⟨hF2, hO, hc2⟩ := hp2
  have hF := dkF_call hF hF2 rfl
  have eI2 : I0 = I2 := (dkF_nil hF2).symm
  subst eI2
  rcases hc2 with ⟨dv2, x2_0, xr2, -⟩ | hc2
  ·
    have q3 : dkSo (I0 340 12).toInt ≠ -1000000 := by have h := x2_0; rw [xv1] at h; exact h
    have xv2 : v2 = dkSo (I0 340 12).toInt := by have h := xr2; rw [xv1] at h; exact h
    refine lv_istore_n (lv' := [(1, .int v2), (0, .ref (z + 340))]) hx hb dX6_readsDog_7 rfl hl (by decide) rfl (fun ls hl => ?_)
    refine lv_aload_n hx hb dX6_readsDog_8 rfl (lv_at hl 1 rfl) ?_
    refine lv_aload_n hx hb dX6_readsDog_9 rfl (lv_at hl 1 rfl) ?_
    refine dk_get (k := 340) hx hb hts iX6_readsDog_6 hown hK (dk_at340 hW) rfl 14 (by decide) (hts (.fieldLink RX6 28 "DogKingsModel" "draft" "[I") (List.mem_of_getElem? (i := 2) rfl)) rfl dX6_readsDog_10 ?_
    refine lv_iconst (v := 5) hx hb dX6_readsDog_13 (by decide) ?_
    refine dk_ild (k := 347) hx hb hK (dk_at347 hW) (dkN_in (n := 54) (dkN_lit (x := 5) (5) rfl) rfl) dX6_readsDog_14 ?_
    refine lv_topi (fun v4 ev4 => ?_)
    have ev4 : v4 = I0 347 5 := ev4
    have dv4 : dkN [(0, 6)] v4 := by rw [ev4]; exact (show dkN [(0, 6)] (I0 347 5) from (hO 347 5))
    have xv4 : v4 = I0 347 5 := ev4.trans rfl
    refine lv_bipush (v := 6) hx hb dX6_readsDog_15 (by decide) ?_
    refine lv_icmp_ge (tgt := 24) hx hb dX6_readsDog_17 (by decide) (fun c5 => ?_) (fun c5 => ?_)
    ·
      have q6 : (6 : Int) + 0 ≤ (I0 347 5).toInt := by first | (rw [← xv4]; exact (dkc_le c5)) | (subst xv4; exact (dkc_le c5))
      have d7 : dkN [(6, 6)] v4 := dkN_le2 0 (dkN_lit (x := 6) (6) rfl) dv4 (dkc_le c5) rfl
      have f8 : dkN [(6, 6)] (I0 347 5) := by rw [← ev4]; exact d7
      refine lv_iconst (v := 0) hx hb dX6_readsDog_24 (by decide) ?_
      refine lv_iconst (v := 3) hx hb dX6_readsDog_25 (by decide) ?_
      refine dk_Vi (As := [.int 0, .int 3]) (rest := []) ⟨hx, hb, hml, hown, hts⟩ (fx_X6_takes_42 l g z I0 0 3 (dkN_lit (x := 0) (0) rfl) (dkN_lit (x := 3) (3) rfl) (show dkN [(-1, -1)] (I0 340 8) from dkN_sub (by rw [hF2 340 8 rfl]; exact np0) rfl) hO) (cwV 2 hts gX6_readsDog_X6_takes rfl rfl rfl (by decide +kernel) ⟨Nat.le_of_ble_eq_true rfl, Nat.le_of_ble_eq_true rfl⟩) (dk_at340 hW) rfl hK hT hW hS rfl hl.1 rfl (Nat.le_of_ble_eq_true rfl) dX6_readsDog_26 ⟨Nat.zero_le _, Nat.zero_le _⟩ (fun v9 I9 H9 L9 hp9 hW hS => ?_)
      obtain ⟨hF9, hO, hc9⟩ := hp9
      have hF := dkF_call hF hF9 rfl
      obtain ⟨dv9, f9_340_7, f9_340_8, x9_0, x9_1, xr9, xh9_0, xh9_1, xh9_2, xh9_3, xh9_4, xh9_5, -⟩ := hc9
      have q10 : (I0 340 8).toInt + 1 ≤ (0 : Int) := x9_0
      have y11 : I9 340 7 = 3 := by have h := xh9_0; exact h
      have y12 : I9 340 8 = I0 340 10 := by have h := xh9_1; exact h
      have y13 : I9 340 9 = I0 340 9 := by have h := xh9_2; exact h
      have y14 : I9 340 10 = I0 340 10 := by have h := xh9_3; exact h
      have y15 : I9 340 11 = I0 340 11 := by have h := xh9_4; exact h
      have y16 : I9 340 12 = I0 340 12 := by have h := xh9_5; exact h
      have xv9 : v9 = 0 := by have h := xr9; exact h
      refine lv_pop hx hb dX6_readsDog_29 rfl ?_
      refine lv_bipush (v := 36) hx hb dX6_readsDog_30 (by decide) ?_
      refine lv_iconst (v := 3) hx hb dX6_readsDog_32 (by decide) ?_
      refine lv_aload_n hx hb dX6_readsDog_33 rfl (lv_at hl 1 rfl) ?_
      refine dk_get (k := 340) hx hb hts iX6_readsDog_6 hown hK (dk_at340 hW) rfl 14 (by decide) (hts (.fieldLink RX6 28 "DogKingsModel" "draft" "[I") (List.mem_of_getElem? (i := 2) rfl)) rfl dX6_readsDog_34 ?_
      refine lv_iconst (v := 5) hx hb dX6_readsDog_37 (by decide) ?_
      refine dk_ild (k := 347) hx hb hK (dk_at347 hW) (dkN_in (n := 54) (dkN_lit (x := 5) (5) rfl) rfl) dX6_readsDog_38 ?_
      refine lv_topi (fun v17 ev17 => ?_)
      have ev17 : v17 = I9 347 5 := ev17
      have dv17 : dkN [(6, 6)] v17 := by rw [ev17]; exact (show dkN [(6, 6)] (I9 347 5) from (by rw [hF9 347 5 rfl]; exact f8))
      have xv17 : v17 = I0 347 5 := ev17.trans ((hF9 347 5 rfl).trans rfl)
      refine lv_bipush (v := 6) hx hb dX6_readsDog_39 (by decide) ?_
      refine lv_icmp_ge (tgt := 53) hx hb dX6_readsDog_41 (by decide) (fun c18 => ?_) (fun c18 => ?_)
      ·
        refine lv_iconst (v := 0) hx hb dX6_readsDog_53 (by decide) ?_
        refine lv_imul hx hb dX6_readsDog_54 ?_
        refine lv_topi (fun v19 ev19 => ?_)
        have dv19 : dkN [(0, 0)] v19 := by rw [ev19]; exact dkN_mulPt 3 (dkN_lit (x := 3) (3) rfl) (dkN_lit (x := 0) (0) rfl) rfl
        have xv19 : v19 = 0 := by rw [ev19]; rfl
        refine lv_iadd hx hb dX6_readsDog_55 ?_
        refine lv_topi (fun v20 ev20 => ?_)
        have dv20 : dkN [(36, 36)] v20 := by rw [ev20]; exact dkN_add (dkN_lit (x := 36) (36) rfl) dv19 rfl
        have xv20 : v20 = 36 := by rw [ev20, xv19]; rfl
        refine lv_istore_n (lv' := [(2, .int v20), (1, .int v2), (0, .ref (z + 340))]) hx hb dX6_readsDog_56 rfl hl (by decide) rfl (fun ls hl => ?_)
        refine lv_aload_n hx hb dX6_readsDog_57 rfl (lv_at hl 2 rfl) ?_
        refine lv_iconst (v := 0) hx hb dX6_readsDog_58 (by decide) ?_
        refine lv_aload_n hx hb dX6_readsDog_59 rfl (lv_at hl 2 rfl) ?_
        refine dk_get (k := 340) hx hb hts iX6_readsDog_6 hown hK (dk_at340 hW) rfl 14 (by decide) (hts (.fieldLink RX6 28 "DogKingsModel" "draft" "[I") (List.mem_of_getElem? (i := 2) rfl)) rfl dX6_readsDog_60 ?_
        refine lv_iconst (v := 0) hx hb dX6_readsDog_63 (by decide) ?_
        refine dk_ild (k := 347) hx hb hK (dk_at347 hW) (dkN_in (n := 54) (dkN_lit (x := 0) (0) rfl) rfl) dX6_readsDog_64 ?_
        refine lv_topi (fun v21 ev21 => ?_)
        have ev21 : v21 = I9 347 0 := ev21
        have dv21 : dkN [(3, 9)] v21 := by rw [ev21]; exact (show dkN [(3, 9)] (I9 347 0) from (by rw [hF9 347 0 rfl]; exact (by rw [hF2 347 0 rfl]; exact np1)))
        have xv21 : v21 = I0 347 0 := ev21.trans ((hF9 347 0 rfl).trans rfl)
        refine lv_iconst (v := 1) hx hb dX6_readsDog_65 (by decide) ?_
        refine lv_isub hx hb dX6_readsDog_66 ?_
        refine lv_topi (fun v22 ev22 => ?_)
        have dv22 : dkN [(2, 8)] v22 := by rw [ev22]; exact dkN_subt dv21 (dkN_lit (x := 1) (1) rfl) rfl
        have xv22 : v22 = (I0 347 0) - (1 : Int32) := by rw [ev22, xv21]
        have q23 : ((I0 347 0) - (1 : Int32)).toInt = (I0 347 0).toInt - (1 : Int) := by first | (rw [← xv22, ← xv21]; exact (by rw [ev22]; exact dk_subE dv21 (dkN_lit (x := 1) (1) rfl) rfl)) | (subst xv22 xv21; exact (by rw [ev22]; exact dk_subE dv21 (dkN_lit (x := 1) (1) rfl) rfl))
        refine dk_Vi (As := [.int 0, .int v22]) (rest := []) ⟨hx, hb, hml, hown, hts⟩ (h_X6_figure_0 l g z I9 0 v22 (show dkN [(0, 90)] (I9 340 8) from dkN_sub f9_340_8 rfl) hO) (cwV 2 hts gX6_readsDog_X6_figure rfl rfl rfl (by decide +kernel) ⟨Nat.le_of_ble_eq_true rfl, Nat.le_of_ble_eq_true rfl⟩) (dk_at340 hW) rfl hK hT hW hS rfl hl.1 rfl (Nat.le_of_ble_eq_true rfl) dX6_readsDog_67 ⟨Nat.zero_le _, Nat.zero_le _⟩ (fun v24 I24 H24 L24 hp24 hW hS => ?_)
        obtain ⟨hF24, hO, hc24⟩ := hp24
        have hF := dkF_call hF hF24 rfl
        have eI24 : I9 = I24 := (dkF_nil hF24).symm
        subst eI24
        obtain ⟨dv24, xr24, -⟩ := hc24
        have xv24 : v24 = 0 := by have h := xr24; exact h
        refine lv_istore_n (lv' := [(3, .int v24), (2, .int v20), (1, .int v2), (0, .ref (z + 340))]) hx hb dX6_readsDog_70 rfl hl (by decide) rfl (fun ls hl => ?_)
        refine lv_aload_n hx hb dX6_readsDog_71 rfl (lv_at hl 3 rfl) ?_
        refine lv_aload_n hx hb dX6_readsDog_72 rfl (lv_at hl 3 rfl) ?_
        refine dk_get (k := 340) hx hb hts iX6_readsDog_6 hown hK (dk_at340 hW) rfl 11 (by decide) (hts (.fieldLink RX6 98 "DogKingsModel" "token" "I") (List.mem_of_getElem? (i := 3) rfl)) rfl dX6_readsDog_73 ?_
        refine lv_topi (fun v25 ev25 => ?_)
        have xv25 : v25 = I0 340 11 := ev25.trans ((hF24 340 11 rfl).trans y15)
        refine lv_iconst (v := 4) hx hb dX6_readsDog_76 (by decide) ?_
        refine lv_icmp_ne (tgt := 84) hx hb dX6_readsDog_77 (by decide) (fun c26 => ?_) (fun c26 => ?_)
        ·
          have q27 : (I0 340 11).toInt ≠ (4 : Int) := by first | (rw [← xv25]; exact (dk_ne c26)) | (subst xv25; exact (dk_ne c26))
          have d28 : dkN [(-2147483648, 3), (5, 2147483647)] v25 := dkN_ne1 (4) (dkN_top v25) (dkN_lit (x := 4) (4) rfl) (dk_ne c26) rfl
          have f29 : dkN [(-2147483648, 3), (5, 2147483647)] (I9 340 11) := by rw [← ev25]; exact d28
          refine lv_iconst (v := 0) hx hb dX6_readsDog_84 (by decide) ?_
          refine lv_iconst (v := 1) hx hb dX6_readsDog_85 (by decide) ?_
          refine dk_Vi (As := [.int 0, .int 1]) (rest := []) ⟨hx, hb, hml, hown, hts⟩ (h_X6_takes_0 l g z I9 0 1 (show dkN [(0, 90)] (I9 340 8) from dkN_sub (by rw [hF24 340 8 rfl]; exact f9_340_8) rfl) hO) (cwV 2 hts gX6_readsDog_X6_takes rfl rfl rfl (by decide +kernel) ⟨Nat.le_of_ble_eq_true rfl, Nat.le_of_ble_eq_true rfl⟩) (dk_at340 hW) rfl hK hT hW hS rfl hl.1 rfl (Nat.le_of_ble_eq_true rfl) dX6_readsDog_86 ⟨Nat.zero_le _, Nat.zero_le _⟩ (fun v30 I30 H30 L30 hp30 hW hS => ?_)
          obtain ⟨hF30, hO, hc30⟩ := hp30
          have hF := dkF_call hF hF30 rfl
          have eI30 : I9 = I30 := (dkF_nil hF30).symm
          subst eI30
          obtain ⟨dv30, xr30, -⟩ := hc30
          have xv30 : v30 = 0 := by have h := xr30; exact h
          refine lv_pop hx hb dX6_readsDog_89 rfl ?_
          refine lv_aload_n hx hb dX6_readsDog_90 rfl (lv_at hl 3 rfl) ?_
          refine dk_Vi (As := []) (rest := []) ⟨hx, hb, hml, hown, hts⟩ (fx_X6_isWell_7 l g z I9 (show dkN [(0, 90)] (I9 340 8) from dkN_sub (by rw [hF30 340 8 rfl]; exact (by rw [hF24 340 8 rfl]; exact f9_340_8)) rfl) hO) (cwV 0 hts gX6_readsDog_X6_isWell rfl rfl rfl (by decide +kernel) ⟨Nat.le_of_ble_eq_true rfl, Nat.le_of_ble_eq_true rfl⟩) (dk_at340 hW) rfl hK hT hW hS rfl hl.1 rfl (Nat.le_of_ble_eq_true rfl) dX6_readsDog_91 ⟨Nat.zero_le _, Nat.zero_le _⟩ (fun v31 I31 H31 L31 hp31 hW hS => ?_)
          obtain ⟨hF31, hO, hc31⟩ := hp31
          have hF := dkF_call hF hF31 rfl
          have eI31 : I9 = I31 := (dkF_nil hF31).symm
          subst eI31
          obtain ⟨dv31, f31_340_8, x31_0, xr31, -⟩ := hc31
          have w32 : I9 340 8 = I0 340 10 := ((hF30 340 8 rfl).trans ((hF24 340 8 rfl).trans y12))
          have q33 : (0 : Int) + 0 ≤ (I0 340 10).toInt := by have h := x31_0; rw [w32] at h; exact h
          have xv31 : v31 = 0 := by have h := xr31; exact h
          refine lv_if_eq (tgt := 132) hx hb dX6_readsDog_94 (by decide) (fun c34 => ?_) (fun c34 => ?_)
          ·
            exact W.vret hx hb hr (fun t ht hW9 => ⟨⟨I9, rfl, ⟨hF, hO, Or.inl ⟨(show dkN [(3, 3)] (I9 340 7) from dkN_sub (by rw [hF31 340 7 rfl]; exact (by rw [hF30 340 7 rfl]; exact (by rw [hF24 340 7 rfl]; exact f9_340_7))) rfl), (show dkN [(0, 90)] (I9 340 8) from dkN_sub f31_340_8 rfl), (show dkN [(3, 9)] (I9 347 0) from dkN_sub (by rw [hF31 347 0 rfl]; exact (by rw [hF30 347 0 rfl]; exact (by rw [hF24 347 0 rfl]; exact (by rw [hF9 347 0 rfl]; exact (by rw [hF2 347 0 rfl]; exact np1))))) rfl), (show dkN [(6, 6)] (I9 347 5) from dkN_sub (by rw [hF31 347 5 rfl]; exact (by rw [hF30 347 5 rfl]; exact (by rw [hF24 347 5 rfl]; exact (by rw [hF9 347 5 rfl]; exact f8)))) rfl), (by omega), (show I9 340 7 = 3 from ((hF31 340 7 rfl).trans ((hF30 340 7 rfl).trans ((hF24 340 7 rfl).trans y11)))), (show I9 340 8 = I0 340 10 from ((hF31 340 8 rfl).trans ((hF30 340 8 rfl).trans ((hF24 340 8 rfl).trans y12)))), (show I9 347 0 = I0 347 0 from ((hF31 347 0 rfl).trans ((hF30 347 0 rfl).trans ((hF24 347 0 rfl).trans ((hF9 347 0 rfl).trans rfl))))), (show I9 347 4 = I0 347 4 from ((hF31 347 4 rfl).trans ((hF30 347 4 rfl).trans ((hF24 347 4 rfl).trans ((hF9 347 4 rfl).trans rfl))))), (show I9 347 5 = I0 347 5 from ((hF31 347 5 rfl).trans ((hF30 347 5 rfl).trans ((hF24 347 5 rfl).trans ((hF9 347 5 rfl).trans rfl))))), trivial⟩⟩, dkW_eq ht hW⟩, hS.F ht⟩) hS.2.2 dX6_readsDog_132
          ·
            exact absurd ((xv31).trans (rfl).symm) c34
        ·
          have q35 : (I0 340 11).toInt = (4 : Int) := by first | (rw [← xv25]; exact (congrArg Int32.toInt c26)) | (subst xv25; exact (congrArg Int32.toInt c26))
          have d36 : dkN [(4, 4)] v25 := dkN_eq1 (dkN_top v25) (dkN_lit (x := 4) (4) rfl) (congrArg Int32.toInt c26) rfl
          have f37 : dkN [(4, 4)] (I9 340 11) := by rw [← ev25]; exact d36
          refine lv_iconst (v := 1) hx hb dX6_readsDog_80 (by decide) ?_
          refine lv_goto (tgt := 85) hx hb dX6_readsDog_81 (by decide) ?_
          refine lv_iconst (v := 1) hx hb dX6_readsDog_85 (by decide) ?_
          refine dk_Vi (As := [.int 1, .int 1]) (rest := []) ⟨hx, hb, hml, hown, hts⟩ (h_X6_takes_0 l g z I9 1 1 (show dkN [(0, 90)] (I9 340 8) from dkN_sub (by rw [hF24 340 8 rfl]; exact f9_340_8) rfl) hO) (cwV 2 hts gX6_readsDog_X6_takes rfl rfl rfl (by decide +kernel) ⟨Nat.le_of_ble_eq_true rfl, Nat.le_of_ble_eq_true rfl⟩) (dk_at340 hW) rfl hK hT hW hS rfl hl.1 rfl (Nat.le_of_ble_eq_true rfl) dX6_readsDog_86 ⟨Nat.zero_le _, Nat.zero_le _⟩ (fun v38 I38 H38 L38 hp38 hW hS => ?_)
          obtain ⟨hF38, hO, hc38⟩ := hp38
          have hF := dkF_call hF hF38 rfl
          have eI38 : I9 = I38 := (dkF_nil hF38).symm
          subst eI38
          obtain ⟨dv38, xr38, -⟩ := hc38
          have xv38 : v38 = 0 := by have h := xr38; exact h
          refine lv_pop hx hb dX6_readsDog_89 rfl ?_
          refine lv_aload_n hx hb dX6_readsDog_90 rfl (lv_at hl 3 rfl) ?_
          refine dk_Vi (As := []) (rest := []) ⟨hx, hb, hml, hown, hts⟩ (fx_X6_isWell_7 l g z I9 (show dkN [(0, 90)] (I9 340 8) from dkN_sub (by rw [hF38 340 8 rfl]; exact (by rw [hF24 340 8 rfl]; exact f9_340_8)) rfl) hO) (cwV 0 hts gX6_readsDog_X6_isWell rfl rfl rfl (by decide +kernel) ⟨Nat.le_of_ble_eq_true rfl, Nat.le_of_ble_eq_true rfl⟩) (dk_at340 hW) rfl hK hT hW hS rfl hl.1 rfl (Nat.le_of_ble_eq_true rfl) dX6_readsDog_91 ⟨Nat.zero_le _, Nat.zero_le _⟩ (fun v39 I39 H39 L39 hp39 hW hS => ?_)
          obtain ⟨hF39, hO, hc39⟩ := hp39
          have hF := dkF_call hF hF39 rfl
          have eI39 : I9 = I39 := (dkF_nil hF39).symm
          subst eI39
          obtain ⟨dv39, f39_340_8, x39_0, xr39, -⟩ := hc39
          have w40 : I9 340 8 = I0 340 10 := ((hF38 340 8 rfl).trans ((hF24 340 8 rfl).trans y12))
          have q41 : (0 : Int) + 0 ≤ (I0 340 10).toInt := by have h := x39_0; rw [w40] at h; exact h
          have xv39 : v39 = 0 := by have h := xr39; exact h
          refine lv_if_eq (tgt := 132) hx hb dX6_readsDog_94 (by decide) (fun c42 => ?_) (fun c42 => ?_)
          ·
            exact W.vret hx hb hr (fun t ht hW9 => ⟨⟨I9, rfl, ⟨hF, hO, Or.inl ⟨(show dkN [(3, 3)] (I9 340 7) from dkN_sub (by rw [hF39 340 7 rfl]; exact (by rw [hF38 340 7 rfl]; exact (by rw [hF24 340 7 rfl]; exact f9_340_7))) rfl), (show dkN [(0, 90)] (I9 340 8) from dkN_sub f39_340_8 rfl), (show dkN [(3, 9)] (I9 347 0) from dkN_sub (by rw [hF39 347 0 rfl]; exact (by rw [hF38 347 0 rfl]; exact (by rw [hF24 347 0 rfl]; exact (by rw [hF9 347 0 rfl]; exact (by rw [hF2 347 0 rfl]; exact np1))))) rfl), (show dkN [(6, 6)] (I9 347 5) from dkN_sub (by rw [hF39 347 5 rfl]; exact (by rw [hF38 347 5 rfl]; exact (by rw [hF24 347 5 rfl]; exact (by rw [hF9 347 5 rfl]; exact f8)))) rfl), (by omega), (show I9 340 7 = 3 from ((hF39 340 7 rfl).trans ((hF38 340 7 rfl).trans ((hF24 340 7 rfl).trans y11)))), (show I9 340 8 = I0 340 10 from ((hF39 340 8 rfl).trans ((hF38 340 8 rfl).trans ((hF24 340 8 rfl).trans y12)))), (show I9 347 0 = I0 347 0 from ((hF39 347 0 rfl).trans ((hF38 347 0 rfl).trans ((hF24 347 0 rfl).trans ((hF9 347 0 rfl).trans rfl))))), (show I9 347 4 = I0 347 4 from ((hF39 347 4 rfl).trans ((hF38 347 4 rfl).trans ((hF24 347 4 rfl).trans ((hF9 347 4 rfl).trans rfl))))), (show I9 347 5 = I0 347 5 from ((hF39 347 5 rfl).trans ((hF38 347 5 rfl).trans ((hF24 347 5 rfl).trans ((hF9 347 5 rfl).trans rfl))))), trivial⟩⟩, dkW_eq ht hW⟩, hS.F ht⟩) hS.2.2 dX6_readsDog_132
          ·
            exact absurd ((xv39).trans (rfl).symm) c42
      ·
        exact (dkN_nil (show dkN [] 6 from dkN_le2 1 dv17 (dkN_lit (x := 6) (6) rfl) (dkc_nle c18) rfl)).elim
    ·
      have q43 : (I0 347 5).toInt + 1 ≤ (6 : Int) := by first | (rw [← xv4]; exact (dkc_nle c5)) | (subst xv4; exact (dkc_nle c5))
      have d44 : dkN [(0, 5)] v4 := dkN_le1 1 dv4 (dkN_lit (x := 6) (6) rfl) (dkc_nle c5) rfl
      have f45 : dkN [(0, 5)] (I0 347 5) := by rw [← ev4]; exact d44
      refine lv_iconst (v := 1) hx hb dX6_readsDog_20 (by decide) ?_
      refine lv_goto (tgt := 25) hx hb dX6_readsDog_21 (by decide) ?_
      refine lv_iconst (v := 3) hx hb dX6_readsDog_25 (by decide) ?_
      refine dk_Vi (As := [.int 1, .int 3]) (rest := []) ⟨hx, hb, hml, hown, hts⟩ (fx_X6_takes_43 l g z I0 1 3 (dkN_lit (x := 1) (1) rfl) (dkN_lit (x := 3) (3) rfl) (show dkN [(-1, -1)] (I0 340 8) from dkN_sub (by rw [hF2 340 8 rfl]; exact np0) rfl) hO) (cwV 2 hts gX6_readsDog_X6_takes rfl rfl rfl (by decide +kernel) ⟨Nat.le_of_ble_eq_true rfl, Nat.le_of_ble_eq_true rfl⟩) (dk_at340 hW) rfl hK hT hW hS rfl hl.1 rfl (Nat.le_of_ble_eq_true rfl) dX6_readsDog_26 ⟨Nat.zero_le _, Nat.zero_le _⟩ (fun v46 I46 H46 L46 hp46 hW hS => ?_)
      obtain ⟨hF46, hO, hc46⟩ := hp46
      have hF := dkF_call hF hF46 rfl
      obtain ⟨_, f46_340_11, f46_340_8, x46_0, x46_1, xr46, xh46_0, xh46_1, xh46_2, xh46_3, xh46_4, xh46_5, -⟩ := hc46
      have q47 : (I0 340 8).toInt + 1 ≤ (0 : Int) := x46_0
      have y48 : I46 340 7 = I0 340 7 := by have h := xh46_0; exact h
      have y49 : I46 340 8 = I0 340 8 := by have h := xh46_1; exact h
      have y50 : I46 340 9 = dkTe (I0 345) (I0 340 6) (I0 340 9) := by have h := xh46_2; exact h
      have y51 : I46 340 10 = I0 340 9 := by have h := xh46_3; exact h
      have y52 : I46 340 11 = dkTk (I0 345) (I0 340 6) (I0 340 9) := by have h := xh46_4; exact h
      have y53 : I46 340 12 = dkTv (I0 345) (I0 340 6) (I0 340 9) := by have h := xh46_5; exact h
      have xv46 : v46 = I0 340 12 := by have h := xr46; exact h
      refine lv_pop hx hb dX6_readsDog_29 rfl ?_
      refine lv_bipush (v := 36) hx hb dX6_readsDog_30 (by decide) ?_
      refine lv_iconst (v := 3) hx hb dX6_readsDog_32 (by decide) ?_
      refine lv_aload_n hx hb dX6_readsDog_33 rfl (lv_at hl 1 rfl) ?_
      refine dk_get (k := 340) hx hb hts iX6_readsDog_6 hown hK (dk_at340 hW) rfl 14 (by decide) (hts (.fieldLink RX6 28 "DogKingsModel" "draft" "[I") (List.mem_of_getElem? (i := 2) rfl)) rfl dX6_readsDog_34 ?_
      refine lv_iconst (v := 5) hx hb dX6_readsDog_37 (by decide) ?_
      refine dk_ild (k := 347) hx hb hK (dk_at347 hW) (dkN_in (n := 54) (dkN_lit (x := 5) (5) rfl) rfl) dX6_readsDog_38 ?_
      refine lv_topi (fun v54 ev54 => ?_)
      have ev54 : v54 = I46 347 5 := ev54
      have dv54 : dkN [(0, 5)] v54 := by rw [ev54]; exact (show dkN [(0, 5)] (I46 347 5) from (by rw [hF46 347 5 rfl]; exact f45))
      have xv54 : v54 = I0 347 5 := ev54.trans ((hF46 347 5 rfl).trans rfl)
      refine lv_bipush (v := 6) hx hb dX6_readsDog_39 (by decide) ?_
      refine lv_icmp_ge (tgt := 53) hx hb dX6_readsDog_41 (by decide) (fun c55 => ?_) (fun c55 => ?_)
      ·
        exact (dkN_nil (show dkN [] 6 from dkN_le1 0 (dkN_lit (x := 6) (6) rfl) dv54 (dkc_le c55) rfl)).elim
      ·
        refine lv_aload_n hx hb dX6_readsDog_44 rfl (lv_at hl 1 rfl) ?_
        refine dk_get (k := 340) hx hb hts iX6_readsDog_6 hown hK (dk_at340 hW) rfl 14 (by decide) (hts (.fieldLink RX6 28 "DogKingsModel" "draft" "[I") (List.mem_of_getElem? (i := 2) rfl)) rfl dX6_readsDog_45 ?_
        refine lv_iconst (v := 5) hx hb dX6_readsDog_48 (by decide) ?_
        refine dk_ild (k := 347) hx hb hK (dk_at347 hW) (dkN_in (n := 54) (dkN_lit (x := 5) (5) rfl) rfl) dX6_readsDog_49 ?_
        refine lv_topi (fun v56 ev56 => ?_)
        have ev56 : v56 = I46 347 5 := ev56
        have dv56 : dkN [(0, 5)] v56 := by rw [ev56]; exact (show dkN [(0, 5)] (I46 347 5) from (by rw [hF46 347 5 rfl]; exact f45))
        have xv56 : v56 = I0 347 5 := ev56.trans ((hF46 347 5 rfl).trans rfl)
        refine lv_goto (tgt := 54) hx hb dX6_readsDog_50 (by decide) ?_
        refine lv_imul hx hb dX6_readsDog_54 ?_
        refine lv_topi (fun v57 ev57 => ?_)
        have dv57 : dkN [(0, 0), (3, 3), (6, 6), (9, 9), (12, 12), (15, 15)] v57 := by rw [ev57]; exact dkN_mulPt 3 (dkN_lit (x := 3) (3) rfl) dv56 rfl
        have xv57 : v57 = (3 : Int32) * (I0 347 5) := by rw [ev57, xv56]
        have q58 : ((3 : Int32) * (I0 347 5)).toInt = (3 : Int) * (I0 347 5).toInt := by first | (rw [← xv57, ← xv56]; exact (by rw [ev57]; exact dk_mulE 3 (x := 3) rfl dv56 (by decide) rfl)) | (subst xv57 xv56; exact (by rw [ev57]; exact dk_mulE 3 (x := 3) rfl dv56 (by decide) rfl))
        refine lv_iadd hx hb dX6_readsDog_55 ?_
        refine lv_topi (fun v59 ev59 => ?_)
        have dv59 : dkN [(36, 36), (39, 39), (42, 42), (45, 45), (48, 48), (51, 51)] v59 := by rw [ev59]; exact dkN_add (dkN_lit (x := 36) (36) rfl) dv57 rfl
        have xv59 : v59 = (36 : Int32) + ((3 : Int32) * (I0 347 5)) := by rw [ev59, xv57]
        have q60 : ((36 : Int32) + ((3 : Int32) * (I0 347 5))).toInt = (36 : Int) + ((3 : Int32) * (I0 347 5)).toInt := by first | (rw [← xv59, ← xv57]; exact (by rw [ev59]; exact dk_addE (dkN_lit (x := 36) (36) rfl) dv57 rfl)) | (subst xv59 xv57; exact (by rw [ev59]; exact dk_addE (dkN_lit (x := 36) (36) rfl) dv57 rfl))
        refine lv_istore_n (lv' := [(2, .int v59), (1, .int v2), (0, .ref (z + 340))]) hx hb dX6_readsDog_56 rfl hl (by decide) rfl (fun ls hl => ?_)
        refine lv_aload_n hx hb dX6_readsDog_57 rfl (lv_at hl 2 rfl) ?_
        refine lv_iconst (v := 0) hx hb dX6_readsDog_58 (by decide) ?_
        refine lv_aload_n hx hb dX6_readsDog_59 rfl (lv_at hl 2 rfl) ?_
        refine dk_get (k := 340) hx hb hts iX6_readsDog_6 hown hK (dk_at340 hW) rfl 14 (by decide) (hts (.fieldLink RX6 28 "DogKingsModel" "draft" "[I") (List.mem_of_getElem? (i := 2) rfl)) rfl dX6_readsDog_60 ?_
        refine lv_iconst (v := 0) hx hb dX6_readsDog_63 (by decide) ?_
        refine dk_ild (k := 347) hx hb hK (dk_at347 hW) (dkN_in (n := 54) (dkN_lit (x := 0) (0) rfl) rfl) dX6_readsDog_64 ?_
        refine lv_topi (fun v61 ev61 => ?_)
        have ev61 : v61 = I46 347 0 := ev61
        have dv61 : dkN [(3, 9)] v61 := by rw [ev61]; exact (show dkN [(3, 9)] (I46 347 0) from (by rw [hF46 347 0 rfl]; exact (by rw [hF2 347 0 rfl]; exact np1)))
        have xv61 : v61 = I0 347 0 := ev61.trans ((hF46 347 0 rfl).trans rfl)
        refine lv_iconst (v := 1) hx hb dX6_readsDog_65 (by decide) ?_
        refine lv_isub hx hb dX6_readsDog_66 ?_
        refine lv_topi (fun v62 ev62 => ?_)
        have dv62 : dkN [(2, 8)] v62 := by rw [ev62]; exact dkN_subt dv61 (dkN_lit (x := 1) (1) rfl) rfl
        have xv62 : v62 = (I0 347 0) - (1 : Int32) := by rw [ev62, xv61]
        have q63 : ((I0 347 0) - (1 : Int32)).toInt = (I0 347 0).toInt - (1 : Int) := by first | (rw [← xv62, ← xv61]; exact (by rw [ev62]; exact dk_subE dv61 (dkN_lit (x := 1) (1) rfl) rfl)) | (subst xv62 xv61; exact (by rw [ev62]; exact dk_subE dv61 (dkN_lit (x := 1) (1) rfl) rfl))
        refine dk_Vi (As := [.int 0, .int v62]) (rest := []) ⟨hx, hb, hml, hown, hts⟩ (fx_X6_figure_12 l g z I46 0 v62 (dkN_lit (x := 0) (0) rfl) dv62 (show dkN [(-1, -1)] (I46 340 8) from dkN_sub f46_340_8 rfl) hO) (cwV 2 hts gX6_readsDog_X6_figure rfl rfl rfl (by decide +kernel) ⟨Nat.le_of_ble_eq_true rfl, Nat.le_of_ble_eq_true rfl⟩) (dk_at340 hW) rfl hK hT hW hS rfl hl.1 rfl (Nat.le_of_ble_eq_true rfl) dX6_readsDog_67 ⟨Nat.zero_le _, Nat.zero_le _⟩ (fun v64 I64 H64 L64 hp64 hW hS => ?_)
        obtain ⟨hF64, hO, hc64⟩ := hp64
        have hF := dkF_call hF hF64 rfl
        rcases hc64 with ⟨dv64, f64_340_11, f64_340_12, f64_340_7, f64_340_8, x64_0, x64_1, x64_2, xr64, xh64_0, xh64_1, xh64_2, xh64_3, xh64_4, xh64_5, -⟩ | hc64
        ·
          have w65 : I46 340 8 = I0 340 8 := y49
          have w66 : I46 340 11 = dkTk (I0 345) (I0 340 6) (I0 340 9) := y52
          have q67 : (dkTk (I0 345) (I0 340 6) (I0 340 9)).toInt = (2 : Int) := by have h := x64_1; rw [w66] at h; exact h
          have w68 : I46 340 12 = dkTv (I0 345) (I0 340 6) (I0 340 9) := y53
          have q69 : (dkTv (I0 345) (I0 340 6) (I0 340 9)).toInt + 1 ≤ (0 : Int) := by have h := x64_2; rw [w68] at h; exact h
          have y70 : I64 340 7 = 2 := by have h := xh64_0; exact h
          have w71 : I46 340 10 = I0 340 9 := y51
          have y72 : I64 340 8 = I0 340 9 := by have h := xh64_1; rw [w71] at h; exact h
          have w73 : I46 340 9 = dkTe (I0 345) (I0 340 6) (I0 340 9) := y50
          have y74 : I64 340 9 = dkTe (I0 345) (I0 340 6) (I0 340 9) := by have h := xh64_2; rw [w73] at h; exact h
          have y75 : I64 340 10 = I0 340 9 := by have h := xh64_3; rw [w71] at h; exact h
          have y76 : I64 340 11 = dkTk (I0 345) (I0 340 6) (I0 340 9) := by have h := xh64_4; rw [w66] at h; exact h
          have y77 : I64 340 12 = dkTv (I0 345) (I0 340 6) (I0 340 9) := by have h := xh64_5; rw [w68] at h; exact h
          have xv64 : v64 = 0 := by have h := xr64; exact h
          refine lv_istore_n (lv' := [(3, .int v64), (2, .int v59), (1, .int v2), (0, .ref (z + 340))]) hx hb dX6_readsDog_70 rfl hl (by decide) rfl (fun ls hl => ?_)
          refine lv_aload_n hx hb dX6_readsDog_71 rfl (lv_at hl 3 rfl) ?_
          refine lv_aload_n hx hb dX6_readsDog_72 rfl (lv_at hl 3 rfl) ?_
          refine dk_get (k := 340) hx hb hts iX6_readsDog_6 hown hK (dk_at340 hW) rfl 11 (by decide) (hts (.fieldLink RX6 98 "DogKingsModel" "token" "I") (List.mem_of_getElem? (i := 3) rfl)) rfl dX6_readsDog_73 ?_
          refine lv_topi (fun v78 ev78 => ?_)
          have dv78 : dkN [(2, 2)] v78 := by rw [ev78]; exact f64_340_11
          have xv78 : v78 = dkTk (I0 345) (I0 340 6) (I0 340 9) := ev78.trans y76
          refine lv_iconst (v := 4) hx hb dX6_readsDog_76 (by decide) ?_
          refine lv_icmp_ne (tgt := 84) hx hb dX6_readsDog_77 (by decide) (fun c79 => ?_) (fun c79 => ?_)
          ·
            have q80 : (dkTk (I0 345) (I0 340 6) (I0 340 9)).toInt ≠ (4 : Int) := by first | (rw [← xv78]; exact (dk_ne c79)) | (subst xv78; exact (dk_ne c79))
            refine lv_iconst (v := 0) hx hb dX6_readsDog_84 (by decide) ?_
            refine lv_iconst (v := 1) hx hb dX6_readsDog_85 (by decide) ?_
            refine dk_Vi (As := [.int 0, .int 1]) (rest := []) ⟨hx, hb, hml, hown, hts⟩ (h_X6_takes_0 l g z I64 0 1 (show dkN [(0, 90)] (I64 340 8) from dkN_sub f64_340_8 rfl) hO) (cwV 2 hts gX6_readsDog_X6_takes rfl rfl rfl (by decide +kernel) ⟨Nat.le_of_ble_eq_true rfl, Nat.le_of_ble_eq_true rfl⟩) (dk_at340 hW) rfl hK hT hW hS rfl hl.1 rfl (Nat.le_of_ble_eq_true rfl) dX6_readsDog_86 ⟨Nat.zero_le _, Nat.zero_le _⟩ (fun v81 I81 H81 L81 hp81 hW hS => ?_)
            obtain ⟨hF81, hO, hc81⟩ := hp81
            have hF := dkF_call hF hF81 rfl
            have eI81 : I64 = I81 := (dkF_nil hF81).symm
            subst eI81
            obtain ⟨dv81, xr81, -⟩ := hc81
            have xv81 : v81 = 0 := by have h := xr81; exact h
            refine lv_pop hx hb dX6_readsDog_89 rfl ?_
            refine lv_aload_n hx hb dX6_readsDog_90 rfl (lv_at hl 3 rfl) ?_
            refine dk_Vi (As := []) (rest := []) ⟨hx, hb, hml, hown, hts⟩ (fx_X6_isWell_7 l g z I64 (show dkN [(0, 90)] (I64 340 8) from dkN_sub (by rw [hF81 340 8 rfl]; exact f64_340_8) rfl) hO) (cwV 0 hts gX6_readsDog_X6_isWell rfl rfl rfl (by decide +kernel) ⟨Nat.le_of_ble_eq_true rfl, Nat.le_of_ble_eq_true rfl⟩) (dk_at340 hW) rfl hK hT hW hS rfl hl.1 rfl (Nat.le_of_ble_eq_true rfl) dX6_readsDog_91 ⟨Nat.zero_le _, Nat.zero_le _⟩ (fun v82 I82 H82 L82 hp82 hW hS => ?_)
            obtain ⟨hF82, hO, hc82⟩ := hp82
            have hF := dkF_call hF hF82 rfl
            have eI82 : I64 = I82 := (dkF_nil hF82).symm
            subst eI82
            obtain ⟨dv82, f82_340_8, x82_0, xr82, -⟩ := hc82
            have w83 : I64 340 8 = I0 340 9 := ((hF81 340 8 rfl).trans y72)
            have q84 : (0 : Int) + 0 ≤ (I0 340 9).toInt := by have h := x82_0; rw [w83] at h; exact h
            have xv82 : v82 = 0 := by have h := xr82; exact h
            refine lv_if_eq (tgt := 132) hx hb dX6_readsDog_94 (by decide) (fun c85 => ?_) (fun c85 => ?_)
            ·
              have i0 : (0 : Int32).toInt = 0 := rfl
              have i1 : (1 : Int32).toInt = 1 := rfl
              have i2 : (2 : Int32).toInt = 2 := rfl
              have i3 : (3 : Int32).toInt = 3 := rfl
              have i9 : (9 : Int32).toInt = 9 := rfl
              have i30 : (30 : Int32).toInt = 30 := rfl
              have i44 : (44 : Int32).toInt = 44 := rfl
              have i59 : (59 : Int32).toInt = 59 := rfl
              have i109 : (109 : Int32).toInt = 109 := rfl
              have i116 : (116 : Int32).toInt = 116 := rfl
              have e86 : dkDo (I0 345) (I0 340 6) (I0 347 0) (I0 340 9) = (2, I0 340 9) := (dkTh_q (dkK_2 (T := (I0 345)) (n := (I0 340 6)) (a := I0 340 9) (lo := 0) (hi := ((I0 347 0) - (1 : Int32))) q67 (by omega)) (by decide))
              exact W.vret hx hb hr (fun t ht hW9 => ⟨⟨I64, rfl, ⟨hF, hO, Or.inr (Or.inl ⟨(show dkN [(1, 2)] (I64 340 7) from dkN_sub (by rw [hF82 340 7 rfl]; exact (by rw [hF81 340 7 rfl]; exact f64_340_7)) rfl), (show dkN [(0, 90)] (I64 340 8) from dkN_sub f82_340_8 rfl), (show dkN [(3, 9)] (I64 347 0) from dkN_sub (by rw [hF82 347 0 rfl]; exact (by rw [hF81 347 0 rfl]; exact (by rw [hF64 347 0 rfl]; exact (by rw [hF46 347 0 rfl]; exact (by rw [hF2 347 0 rfl]; exact np1))))) rfl), (show dkN [(0, 5)] (I64 347 5) from dkN_sub (by rw [hF82 347 5 rfl]; exact (by rw [hF81 347 5 rfl]; exact (by rw [hF64 347 5 rfl]; exact (by rw [hF46 347 5 rfl]; exact f45)))) rfl), (by omega), (dkE_k e86 (by decide)), (((show I64 340 7 = 2 from ((hF82 340 7 rfl).trans ((hF81 340 7 rfl).trans y70)))).trans (dkP_1 e86).symm), (((show I64 340 8 = I0 340 9 from ((hF82 340 8 rfl).trans ((hF81 340 8 rfl).trans y72)))).trans (dkP_2 e86).symm), (show I64 347 0 = I0 347 0 from ((hF82 347 0 rfl).trans ((hF81 347 0 rfl).trans ((hF64 347 0 rfl).trans ((hF46 347 0 rfl).trans rfl))))), (show I64 347 4 = I0 347 4 from ((hF82 347 4 rfl).trans ((hF81 347 4 rfl).trans ((hF64 347 4 rfl).trans ((hF46 347 4 rfl).trans rfl))))), (show I64 347 5 = I0 347 5 from ((hF82 347 5 rfl).trans ((hF81 347 5 rfl).trans ((hF64 347 5 rfl).trans ((hF46 347 5 rfl).trans rfl))))), trivial⟩)⟩, dkW_eq ht hW⟩, hS.F ht⟩) hS.2.2 dX6_readsDog_132
            ·
              exact absurd ((xv82).trans (rfl).symm) c85
          ·
            exact (dkN_nil (show dkN [] v78 from dkN_eq1 dv78 (dkN_lit (x := 4) (4) rfl) (congrArg Int32.toInt c79) rfl)).elim
        rcases hc64 with ⟨dv64, f64_340_11, f64_340_12, f64_340_7, f64_340_8, x64_0, x64_1, x64_2, x64_3, xr64, xh64_0, xh64_1, xh64_2, xh64_3, xh64_4, xh64_5, -⟩ | hc64
        ·
          have w87 : I46 340 8 = I0 340 8 := y49
          have w88 : I46 340 11 = dkTk (I0 345) (I0 340 6) (I0 340 9) := y52
          have q89 : (dkTk (I0 345) (I0 340 6) (I0 340 9)).toInt = (2 : Int) := by have h := x64_1; rw [w88] at h; exact h
          have w90 : I46 340 12 = dkTv (I0 345) (I0 340 6) (I0 340 9) := y53
          have q91 : (0 : Int) + 0 ≤ (dkTv (I0 345) (I0 340 6) (I0 340 9)).toInt := by have h := x64_2; rw [w90] at h; exact h
          have q92 : ((I0 347 0) - (1 : Int32)).toInt + 1 ≤ (dkTv (I0 345) (I0 340 6) (I0 340 9)).toInt := by have h := x64_3; rw [w90, xv62] at h; exact h
          have y93 : I64 340 7 = 2 := by have h := xh64_0; exact h
          have w94 : I46 340 10 = I0 340 9 := y51
          have y95 : I64 340 8 = I0 340 9 := by have h := xh64_1; rw [w94] at h; exact h
          have w96 : I46 340 9 = dkTe (I0 345) (I0 340 6) (I0 340 9) := y50
          have y97 : I64 340 9 = dkTe (I0 345) (I0 340 6) (I0 340 9) := by have h := xh64_2; rw [w96] at h; exact h
          have y98 : I64 340 10 = I0 340 9 := by have h := xh64_3; rw [w94] at h; exact h
          have y99 : I64 340 11 = dkTk (I0 345) (I0 340 6) (I0 340 9) := by have h := xh64_4; rw [w88] at h; exact h
          have y100 : I64 340 12 = dkTv (I0 345) (I0 340 6) (I0 340 9) := by have h := xh64_5; rw [w90] at h; exact h
          have xv64 : v64 = 0 := by have h := xr64; exact h
          refine lv_istore_n (lv' := [(3, .int v64), (2, .int v59), (1, .int v2), (0, .ref (z + 340))]) hx hb dX6_readsDog_70 rfl hl (by decide) rfl (fun ls hl => ?_)
          refine lv_aload_n hx hb dX6_readsDog_71 rfl (lv_at hl 3 rfl) ?_
          refine lv_aload_n hx hb dX6_readsDog_72 rfl (lv_at hl 3 rfl) ?_
          refine dk_get (k := 340) hx hb hts iX6_readsDog_6 hown hK (dk_at340 hW) rfl 11 (by decide) (hts (.fieldLink RX6 98 "DogKingsModel" "token" "I") (List.mem_of_getElem? (i := 3) rfl)) rfl dX6_readsDog_73 ?_
          refine lv_topi (fun v101 ev101 => ?_)
          have dv101 : dkN [(2, 2)] v101 := by rw [ev101]; exact f64_340_11
          have xv101 : v101 = dkTk (I0 345) (I0 340 6) (I0 340 9) := ev101.trans y99
          refine lv_iconst (v := 4) hx hb dX6_readsDog_76 (by decide) ?_
          refine lv_icmp_ne (tgt := 84) hx hb dX6_readsDog_77 (by decide) (fun c102 => ?_) (fun c102 => ?_)
          ·
            have q103 : (dkTk (I0 345) (I0 340 6) (I0 340 9)).toInt ≠ (4 : Int) := by first | (rw [← xv101]; exact (dk_ne c102)) | (subst xv101; exact (dk_ne c102))
            refine lv_iconst (v := 0) hx hb dX6_readsDog_84 (by decide) ?_
            refine lv_iconst (v := 1) hx hb dX6_readsDog_85 (by decide) ?_
            refine dk_Vi (As := [.int 0, .int 1]) (rest := []) ⟨hx, hb, hml, hown, hts⟩ (h_X6_takes_0 l g z I64 0 1 (show dkN [(0, 90)] (I64 340 8) from dkN_sub f64_340_8 rfl) hO) (cwV 2 hts gX6_readsDog_X6_takes rfl rfl rfl (by decide +kernel) ⟨Nat.le_of_ble_eq_true rfl, Nat.le_of_ble_eq_true rfl⟩) (dk_at340 hW) rfl hK hT hW hS rfl hl.1 rfl (Nat.le_of_ble_eq_true rfl) dX6_readsDog_86 ⟨Nat.zero_le _, Nat.zero_le _⟩ (fun v104 I104 H104 L104 hp104 hW hS => ?_)
            obtain ⟨hF104, hO, hc104⟩ := hp104
            have hF := dkF_call hF hF104 rfl
            have eI104 : I64 = I104 := (dkF_nil hF104).symm
            subst eI104
            obtain ⟨dv104, xr104, -⟩ := hc104
            have xv104 : v104 = 0 := by have h := xr104; exact h
            refine lv_pop hx hb dX6_readsDog_89 rfl ?_
            refine lv_aload_n hx hb dX6_readsDog_90 rfl (lv_at hl 3 rfl) ?_
            refine dk_Vi (As := []) (rest := []) ⟨hx, hb, hml, hown, hts⟩ (fx_X6_isWell_7 l g z I64 (show dkN [(0, 90)] (I64 340 8) from dkN_sub (by rw [hF104 340 8 rfl]; exact f64_340_8) rfl) hO) (cwV 0 hts gX6_readsDog_X6_isWell rfl rfl rfl (by decide +kernel) ⟨Nat.le_of_ble_eq_true rfl, Nat.le_of_ble_eq_true rfl⟩) (dk_at340 hW) rfl hK hT hW hS rfl hl.1 rfl (Nat.le_of_ble_eq_true rfl) dX6_readsDog_91 ⟨Nat.zero_le _, Nat.zero_le _⟩ (fun v105 I105 H105 L105 hp105 hW hS => ?_)
            obtain ⟨hF105, hO, hc105⟩ := hp105
            have hF := dkF_call hF hF105 rfl
            have eI105 : I64 = I105 := (dkF_nil hF105).symm
            subst eI105
            obtain ⟨dv105, f105_340_8, x105_0, xr105, -⟩ := hc105
            have w106 : I64 340 8 = I0 340 9 := ((hF104 340 8 rfl).trans y95)
            have q107 : (0 : Int) + 0 ≤ (I0 340 9).toInt := by have h := x105_0; rw [w106] at h; exact h
            have xv105 : v105 = 0 := by have h := xr105; exact h
            refine lv_if_eq (tgt := 132) hx hb dX6_readsDog_94 (by decide) (fun c108 => ?_) (fun c108 => ?_)
            ·
              have i0 : (0 : Int32).toInt = 0 := rfl
              have i1 : (1 : Int32).toInt = 1 := rfl
              have i2 : (2 : Int32).toInt = 2 := rfl
              have i3 : (3 : Int32).toInt = 3 := rfl
              have i9 : (9 : Int32).toInt = 9 := rfl
              have i30 : (30 : Int32).toInt = 30 := rfl
              have i44 : (44 : Int32).toInt = 44 := rfl
              have i59 : (59 : Int32).toInt = 59 := rfl
              have i109 : (109 : Int32).toInt = 109 := rfl
              have i116 : (116 : Int32).toInt = 116 := rfl
              have e109 : dkDo (I0 345) (I0 340 6) (I0 347 0) (I0 340 9) = (2, I0 340 9) := (dkTh_q (dkK_2 (T := (I0 345)) (n := (I0 340 6)) (a := I0 340 9) (lo := 0) (hi := ((I0 347 0) - (1 : Int32))) q89 (by omega)) (by decide))
              exact W.vret hx hb hr (fun t ht hW9 => ⟨⟨I64, rfl, ⟨hF, hO, Or.inr (Or.inl ⟨(show dkN [(1, 2)] (I64 340 7) from dkN_sub (by rw [hF105 340 7 rfl]; exact (by rw [hF104 340 7 rfl]; exact f64_340_7)) rfl), (show dkN [(0, 90)] (I64 340 8) from dkN_sub f105_340_8 rfl), (show dkN [(3, 9)] (I64 347 0) from dkN_sub (by rw [hF105 347 0 rfl]; exact (by rw [hF104 347 0 rfl]; exact (by rw [hF64 347 0 rfl]; exact (by rw [hF46 347 0 rfl]; exact (by rw [hF2 347 0 rfl]; exact np1))))) rfl), (show dkN [(0, 5)] (I64 347 5) from dkN_sub (by rw [hF105 347 5 rfl]; exact (by rw [hF104 347 5 rfl]; exact (by rw [hF64 347 5 rfl]; exact (by rw [hF46 347 5 rfl]; exact f45)))) rfl), (by omega), (dkE_k e109 (by decide)), (((show I64 340 7 = 2 from ((hF105 340 7 rfl).trans ((hF104 340 7 rfl).trans y93)))).trans (dkP_1 e109).symm), (((show I64 340 8 = I0 340 9 from ((hF105 340 8 rfl).trans ((hF104 340 8 rfl).trans y95)))).trans (dkP_2 e109).symm), (show I64 347 0 = I0 347 0 from ((hF105 347 0 rfl).trans ((hF104 347 0 rfl).trans ((hF64 347 0 rfl).trans ((hF46 347 0 rfl).trans rfl))))), (show I64 347 4 = I0 347 4 from ((hF105 347 4 rfl).trans ((hF104 347 4 rfl).trans ((hF64 347 4 rfl).trans ((hF46 347 4 rfl).trans rfl))))), (show I64 347 5 = I0 347 5 from ((hF105 347 5 rfl).trans ((hF104 347 5 rfl).trans ((hF64 347 5 rfl).trans ((hF46 347 5 rfl).trans rfl))))), trivial⟩)⟩, dkW_eq ht hW⟩, hS.F ht⟩) hS.2.2 dX6_readsDog_132
            ·
              exact absurd ((xv105).trans (rfl).symm) c108
          ·
            exact (dkN_nil (show dkN [] v101 from dkN_eq1 dv101 (dkN_lit (x := 4) (4) rfl) (congrArg Int32.toInt c102) rfl)).elim
        rcases hc64 with ⟨dv64, f64_340_11, f64_340_8, x64_0, x64_1, x64_2, x64_3, xr64, xh64_0, xh64_1, xh64_2, xh64_3, xh64_4, xh64_5, -⟩ | hc64
        ·
          have w110 : I46 340 8 = I0 340 8 := y49
          have w111 : I46 340 11 = dkTk (I0 345) (I0 340 6) (I0 340 9) := y52
          have q112 : (dkTk (I0 345) (I0 340 6) (I0 340 9)).toInt = (2 : Int) := by have h := x64_1; rw [w111] at h; exact h
          have w113 : I46 340 12 = dkTv (I0 345) (I0 340 6) (I0 340 9) := y53
          have q114 : (0 : Int) + 0 ≤ (dkTv (I0 345) (I0 340 6) (I0 340 9)).toInt := by have h := x64_2; rw [w113] at h; exact h
          have q115 : (dkTv (I0 345) (I0 340 6) (I0 340 9)).toInt + 0 ≤ ((I0 347 0) - (1 : Int32)).toInt := by have h := x64_3; rw [w113, xv62] at h; exact h
          have w116 : I46 340 7 = I0 340 7 := y48
          have y117 : I64 340 7 = I0 340 7 := by have h := xh64_0; rw [w116] at h; exact h
          have y118 : I64 340 8 = I0 340 8 := by have h := xh64_1; rw [w110] at h; exact h
          have w119 : I46 345 = I0 345 := ((funext fun j => hF46 345 j (dkNin_k rfl dkNin_nil)).trans rfl)
          have w120 : I46 340 6 = I0 340 6 := ((hF46 340 6 rfl).trans rfl)
          have w121 : I46 340 9 = dkTe (I0 345) (I0 340 6) (I0 340 9) := y50
          have y122 : I64 340 9 = dkTe (I0 345) (I0 340 6) (dkTe (I0 345) (I0 340 6) (I0 340 9)) := by have h := xh64_2; rw [w119, w120, w121] at h; exact h
          have y123 : I64 340 10 = dkTe (I0 345) (I0 340 6) (I0 340 9) := by have h := xh64_3; rw [w121] at h; exact h
          have y124 : I64 340 11 = dkTk (I0 345) (I0 340 6) (dkTe (I0 345) (I0 340 6) (I0 340 9)) := by have h := xh64_4; rw [w119, w120, w121] at h; exact h
          have y125 : I64 340 12 = dkTv (I0 345) (I0 340 6) (dkTe (I0 345) (I0 340 6) (I0 340 9)) := by have h := xh64_5; rw [w119, w120, w121] at h; exact h
          have xv64 : v64 = dkTv (I0 345) (I0 340 6) (I0 340 9) := by have h := xr64; rw [w113] at h; exact h
          refine lv_istore_n (lv' := [(3, .int v64), (2, .int v59), (1, .int v2), (0, .ref (z + 340))]) hx hb dX6_readsDog_70 rfl hl (by decide) rfl (fun ls hl => ?_)
          refine lv_aload_n hx hb dX6_readsDog_71 rfl (lv_at hl 3 rfl) ?_
          refine lv_aload_n hx hb dX6_readsDog_72 rfl (lv_at hl 3 rfl) ?_
          refine dk_get (k := 340) hx hb hts iX6_readsDog_6 hown hK (dk_at340 hW) rfl 11 (by decide) (hts (.fieldLink RX6 98 "DogKingsModel" "token" "I") (List.mem_of_getElem? (i := 3) rfl)) rfl dX6_readsDog_73 ?_
          refine lv_topi (fun v126 ev126 => ?_)
          have dv126 : dkN [(0, 5)] v126 := by rw [ev126]; exact f64_340_11
          have xv126 : v126 = dkTk (I0 345) (I0 340 6) (dkTe (I0 345) (I0 340 6) (I0 340 9)) := ev126.trans y124
          refine lv_iconst (v := 4) hx hb dX6_readsDog_76 (by decide) ?_
          refine lv_icmp_ne (tgt := 84) hx hb dX6_readsDog_77 (by decide) (fun c127 => ?_) (fun c127 => ?_)
          ·
            have q128 : (dkTk (I0 345) (I0 340 6) (dkTe (I0 345) (I0 340 6) (I0 340 9))).toInt ≠ (4 : Int) := by first | (rw [← xv126]; exact (dk_ne c127)) | (subst xv126; exact (dk_ne c127))
            have d129 : dkN [(0, 3), (5, 5)] v126 := dkN_ne1 (4) dv126 (dkN_lit (x := 4) (4) rfl) (dk_ne c127) rfl
            have f130 : dkN [(0, 3), (5, 5)] (I64 340 11) := by rw [← ev126]; exact d129
            refine lv_iconst (v := 0) hx hb dX6_readsDog_84 (by decide) ?_
            refine lv_iconst (v := 1) hx hb dX6_readsDog_85 (by decide) ?_
            refine dk_Vi (As := [.int 0, .int 1]) (rest := []) ⟨hx, hb, hml, hown, hts⟩ (fx_X6_takes_31 l g z I64 0 1 (dkN_lit (x := 0) (0) rfl) (dkN_lit (x := 1) (1) rfl) (show dkN [(-1, -1)] (I64 340 8) from dkN_sub f64_340_8 rfl) hO) (cwV 2 hts gX6_readsDog_X6_takes rfl rfl rfl (by decide +kernel) ⟨Nat.le_of_ble_eq_true rfl, Nat.le_of_ble_eq_true rfl⟩) (dk_at340 hW) rfl hK hT hW hS rfl hl.1 rfl (Nat.le_of_ble_eq_true rfl) dX6_readsDog_86 ⟨Nat.zero_le _, Nat.zero_le _⟩ (fun v131 I131 H131 L131 hp131 hW hS => ?_)
            obtain ⟨hF131, hO, hc131⟩ := hp131
            have hF := dkF_call hF hF131 rfl
            obtain ⟨dv131, f131_340_7, f131_340_8, x131_0, x131_1, xr131, xh131_0, xh131_1, xh131_2, xh131_3, xh131_4, xh131_5, -⟩ := hc131
            have w132 : I64 340 8 = I0 340 8 := y118
            have y133 : I131 340 7 = 1 := by have h := xh131_0; exact h
            have w134 : I64 340 10 = dkTe (I0 345) (I0 340 6) (I0 340 9) := y123
            have y135 : I131 340 8 = dkTe (I0 345) (I0 340 6) (I0 340 9) := by have h := xh131_1; rw [w134] at h; exact h
            have w136 : I64 340 9 = dkTe (I0 345) (I0 340 6) (dkTe (I0 345) (I0 340 6) (I0 340 9)) := y122
            have y137 : I131 340 9 = dkTe (I0 345) (I0 340 6) (dkTe (I0 345) (I0 340 6) (I0 340 9)) := by have h := xh131_2; rw [w136] at h; exact h
            have y138 : I131 340 10 = dkTe (I0 345) (I0 340 6) (I0 340 9) := by have h := xh131_3; rw [w134] at h; exact h
            have w139 : I64 340 11 = dkTk (I0 345) (I0 340 6) (dkTe (I0 345) (I0 340 6) (I0 340 9)) := y124
            have y140 : I131 340 11 = dkTk (I0 345) (I0 340 6) (dkTe (I0 345) (I0 340 6) (I0 340 9)) := by have h := xh131_4; rw [w139] at h; exact h
            have w141 : I64 340 12 = dkTv (I0 345) (I0 340 6) (dkTe (I0 345) (I0 340 6) (I0 340 9)) := y125
            have y142 : I131 340 12 = dkTv (I0 345) (I0 340 6) (dkTe (I0 345) (I0 340 6) (I0 340 9)) := by have h := xh131_5; rw [w141] at h; exact h
            have xv131 : v131 = 0 := by have h := xr131; exact h
            refine lv_pop hx hb dX6_readsDog_89 rfl ?_
            refine lv_aload_n hx hb dX6_readsDog_90 rfl (lv_at hl 3 rfl) ?_
            refine dk_Vi (As := []) (rest := []) ⟨hx, hb, hml, hown, hts⟩ (fx_X6_isWell_7 l g z I131 (show dkN [(0, 90)] (I131 340 8) from dkN_sub f131_340_8 rfl) hO) (cwV 0 hts gX6_readsDog_X6_isWell rfl rfl rfl (by decide +kernel) ⟨Nat.le_of_ble_eq_true rfl, Nat.le_of_ble_eq_true rfl⟩) (dk_at340 hW) rfl hK hT hW hS rfl hl.1 rfl (Nat.le_of_ble_eq_true rfl) dX6_readsDog_91 ⟨Nat.zero_le _, Nat.zero_le _⟩ (fun v143 I143 H143 L143 hp143 hW hS => ?_)
            obtain ⟨hF143, hO, hc143⟩ := hp143
            have hF := dkF_call hF hF143 rfl
            have eI143 : I131 = I143 := (dkF_nil hF143).symm
            subst eI143
            obtain ⟨dv143, f143_340_8, x143_0, xr143, -⟩ := hc143
            have w144 : I131 340 8 = dkTe (I0 345) (I0 340 6) (I0 340 9) := y135
            have q145 : (0 : Int) + 0 ≤ (dkTe (I0 345) (I0 340 6) (I0 340 9)).toInt := by have h := x143_0; rw [w144] at h; exact h
            have xv143 : v143 = 0 := by have h := xr143; exact h
            refine lv_if_eq (tgt := 132) hx hb dX6_readsDog_94 (by decide) (fun c146 => ?_) (fun c146 => ?_)
            ·
              have i0 : (0 : Int32).toInt = 0 := rfl
              have i1 : (1 : Int32).toInt = 1 := rfl
              have i2 : (2 : Int32).toInt = 2 := rfl
              have i3 : (3 : Int32).toInt = 3 := rfl
              have i9 : (9 : Int32).toInt = 9 := rfl
              have i30 : (30 : Int32).toInt = 30 := rfl
              have i44 : (44 : Int32).toInt = 44 := rfl
              have i59 : (59 : Int32).toInt = 59 := rfl
              have i109 : (109 : Int32).toInt = 109 := rfl
              have i116 : (116 : Int32).toInt = 116 := rfl
              have e147 : dkDo (I0 345) (I0 340 6) (I0 347 0) (I0 340 9) = (1, dkTe (I0 345) (I0 340 6) (I0 340 9)) := ((dkTh_p (dkK_0 (T := (I0 345)) (n := (I0 340 6)) (a := I0 340 9) (lo := 0) (hi := ((I0 347 0) - (1 : Int32))) q112 (by omega) (by omega))).trans (dkK_sn (T := (I0 345)) (n := (I0 340 6)) (a := dkTe (I0 345) (I0 340 6) (I0 340 9)) q128))
              exact W.vret hx hb hr (fun t ht hW9 => ⟨⟨I131, rfl, ⟨hF, hO, Or.inr (Or.inl ⟨(show dkN [(1, 2)] (I131 340 7) from dkN_sub (by rw [hF143 340 7 rfl]; exact f131_340_7) rfl), (show dkN [(0, 90)] (I131 340 8) from dkN_sub f143_340_8 rfl), (show dkN [(3, 9)] (I131 347 0) from dkN_sub (by rw [hF143 347 0 rfl]; exact (by rw [hF131 347 0 rfl]; exact (by rw [hF64 347 0 rfl]; exact (by rw [hF46 347 0 rfl]; exact (by rw [hF2 347 0 rfl]; exact np1))))) rfl), (show dkN [(0, 5)] (I131 347 5) from dkN_sub (by rw [hF143 347 5 rfl]; exact (by rw [hF131 347 5 rfl]; exact (by rw [hF64 347 5 rfl]; exact (by rw [hF46 347 5 rfl]; exact f45)))) rfl), (by omega), (dkE_k e147 (by decide)), (((show I131 340 7 = 1 from ((hF143 340 7 rfl).trans y133))).trans (dkP_1 e147).symm), (((show I131 340 8 = dkTe (I0 345) (I0 340 6) (I0 340 9) from ((hF143 340 8 rfl).trans y135))).trans (dkP_2 e147).symm), (show I131 347 0 = I0 347 0 from ((hF143 347 0 rfl).trans ((hF131 347 0 rfl).trans ((hF64 347 0 rfl).trans ((hF46 347 0 rfl).trans rfl))))), (show I131 347 4 = I0 347 4 from ((hF143 347 4 rfl).trans ((hF131 347 4 rfl).trans ((hF64 347 4 rfl).trans ((hF46 347 4 rfl).trans rfl))))), (show I131 347 5 = I0 347 5 from ((hF143 347 5 rfl).trans ((hF131 347 5 rfl).trans ((hF64 347 5 rfl).trans ((hF46 347 5 rfl).trans rfl))))), trivial⟩)⟩, dkW_eq ht hW⟩, hS.F ht⟩) hS.2.2 dX6_readsDog_132
            ·
              exact absurd ((xv143).trans (rfl).symm) c146
          ·
            have q148 : (dkTk (I0 345) (I0 340 6) (dkTe (I0 345) (I0 340 6) (I0 340 9))).toInt = (4 : Int) := by first | (rw [← xv126]; exact (congrArg Int32.toInt c127)) | (subst xv126; exact (congrArg Int32.toInt c127))
            have d149 : dkN [(4, 4)] v126 := dkN_eq1 dv126 (dkN_lit (x := 4) (4) rfl) (congrArg Int32.toInt c127) rfl
            have f150 : dkN [(4, 4)] (I64 340 11) := by rw [← ev126]; exact d149
            refine lv_iconst (v := 1) hx hb dX6_readsDog_80 (by decide) ?_
            refine lv_goto (tgt := 85) hx hb dX6_readsDog_81 (by decide) ?_
            refine lv_iconst (v := 1) hx hb dX6_readsDog_85 (by decide) ?_
            refine dk_Vi (As := [.int 1, .int 1]) (rest := []) ⟨hx, hb, hml, hown, hts⟩ (fx_X6_takes_38 l g z I64 1 1 (dkN_lit (x := 1) (1) rfl) (dkN_lit (x := 1) (1) rfl) (show dkN [(-1, -1)] (I64 340 8) from dkN_sub f64_340_8 rfl) hO) (cwV 2 hts gX6_readsDog_X6_takes rfl rfl rfl (by decide +kernel) ⟨Nat.le_of_ble_eq_true rfl, Nat.le_of_ble_eq_true rfl⟩) (dk_at340 hW) rfl hK hT hW hS rfl hl.1 rfl (Nat.le_of_ble_eq_true rfl) dX6_readsDog_86 ⟨Nat.zero_le _, Nat.zero_le _⟩ (fun v151 I151 H151 L151 hp151 hW hS => ?_)
            obtain ⟨hF151, hO, hc151⟩ := hp151
            have hF := dkF_call hF hF151 rfl
            obtain ⟨_, f151_340_11, f151_340_8, x151_0, x151_1, xr151, xh151_0, xh151_1, xh151_2, xh151_3, xh151_4, xh151_5, -⟩ := hc151
            have w152 : I64 340 8 = I0 340 8 := y118
            have w153 : I64 340 7 = I0 340 7 := y117
            have y154 : I151 340 7 = I0 340 7 := by have h := xh151_0; rw [w153] at h; exact h
            have y155 : I151 340 8 = I0 340 8 := by have h := xh151_1; rw [w152] at h; exact h
            have w156 : I64 345 = I0 345 := ((funext fun j => hF64 345 j (dkNin_k rfl dkNin_nil)).trans ((funext fun j => hF46 345 j (dkNin_k rfl dkNin_nil)).trans rfl))
            have w157 : I64 340 6 = I0 340 6 := ((hF64 340 6 rfl).trans ((hF46 340 6 rfl).trans rfl))
            have w158 : I64 340 9 = dkTe (I0 345) (I0 340 6) (dkTe (I0 345) (I0 340 6) (I0 340 9)) := y122
            have y159 : I151 340 9 = dkTe (I0 345) (I0 340 6) (dkTe (I0 345) (I0 340 6) (dkTe (I0 345) (I0 340 6) (I0 340 9))) := by have h := xh151_2; rw [w156, w157, w158] at h; exact h
            have y160 : I151 340 10 = dkTe (I0 345) (I0 340 6) (dkTe (I0 345) (I0 340 6) (I0 340 9)) := by have h := xh151_3; rw [w158] at h; exact h
            have y161 : I151 340 11 = dkTk (I0 345) (I0 340 6) (dkTe (I0 345) (I0 340 6) (dkTe (I0 345) (I0 340 6) (I0 340 9))) := by have h := xh151_4; rw [w156, w157, w158] at h; exact h
            have y162 : I151 340 12 = dkTv (I0 345) (I0 340 6) (dkTe (I0 345) (I0 340 6) (dkTe (I0 345) (I0 340 6) (I0 340 9))) := by have h := xh151_5; rw [w156, w157, w158] at h; exact h
            have w163 : I64 340 12 = dkTv (I0 345) (I0 340 6) (dkTe (I0 345) (I0 340 6) (I0 340 9)) := y125
            have xv151 : v151 = dkTv (I0 345) (I0 340 6) (dkTe (I0 345) (I0 340 6) (I0 340 9)) := by have h := xr151; rw [w163] at h; exact h
            refine lv_pop hx hb dX6_readsDog_89 rfl ?_
            refine lv_aload_n hx hb dX6_readsDog_90 rfl (lv_at hl 3 rfl) ?_
            refine dk_Vi (As := []) (rest := []) ⟨hx, hb, hml, hown, hts⟩ (fx_X6_isWell_6 l g z I151 (show dkN [(-1, -1)] (I151 340 8) from dkN_sub f151_340_8 rfl) hO) (cwV 0 hts gX6_readsDog_X6_isWell rfl rfl rfl (by decide +kernel) ⟨Nat.le_of_ble_eq_true rfl, Nat.le_of_ble_eq_true rfl⟩) (dk_at340 hW) rfl hK hT hW hS rfl hl.1 rfl (Nat.le_of_ble_eq_true rfl) dX6_readsDog_91 ⟨Nat.zero_le _, Nat.zero_le _⟩ (fun v164 I164 H164 L164 hp164 hW hS => ?_)
            obtain ⟨hF164, hO, hc164⟩ := hp164
            have hF := dkF_call hF hF164 rfl
            have eI164 : I151 = I164 := (dkF_nil hF164).symm
            subst eI164
            obtain ⟨dv164, f164_340_8, x164_0, xr164, -⟩ := hc164
            have w165 : I151 340 8 = I0 340 8 := y155
            have xv164 : v164 = 1 := by have h := xr164; exact h
            refine lv_if_eq (tgt := 132) hx hb dX6_readsDog_94 (by decide) (fun c166 => ?_) (fun c166 => ?_)
            ·
              exact (dkN_nil (show dkN [] v164 from dkN_eq1 dv164 (dkN_lit (x := 0) (0) rfl) (congrArg Int32.toInt c166) rfl)).elim
            ·
              refine lv_aload_n hx hb dX6_readsDog_97 rfl (lv_at hl 3 rfl) ?_
              refine dk_get (k := 340) hx hb hts iX6_readsDog_6 hown hK (dk_at340 hW) rfl 14 (by decide) (hts (.fieldLink RX6 28 "DogKingsModel" "draft" "[I") (List.mem_of_getElem? (i := 2) rfl)) rfl dX6_readsDog_98 ?_
              refine lv_iload_n hx hb dX6_readsDog_101 rfl (lv_at hl 1 rfl) ?_
              refine lv_iload_n hx hb dX6_readsDog_102 rfl (lv_at hl 2 rfl) ?_
              refine dk_ist (k := 347) hx hb hK hW (fun _ => rfl) (by decide) hS (dkN_in (n := 54) dv59 rfl) dX6_readsDog_103 (fun I167 H167 L167 eI167 hW hS => ?_)
              have hO := dkO_set hO eI167 (by rw [dkB_w (k := 347) (B := [(-2147483648, 2147483647)]) (by decide) dv59 rfl]; exact dkN_top _)
              have hF := dkF_set hF eI167 (dkIn_v dv59 rfl)
              refine lv_aload_n hx hb dX6_readsDog_104 rfl (lv_at hl 3 rfl) ?_
              refine dk_get (k := 340) hx hb hts iX6_readsDog_6 hown hK (dk_at340 hW) rfl 14 (by decide) (hts (.fieldLink RX6 28 "DogKingsModel" "draft" "[I") (List.mem_of_getElem? (i := 2) rfl)) rfl dX6_readsDog_105 ?_
              refine lv_iload_n hx hb dX6_readsDog_108 rfl (lv_at hl 1 rfl) ?_
              refine lv_iconst (v := 1) hx hb dX6_readsDog_109 (by decide) ?_
              refine lv_iadd hx hb dX6_readsDog_110 ?_
              refine lv_topi (fun v168 ev168 => ?_)
              have dv168 : dkN [(37, 37), (40, 40), (43, 43), (46, 46), (49, 49), (52, 52)] v168 := by rw [ev168]; exact dkN_add dv59 (dkN_lit (x := 1) (1) rfl) rfl
              have xv168 : v168 = ((36 : Int32) + ((3 : Int32) * (I0 347 5))) + (1 : Int32) := by rw [ev168, xv59]
              have q169 : (((36 : Int32) + ((3 : Int32) * (I0 347 5))) + (1 : Int32)).toInt = ((36 : Int32) + ((3 : Int32) * (I0 347 5))).toInt + (1 : Int) := by first | (rw [← xv168, ← xv59]; exact (by rw [ev168]; exact dk_addE dv59 (dkN_lit (x := 1) (1) rfl) rfl)) | (subst xv168 xv59; exact (by rw [ev168]; exact dk_addE dv59 (dkN_lit (x := 1) (1) rfl) rfl))
              refine lv_iload_n hx hb dX6_readsDog_111 rfl (lv_at hl 0 rfl) ?_
              refine dk_ist (k := 347) hx hb hK hW (fun _ => rfl) (by decide) hS (dkN_in (n := 54) dv168 rfl) dX6_readsDog_112 (fun I170 H170 L170 eI170 hW hS => ?_)
              have hO := dkO_set hO eI170 (by rw [dkB_w (k := 347) (B := [(-2147483648, 2147483647)]) (by decide) dv168 rfl]; exact dkN_top _)
              have hF := dkF_set hF eI170 (dkIn_v dv168 rfl)
              refine lv_aload_n hx hb dX6_readsDog_113 rfl (lv_at hl 3 rfl) ?_
              refine dk_get (k := 340) hx hb hts iX6_readsDog_6 hown hK (dk_at340 hW) rfl 14 (by decide) (hts (.fieldLink RX6 28 "DogKingsModel" "draft" "[I") (List.mem_of_getElem? (i := 2) rfl)) rfl dX6_readsDog_114 ?_
              refine lv_iload_n hx hb dX6_readsDog_117 rfl (lv_at hl 1 rfl) ?_
              refine lv_iconst (v := 2) hx hb dX6_readsDog_118 (by decide) ?_
              refine lv_iadd hx hb dX6_readsDog_119 ?_
              refine lv_topi (fun v171 ev171 => ?_)
              have dv171 : dkN [(38, 38), (41, 41), (44, 44), (47, 47), (50, 50), (53, 53)] v171 := by rw [ev171]; exact dkN_add dv59 (dkN_lit (x := 2) (2) rfl) rfl
              have xv171 : v171 = ((36 : Int32) + ((3 : Int32) * (I0 347 5))) + (2 : Int32) := by rw [ev171, xv59]
              have q172 : (((36 : Int32) + ((3 : Int32) * (I0 347 5))) + (2 : Int32)).toInt = ((36 : Int32) + ((3 : Int32) * (I0 347 5))).toInt + (2 : Int) := by first | (rw [← xv171, ← xv59]; exact (by rw [ev171]; exact dk_addE dv59 (dkN_lit (x := 2) (2) rfl) rfl)) | (subst xv171 xv59; exact (by rw [ev171]; exact dk_addE dv59 (dkN_lit (x := 2) (2) rfl) rfl))
              refine lv_iload_n hx hb dX6_readsDog_120 rfl (lv_at hl 0 rfl) ?_
              refine dk_ist (k := 347) hx hb hK hW (fun _ => rfl) (by decide) hS (dkN_in (n := 54) dv171 rfl) dX6_readsDog_121 (fun I173 H173 L173 eI173 hW hS => ?_)
              have hO := dkO_set hO eI173 (by rw [dkB_w (k := 347) (B := [(-2147483648, 2147483647)]) (by decide) dv171 rfl]; exact dkN_top _)
              have hF := dkF_set hF eI173 (dkIn_v dv171 rfl)
              refine lv_aload_n hx hb dX6_readsDog_122 rfl (lv_at hl 3 rfl) ?_
              refine dk_get (k := 340) hx hb hts iX6_readsDog_6 hown hK (dk_at340 hW) rfl 14 (by decide) (hts (.fieldLink RX6 28 "DogKingsModel" "draft" "[I") (List.mem_of_getElem? (i := 2) rfl)) rfl dX6_readsDog_123 ?_
              refine lv_iconst (v := 5) hx hb dX6_readsDog_126 (by decide) ?_
              refine lv_dup2_11 hx hb dX6_readsDog_127 rfl rfl ?_
              refine dk_ild (k := 347) hx hb hK (dk_at347 hW) (dkN_in (n := 54) (dkN_lit (x := 5) (5) rfl) rfl) dX6_readsDog_128 ?_
              refine lv_topi (fun v174 ev174 => ?_)
              have ev174 : v174 = I173 347 5 := ev174
              have dv174 : dkN [(0, 5)] v174 := by rw [ev174]; exact (show dkN [(0, 5)] (I173 347 5) from (by rw [eI173, dkU_sn (dkN_njx dv171 rfl)]; exact (by rw [eI170, dkU_sn (dkN_njx dv168 rfl)]; exact (by rw [eI167, dkU_sn (dkN_njx dv59 rfl)]; exact (by rw [hF164 347 5 rfl]; exact (by rw [hF151 347 5 rfl]; exact (by rw [hF64 347 5 rfl]; exact (by rw [hF46 347 5 rfl]; exact f45))))))))
              have xv174 : v174 = I0 347 5 := ev174.trans ((by rw [eI173, dkU_sn (dkN_njx dv171 rfl)] : I173 347 5 = _).trans ((by rw [eI170, dkU_sn (dkN_njx dv168 rfl)] : I170 347 5 = _).trans ((by rw [eI167, dkU_sn (dkN_njx dv59 rfl)] : I167 347 5 = _).trans ((hF164 347 5 rfl).trans ((hF151 347 5 rfl).trans ((hF64 347 5 rfl).trans ((hF46 347 5 rfl).trans rfl)))))))
              refine lv_iconst (v := 1) hx hb dX6_readsDog_129 (by decide) ?_
              refine lv_iadd hx hb dX6_readsDog_130 ?_
              refine lv_topi (fun v175 ev175 => ?_)
              have dv175 : dkN [(1, 6)] v175 := by rw [ev175]; exact dkN_add dv174 (dkN_lit (x := 1) (1) rfl) rfl
              have xv175 : v175 = (I0 347 5) + (1 : Int32) := by rw [ev175, xv174]
              have q176 : ((I0 347 5) + (1 : Int32)).toInt = (I0 347 5).toInt + (1 : Int) := by first | (rw [← xv175, ← xv174]; exact (by rw [ev175]; exact dk_addE dv174 (dkN_lit (x := 1) (1) rfl) rfl)) | (subst xv175 xv174; exact (by rw [ev175]; exact dk_addE dv174 (dkN_lit (x := 1) (1) rfl) rfl))
              refine dk_ist (k := 347) hx hb hK hW (fun _ => rfl) (by decide) hS (dkN_in (n := 54) (dkN_lit (x := 5) (5) rfl) rfl) dX6_readsDog_131 (fun I177 H177 L177 eI177 hW hS => ?_)
              have eI177 : I177 = dkU I173 347 5 v175 := eI177
              have hO := dkO_set hO eI177 (dkN_sub dv175 rfl)
              have hF := dkF_set hF eI177 rfl
              have i0 : (0 : Int32).toInt = 0 := rfl
              have i1 : (1 : Int32).toInt = 1 := rfl
              have i2 : (2 : Int32).toInt = 2 := rfl
              have i3 : (3 : Int32).toInt = 3 := rfl
              have i9 : (9 : Int32).toInt = 9 := rfl
              have i30 : (30 : Int32).toInt = 30 := rfl
              have i44 : (44 : Int32).toInt = 44 := rfl
              have i59 : (59 : Int32).toInt = 59 := rfl
              have i109 : (109 : Int32).toInt = 109 := rfl
              have i116 : (116 : Int32).toInt = 116 := rfl
              have e178 : dkDo (I0 345) (I0 340 6) (I0 347 0) (I0 340 9) = (0, dkTe (I0 345) (I0 340 6) (dkTe (I0 345) (I0 340 6) (I0 340 9))) := ((dkTh_p (dkK_0 (T := (I0 345)) (n := (I0 340 6)) (a := I0 340 9) (lo := 0) (hi := ((I0 347 0) - (1 : Int32))) q112 (by omega) (by omega))).trans (dkK_s (T := (I0 345)) (n := (I0 340 6)) (a := dkTe (I0 345) (I0 340 6) (I0 340 9)) q148))
              exact W.vret hx hb hr (fun t ht hW9 => ⟨⟨I177, rfl, ⟨hF, hO, Or.inr (Or.inr (⟨(show dkN [(0, 5)] (I177 340 11) from dkN_sub (by rw [eI177, dkU_n (by decide)]; exact (by rw [eI173, dkU_n (by decide)]; exact (by rw [eI170, dkU_n (by decide)]; exact (by rw [eI167, dkU_n (by decide)]; exact (by rw [hF164 340 11 rfl]; exact f151_340_11))))) rfl), (show dkN [(-1, -1)] (I177 340 8) from dkN_sub (by rw [eI177, dkU_n (by decide)]; exact (by rw [eI173, dkU_n (by decide)]; exact (by rw [eI170, dkU_n (by decide)]; exact (by rw [eI167, dkU_n (by decide)]; exact f164_340_8)))) rfl), (show dkN [(3, 9)] (I177 347 0) from dkN_sub (by rw [eI177, dkU_sn (by decide)]; exact (by rw [eI173, dkU_sn (dkN_njx dv171 rfl)]; exact (by rw [eI170, dkU_sn (dkN_njx dv168 rfl)]; exact (by rw [eI167, dkU_sn (dkN_njx dv59 rfl)]; exact (by rw [hF164 347 0 rfl]; exact (by rw [hF151 347 0 rfl]; exact (by rw [hF64 347 0 rfl]; exact (by rw [hF46 347 0 rfl]; exact (by rw [hF2 347 0 rfl]; exact np1))))))))) rfl), (show dkN [(1, 6)] (I177 347 5) from dkN_sub (by rw [eI177, dkU_ss]; exact dv175) rfl), (by omega), (dkP_1 e178), (show I177 340 7 = I0 340 7 from ((by rw [eI177, dkU_n (by decide)] : I177 340 7 = _).trans ((by rw [eI173, dkU_n (by decide)] : I173 340 7 = _).trans ((by rw [eI170, dkU_n (by decide)] : I170 340 7 = _).trans ((by rw [eI167, dkU_n (by decide)] : I167 340 7 = _).trans ((hF164 340 7 rfl).trans y154)))))), (show I177 340 8 = I0 340 8 from ((by rw [eI177, dkU_n (by decide)] : I177 340 8 = _).trans ((by rw [eI173, dkU_n (by decide)] : I173 340 8 = _).trans ((by rw [eI170, dkU_n (by decide)] : I170 340 8 = _).trans ((by rw [eI167, dkU_n (by decide)] : I167 340 8 = _).trans ((hF164 340 8 rfl).trans y155)))))), (((show I177 340 9 = dkTe (I0 345) (I0 340 6) (dkTe (I0 345) (I0 340 6) (dkTe (I0 345) (I0 340 6) (I0 340 9))) from ((by rw [eI177, dkU_n (by decide)] : I177 340 9 = _).trans ((by rw [eI173, dkU_n (by decide)] : I173 340 9 = _).trans ((by rw [eI170, dkU_n (by decide)] : I170 340 9 = _).trans ((by rw [eI167, dkU_n (by decide)] : I167 340 9 = _).trans ((hF164 340 9 rfl).trans y159))))))).trans (congrArg (dkTe (I0 345) (I0 340 6)) (dkP_2 e178).symm)), (((show I177 340 10 = dkTe (I0 345) (I0 340 6) (dkTe (I0 345) (I0 340 6) (I0 340 9)) from ((by rw [eI177, dkU_n (by decide)] : I177 340 10 = _).trans ((by rw [eI173, dkU_n (by decide)] : I173 340 10 = _).trans ((by rw [eI170, dkU_n (by decide)] : I170 340 10 = _).trans ((by rw [eI167, dkU_n (by decide)] : I167 340 10 = _).trans ((hF164 340 10 rfl).trans y160))))))).trans (dkP_2 e178).symm), (((show I177 340 11 = dkTk (I0 345) (I0 340 6) (dkTe (I0 345) (I0 340 6) (dkTe (I0 345) (I0 340 6) (I0 340 9))) from ((by rw [eI177, dkU_n (by decide)] : I177 340 11 = _).trans ((by rw [eI173, dkU_n (by decide)] : I173 340 11 = _).trans ((by rw [eI170, dkU_n (by decide)] : I170 340 11 = _).trans ((by rw [eI167, dkU_n (by decide)] : I167 340 11 = _).trans ((hF164 340 11 rfl).trans y161))))))).trans (congrArg (dkTk (I0 345) (I0 340 6)) (dkP_2 e178).symm)), (((show I177 340 12 = dkTv (I0 345) (I0 340 6) (dkTe (I0 345) (I0 340 6) (dkTe (I0 345) (I0 340 6) (I0 340 9))) from ((by rw [eI177, dkU_n (by decide)] : I177 340 12 = _).trans ((by rw [eI173, dkU_n (by decide)] : I173 340 12 = _).trans ((by rw [eI170, dkU_n (by decide)] : I170 340 12 = _).trans ((by rw [eI167, dkU_n (by decide)] : I167 340 12 = _).trans ((hF164 340 12 rfl).trans y162))))))).trans (congrArg (dkTv (I0 345) (I0 340 6)) (dkP_2 e178).symm)), (show I177 347 0 = I0 347 0 from ((by rw [eI177, dkU_sn (by decide)] : I177 347 0 = _).trans ((by rw [eI173, dkU_sn (dkN_njx dv171 rfl)] : I173 347 0 = _).trans ((by rw [eI170, dkU_sn (dkN_njx dv168 rfl)] : I170 347 0 = _).trans ((by rw [eI167, dkU_sn (dkN_njx dv59 rfl)] : I167 347 0 = _).trans ((hF164 347 0 rfl).trans ((hF151 347 0 rfl).trans ((hF64 347 0 rfl).trans ((hF46 347 0 rfl).trans rfl))))))))), (show I177 347 4 = I0 347 4 from ((by rw [eI177, dkU_sn (by decide)] : I177 347 4 = _).trans ((by rw [eI173, dkU_sn (dkN_njx dv171 rfl)] : I173 347 4 = _).trans ((by rw [eI170, dkU_sn (dkN_njx dv168 rfl)] : I170 347 4 = _).trans ((by rw [eI167, dkU_sn (dkN_njx dv59 rfl)] : I167 347 4 = _).trans ((hF164 347 4 rfl).trans ((hF151 347 4 rfl).trans ((hF64 347 4 rfl).trans ((hF46 347 4 rfl).trans rfl))))))))), (show I177 347 5 = (I0 347 5) + (1 : Int32) from (by rw [eI177, dkU_ss, xv175])), dk_incEq (by rw [eI177, dkU_ss, ev175] : I177 347 5 = v174 + 1) (ev174.trans ((by rw [eI173, dkU_sn (dkN_njx dv171 rfl)] : I173 347 5 = _).trans ((by rw [eI170, dkU_sn (dkN_njx dv168 rfl)] : I170 347 5 = _).trans ((by rw [eI167, dkU_sn (dkN_njx dv59 rfl)] : I167 347 5 = _).trans ((hF164 347 5 rfl).trans ((hF151 347 5 rfl).trans ((hF64 347 5 rfl).trans ((hF46 347 5 rfl).trans rfl)))))))), trivial⟩))⟩, dkW_eq ht hW⟩, hS.F ht⟩) hS.2.2 dX6_readsDog_132
        ·
          obtain ⟨dv64, f64_340_11, f64_340_7, f64_340_8, x64_0, x64_1, xr64, xh64_0, xh64_1, xh64_2, xh64_3, xh64_4, xh64_5, -⟩ := hc64
          have w179 : I46 340 8 = I0 340 8 := y49
          have w180 : I46 340 11 = dkTk (I0 345) (I0 340 6) (I0 340 9) := y52
          have q181 : (dkTk (I0 345) (I0 340 6) (I0 340 9)).toInt ≠ (2 : Int) := by have h := x64_1; rw [w180] at h; exact h
          have y182 : I64 340 7 = 1 := by have h := xh64_0; exact h
          have w183 : I46 340 10 = I0 340 9 := y51
          have y184 : I64 340 8 = I0 340 9 := by have h := xh64_1; rw [w183] at h; exact h
          have w185 : I46 340 9 = dkTe (I0 345) (I0 340 6) (I0 340 9) := y50
          have y186 : I64 340 9 = dkTe (I0 345) (I0 340 6) (I0 340 9) := by have h := xh64_2; rw [w185] at h; exact h
          have y187 : I64 340 10 = I0 340 9 := by have h := xh64_3; rw [w183] at h; exact h
          have y188 : I64 340 11 = dkTk (I0 345) (I0 340 6) (I0 340 9) := by have h := xh64_4; rw [w180] at h; exact h
          have w189 : I46 340 12 = dkTv (I0 345) (I0 340 6) (I0 340 9) := y53
          have y190 : I64 340 12 = dkTv (I0 345) (I0 340 6) (I0 340 9) := by have h := xh64_5; rw [w189] at h; exact h
          have xv64 : v64 = 0 := by have h := xr64; exact h
          refine lv_istore_n (lv' := [(3, .int v64), (2, .int v59), (1, .int v2), (0, .ref (z + 340))]) hx hb dX6_readsDog_70 rfl hl (by decide) rfl (fun ls hl => ?_)
          refine lv_aload_n hx hb dX6_readsDog_71 rfl (lv_at hl 3 rfl) ?_
          refine lv_aload_n hx hb dX6_readsDog_72 rfl (lv_at hl 3 rfl) ?_
          refine dk_get (k := 340) hx hb hts iX6_readsDog_6 hown hK (dk_at340 hW) rfl 11 (by decide) (hts (.fieldLink RX6 98 "DogKingsModel" "token" "I") (List.mem_of_getElem? (i := 3) rfl)) rfl dX6_readsDog_73 ?_
          refine lv_topi (fun v191 ev191 => ?_)
          have dv191 : dkN [(-2147483648, 1), (3, 2147483647)] v191 := by rw [ev191]; exact f64_340_11
          have xv191 : v191 = dkTk (I0 345) (I0 340 6) (I0 340 9) := ev191.trans y188
          refine lv_iconst (v := 4) hx hb dX6_readsDog_76 (by decide) ?_
          refine lv_icmp_ne (tgt := 84) hx hb dX6_readsDog_77 (by decide) (fun c192 => ?_) (fun c192 => ?_)
          ·
            have q193 : (dkTk (I0 345) (I0 340 6) (I0 340 9)).toInt ≠ (4 : Int) := by first | (rw [← xv191]; exact (dk_ne c192)) | (subst xv191; exact (dk_ne c192))
            have d194 : dkN [(-2147483648, 1), (3, 3), (5, 2147483647)] v191 := dkN_ne1 (4) dv191 (dkN_lit (x := 4) (4) rfl) (dk_ne c192) rfl
            have f195 : dkN [(-2147483648, 1), (3, 3), (5, 2147483647)] (I64 340 11) := by rw [← ev191]; exact d194
            refine lv_iconst (v := 0) hx hb dX6_readsDog_84 (by decide) ?_
            refine lv_iconst (v := 1) hx hb dX6_readsDog_85 (by decide) ?_
            refine dk_Vi (As := [.int 0, .int 1]) (rest := []) ⟨hx, hb, hml, hown, hts⟩ (h_X6_takes_0 l g z I64 0 1 (show dkN [(0, 90)] (I64 340 8) from dkN_sub f64_340_8 rfl) hO) (cwV 2 hts gX6_readsDog_X6_takes rfl rfl rfl (by decide +kernel) ⟨Nat.le_of_ble_eq_true rfl, Nat.le_of_ble_eq_true rfl⟩) (dk_at340 hW) rfl hK hT hW hS rfl hl.1 rfl (Nat.le_of_ble_eq_true rfl) dX6_readsDog_86 ⟨Nat.zero_le _, Nat.zero_le _⟩ (fun v196 I196 H196 L196 hp196 hW hS => ?_)
            obtain ⟨hF196, hO, hc196⟩ := hp196
            have hF := dkF_call hF hF196 rfl
            have eI196 : I64 = I196 := (dkF_nil hF196).symm
            subst eI196
            obtain ⟨dv196, xr196, -⟩ := hc196
            have xv196 : v196 = 0 := by have h := xr196; exact h
            refine lv_pop hx hb dX6_readsDog_89 rfl ?_
            refine lv_aload_n hx hb dX6_readsDog_90 rfl (lv_at hl 3 rfl) ?_
            refine dk_Vi (As := []) (rest := []) ⟨hx, hb, hml, hown, hts⟩ (fx_X6_isWell_7 l g z I64 (show dkN [(0, 90)] (I64 340 8) from dkN_sub (by rw [hF196 340 8 rfl]; exact f64_340_8) rfl) hO) (cwV 0 hts gX6_readsDog_X6_isWell rfl rfl rfl (by decide +kernel) ⟨Nat.le_of_ble_eq_true rfl, Nat.le_of_ble_eq_true rfl⟩) (dk_at340 hW) rfl hK hT hW hS rfl hl.1 rfl (Nat.le_of_ble_eq_true rfl) dX6_readsDog_91 ⟨Nat.zero_le _, Nat.zero_le _⟩ (fun v197 I197 H197 L197 hp197 hW hS => ?_)
            obtain ⟨hF197, hO, hc197⟩ := hp197
            have hF := dkF_call hF hF197 rfl
            have eI197 : I64 = I197 := (dkF_nil hF197).symm
            subst eI197
            obtain ⟨dv197, f197_340_8, x197_0, xr197, -⟩ := hc197
            have w198 : I64 340 8 = I0 340 9 := ((hF196 340 8 rfl).trans y184)
            have q199 : (0 : Int) + 0 ≤ (I0 340 9).toInt := by have h := x197_0; rw [w198] at h; exact h
            have xv197 : v197 = 0 := by have h := xr197; exact h
            refine lv_if_eq (tgt := 132) hx hb dX6_readsDog_94 (by decide) (fun c200 => ?_) (fun c200 => ?_)
            ·
              have i0 : (0 : Int32).toInt = 0 := rfl
              have i1 : (1 : Int32).toInt = 1 := rfl
              have i2 : (2 : Int32).toInt = 2 := rfl
              have i3 : (3 : Int32).toInt = 3 := rfl
              have i9 : (9 : Int32).toInt = 9 := rfl
              have i30 : (30 : Int32).toInt = 30 := rfl
              have i44 : (44 : Int32).toInt = 44 := rfl
              have i59 : (59 : Int32).toInt = 59 := rfl
              have i109 : (109 : Int32).toInt = 109 := rfl
              have i116 : (116 : Int32).toInt = 116 := rfl
              have e201 : dkDo (I0 345) (I0 340 6) (I0 347 0) (I0 340 9) = (1, I0 340 9) := (dkTh_q (dkK_1 (T := (I0 345)) (n := (I0 340 6)) (a := I0 340 9) (lo := 0) (hi := ((I0 347 0) - (1 : Int32))) q181) (by decide))
              exact W.vret hx hb hr (fun t ht hW9 => ⟨⟨I64, rfl, ⟨hF, hO, Or.inr (Or.inl ⟨(show dkN [(1, 2)] (I64 340 7) from dkN_sub (by rw [hF197 340 7 rfl]; exact (by rw [hF196 340 7 rfl]; exact f64_340_7)) rfl), (show dkN [(0, 90)] (I64 340 8) from dkN_sub f197_340_8 rfl), (show dkN [(3, 9)] (I64 347 0) from dkN_sub (by rw [hF197 347 0 rfl]; exact (by rw [hF196 347 0 rfl]; exact (by rw [hF64 347 0 rfl]; exact (by rw [hF46 347 0 rfl]; exact (by rw [hF2 347 0 rfl]; exact np1))))) rfl), (show dkN [(0, 5)] (I64 347 5) from dkN_sub (by rw [hF197 347 5 rfl]; exact (by rw [hF196 347 5 rfl]; exact (by rw [hF64 347 5 rfl]; exact (by rw [hF46 347 5 rfl]; exact f45)))) rfl), (by omega), (dkE_k e201 (by decide)), (((show I64 340 7 = 1 from ((hF197 340 7 rfl).trans ((hF196 340 7 rfl).trans y182)))).trans (dkP_1 e201).symm), (((show I64 340 8 = I0 340 9 from ((hF197 340 8 rfl).trans ((hF196 340 8 rfl).trans y184)))).trans (dkP_2 e201).symm), (show I64 347 0 = I0 347 0 from ((hF197 347 0 rfl).trans ((hF196 347 0 rfl).trans ((hF64 347 0 rfl).trans ((hF46 347 0 rfl).trans rfl))))), (show I64 347 4 = I0 347 4 from ((hF197 347 4 rfl).trans ((hF196 347 4 rfl).trans ((hF64 347 4 rfl).trans ((hF46 347 4 rfl).trans rfl))))), (show I64 347 5 = I0 347 5 from ((hF197 347 5 rfl).trans ((hF196 347 5 rfl).trans ((hF64 347 5 rfl).trans ((hF46 347 5 rfl).trans rfl))))), trivial⟩)⟩, dkW_eq ht hW⟩, hS.F ht⟩) hS.2.2 dX6_readsDog_132
            ·
              exact absurd ((xv197).trans (rfl).symm) c200
          ·
            have q202 : (dkTk (I0 345) (I0 340 6) (I0 340 9)).toInt = (4 : Int) := by first | (rw [← xv191]; exact (congrArg Int32.toInt c192)) | (subst xv191; exact (congrArg Int32.toInt c192))
            have d203 : dkN [(4, 4)] v191 := dkN_eq1 dv191 (dkN_lit (x := 4) (4) rfl) (congrArg Int32.toInt c192) rfl
            have f204 : dkN [(4, 4)] (I64 340 11) := by rw [← ev191]; exact d203
            refine lv_iconst (v := 1) hx hb dX6_readsDog_80 (by decide) ?_
            refine lv_goto (tgt := 85) hx hb dX6_readsDog_81 (by decide) ?_
            refine lv_iconst (v := 1) hx hb dX6_readsDog_85 (by decide) ?_
            refine dk_Vi (As := [.int 1, .int 1]) (rest := []) ⟨hx, hb, hml, hown, hts⟩ (h_X6_takes_0 l g z I64 1 1 (show dkN [(0, 90)] (I64 340 8) from dkN_sub f64_340_8 rfl) hO) (cwV 2 hts gX6_readsDog_X6_takes rfl rfl rfl (by decide +kernel) ⟨Nat.le_of_ble_eq_true rfl, Nat.le_of_ble_eq_true rfl⟩) (dk_at340 hW) rfl hK hT hW hS rfl hl.1 rfl (Nat.le_of_ble_eq_true rfl) dX6_readsDog_86 ⟨Nat.zero_le _, Nat.zero_le _⟩ (fun v205 I205 H205 L205 hp205 hW hS => ?_)
            obtain ⟨hF205, hO, hc205⟩ := hp205
            have hF := dkF_call hF hF205 rfl
            have eI205 : I64 = I205 := (dkF_nil hF205).symm
            subst eI205
            obtain ⟨dv205, xr205, -⟩ := hc205
            have xv205 : v205 = 0 := by have h := xr205; exact h
            refine lv_pop hx hb dX6_readsDog_89 rfl ?_
            refine lv_aload_n hx hb dX6_readsDog_90 rfl (lv_at hl 3 rfl) ?_
            refine dk_Vi (As := []) (rest := []) ⟨hx, hb, hml, hown, hts⟩ (fx_X6_isWell_7 l g z I64 (show dkN [(0, 90)] (I64 340 8) from dkN_sub (by rw [hF205 340 8 rfl]; exact f64_340_8) rfl) hO) (cwV 0 hts gX6_readsDog_X6_isWell rfl rfl rfl (by decide +kernel) ⟨Nat.le_of_ble_eq_true rfl, Nat.le_of_ble_eq_true rfl⟩) (dk_at340 hW) rfl hK hT hW hS rfl hl.1 rfl (Nat.le_of_ble_eq_true rfl) dX6_readsDog_91 ⟨Nat.zero_le _, Nat.zero_le _⟩ (fun v206 I206 H206 L206 hp206 hW hS => ?_)
            obtain ⟨hF206, hO, hc206⟩ := hp206
            have hF := dkF_call hF hF206 rfl
            have eI206 : I64 = I206 := (dkF_nil hF206).symm
            subst eI206
            obtain ⟨dv206, f206_340_8, x206_0, xr206, -⟩ := hc206
            have w207 : I64 340 8 = I0 340 9 := ((hF205 340 8 rfl).trans y184)
            have q208 : (0 : Int) + 0 ≤ (I0 340 9).toInt := by have h := x206_0; rw [w207] at h; exact h
            have xv206 : v206 = 0 := by have h := xr206; exact h
            refine lv_if_eq (tgt := 132) hx hb dX6_readsDog_94 (by decide) (fun c209 => ?_) (fun c209 => ?_)
            ·
              have i0 : (0 : Int32).toInt = 0 := rfl
              have i1 : (1 : Int32).toInt = 1 := rfl
              have i2 : (2 : Int32).toInt = 2 := rfl
              have i3 : (3 : Int32).toInt = 3 := rfl
              have i9 : (9 : Int32).toInt = 9 := rfl
              have i30 : (30 : Int32).toInt = 30 := rfl
              have i44 : (44 : Int32).toInt = 44 := rfl
              have i59 : (59 : Int32).toInt = 59 := rfl
              have i109 : (109 : Int32).toInt = 109 := rfl
              have i116 : (116 : Int32).toInt = 116 := rfl
              have e210 : dkDo (I0 345) (I0 340 6) (I0 347 0) (I0 340 9) = (1, I0 340 9) := (dkTh_q (dkK_1 (T := (I0 345)) (n := (I0 340 6)) (a := I0 340 9) (lo := 0) (hi := ((I0 347 0) - (1 : Int32))) q181) (by decide))
              exact W.vret hx hb hr (fun t ht hW9 => ⟨⟨I64, rfl, ⟨hF, hO, Or.inr (Or.inl ⟨(show dkN [(1, 2)] (I64 340 7) from dkN_sub (by rw [hF206 340 7 rfl]; exact (by rw [hF205 340 7 rfl]; exact f64_340_7)) rfl), (show dkN [(0, 90)] (I64 340 8) from dkN_sub f206_340_8 rfl), (show dkN [(3, 9)] (I64 347 0) from dkN_sub (by rw [hF206 347 0 rfl]; exact (by rw [hF205 347 0 rfl]; exact (by rw [hF64 347 0 rfl]; exact (by rw [hF46 347 0 rfl]; exact (by rw [hF2 347 0 rfl]; exact np1))))) rfl), (show dkN [(0, 5)] (I64 347 5) from dkN_sub (by rw [hF206 347 5 rfl]; exact (by rw [hF205 347 5 rfl]; exact (by rw [hF64 347 5 rfl]; exact (by rw [hF46 347 5 rfl]; exact f45)))) rfl), (by omega), (dkE_k e210 (by decide)), (((show I64 340 7 = 1 from ((hF206 340 7 rfl).trans ((hF205 340 7 rfl).trans y182)))).trans (dkP_1 e210).symm), (((show I64 340 8 = I0 340 9 from ((hF206 340 8 rfl).trans ((hF205 340 8 rfl).trans y184)))).trans (dkP_2 e210).symm), (show I64 347 0 = I0 347 0 from ((hF206 347 0 rfl).trans ((hF205 347 0 rfl).trans ((hF64 347 0 rfl).trans ((hF46 347 0 rfl).trans rfl))))), (show I64 347 4 = I0 347 4 from ((hF206 347 4 rfl).trans ((hF205 347 4 rfl).trans ((hF64 347 4 rfl).trans ((hF46 347 4 rfl).trans rfl))))), (show I64 347 5 = I0 347 5 from ((hF206 347 5 rfl).trans ((hF205 347 5 rfl).trans ((hF64 347 5 rfl).trans ((hF46 347 5 rfl).trans rfl))))), trivial⟩)⟩, dkW_eq ht hW⟩, hS.F ht⟩) hS.2.2 dX6_readsDog_132
            ·
              exact absurd ((xv206).trans (rfl).symm) c209
  ·
    obtain ⟨dv2, x2_0, xr2, -⟩ := hc2
    have q211 : dkSo (I0 340 12).toInt = -1000000 := by have h := x2_0; rw [xv1] at h; exact h
    have xv2 : v2 = 0 := by have h := xr2; exact h
    refine lv_istore_n (lv' := [(1, .int v2), (0, .ref (z + 340))]) hx hb dX6_readsDog_7 rfl hl (by decide) rfl (fun ls hl => ?_)
    refine lv_aload_n hx hb dX6_readsDog_8 rfl (lv_at hl 1 rfl) ?_
    refine lv_aload_n hx hb dX6_readsDog_9 rfl (lv_at hl 1 rfl) ?_
    refine dk_get (k := 340) hx hb hts iX6_readsDog_6 hown hK (dk_at340 hW) rfl 14 (by decide) (hts (.fieldLink RX6 28 "DogKingsModel" "draft" "[I") (List.mem_of_getElem? (i := 2) rfl)) rfl dX6_readsDog_10 ?_
    refine lv_iconst (v := 5) hx hb dX6_readsDog_13 (by decide) ?_
    refine dk_ild (k := 347) hx hb hK (dk_at347 hW) (dkN_in (n := 54) (dkN_lit (x := 5) (5) rfl) rfl) dX6_readsDog_14 ?_
    refine lv_topi (fun v212 ev212 => ?_)
    have ev212 : v212 = I0 347 5 := ev212
    have dv212 : dkN [(0, 6)] v212 := by rw [ev212]; exact (show dkN [(0, 6)] (I0 347 5) from (hO 347 5))
    have xv212 : v212 = I0 347 5 := ev212.trans rfl
    refine lv_bipush (v := 6) hx hb dX6_readsDog_15 (by decide) ?_
    refine lv_icmp_ge (tgt := 24) hx hb dX6_readsDog_17 (by decide) (fun c213 => ?_) (fun c213 => ?_)
    ·
      have q214 : (6 : Int) + 0 ≤ (I0 347 5).toInt := by first | (rw [← xv212]; exact (dkc_le c213)) | (subst xv212; exact (dkc_le c213))
      have d215 : dkN [(6, 6)] v212 := dkN_le2 0 (dkN_lit (x := 6) (6) rfl) dv212 (dkc_le c213) rfl
      have f216 : dkN [(6, 6)] (I0 347 5) := by rw [← ev212]; exact d215
      refine lv_iconst (v := 0) hx hb dX6_readsDog_24 (by decide) ?_
      refine lv_iconst (v := 3) hx hb dX6_readsDog_25 (by decide) ?_
      refine dk_Vi (As := [.int 0, .int 3]) (rest := []) ⟨hx, hb, hml, hown, hts⟩ (fx_X6_takes_42 l g z I0 0 3 (dkN_lit (x := 0) (0) rfl) (dkN_lit (x := 3) (3) rfl) (show dkN [(-1, -1)] (I0 340 8) from dkN_sub (by rw [hF2 340 8 rfl]; exact np0) rfl) hO) (cwV 2 hts gX6_readsDog_X6_takes rfl rfl rfl (by decide +kernel) ⟨Nat.le_of_ble_eq_true rfl, Nat.le_of_ble_eq_true rfl⟩) (dk_at340 hW) rfl hK hT hW hS rfl hl.1 rfl (Nat.le_of_ble_eq_true rfl) dX6_readsDog_26 ⟨Nat.zero_le _, Nat.zero_le _⟩ (fun v217 I217 H217 L217 hp217 hW hS => ?_)
      obtain ⟨hF217, hO, hc217⟩ := hp217
      have hF := dkF_call hF hF217 rfl
      obtain ⟨dv217, f217_340_7, f217_340_8, x217_0, x217_1, xr217, xh217_0, xh217_1, xh217_2, xh217_3, xh217_4, xh217_5, -⟩ := hc217
      have q218 : (I0 340 8).toInt + 1 ≤ (0 : Int) := x217_0
      have y219 : I217 340 7 = 3 := by have h := xh217_0; exact h
      have y220 : I217 340 8 = I0 340 10 := by have h := xh217_1; exact h
      have y221 : I217 340 9 = I0 340 9 := by have h := xh217_2; exact h
      have y222 : I217 340 10 = I0 340 10 := by have h := xh217_3; exact h
      have y223 : I217 340 11 = I0 340 11 := by have h := xh217_4; exact h
      have y224 : I217 340 12 = I0 340 12 := by have h := xh217_5; exact h
      have xv217 : v217 = 0 := by have h := xr217; exact h
      refine lv_pop hx hb dX6_readsDog_29 rfl ?_
      refine lv_bipush (v := 36) hx hb dX6_readsDog_30 (by decide) ?_
      refine lv_iconst (v := 3) hx hb dX6_readsDog_32 (by decide) ?_
      refine lv_aload_n hx hb dX6_readsDog_33 rfl (lv_at hl 1 rfl) ?_
      refine dk_get (k := 340) hx hb hts iX6_readsDog_6 hown hK (dk_at340 hW) rfl 14 (by decide) (hts (.fieldLink RX6 28 "DogKingsModel" "draft" "[I") (List.mem_of_getElem? (i := 2) rfl)) rfl dX6_readsDog_34 ?_
      refine lv_iconst (v := 5) hx hb dX6_readsDog_37 (by decide) ?_
      refine dk_ild (k := 347) hx hb hK (dk_at347 hW) (dkN_in (n := 54) (dkN_lit (x := 5) (5) rfl) rfl) dX6_readsDog_38 ?_
      refine lv_topi (fun v225 ev225 => ?_)
      have ev225 : v225 = I217 347 5 := ev225
      have dv225 : dkN [(6, 6)] v225 := by rw [ev225]; exact (show dkN [(6, 6)] (I217 347 5) from (by rw [hF217 347 5 rfl]; exact f216))
      have xv225 : v225 = I0 347 5 := ev225.trans ((hF217 347 5 rfl).trans rfl)
      refine lv_bipush (v := 6) hx hb dX6_readsDog_39 (by decide) ?_
      refine lv_icmp_ge (tgt := 53) hx hb dX6_readsDog_41 (by decide) (fun c226 => ?_) (fun c226 => ?_)
      ·
        refine lv_iconst (v := 0) hx hb dX6_readsDog_53 (by decide) ?_
        refine lv_imul hx hb dX6_readsDog_54 ?_
        refine lv_topi (fun v227 ev227 => ?_)
        have dv227 : dkN [(0, 0)] v227 := by rw [ev227]; exact dkN_mulPt 3 (dkN_lit (x := 3) (3) rfl) (dkN_lit (x := 0) (0) rfl) rfl
        have xv227 : v227 = 0 := by rw [ev227]; rfl
        refine lv_iadd hx hb dX6_readsDog_55 ?_
        refine lv_topi (fun v228 ev228 => ?_)
        have dv228 : dkN [(36, 36)] v228 := by rw [ev228]; exact dkN_add (dkN_lit (x := 36) (36) rfl) dv227 rfl
        have xv228 : v228 = 36 := by rw [ev228, xv227]; rfl
        refine lv_istore_n (lv' := [(2, .int v228), (1, .int v2), (0, .ref (z + 340))]) hx hb dX6_readsDog_56 rfl hl (by decide) rfl (fun ls hl => ?_)
        refine lv_aload_n hx hb dX6_readsDog_57 rfl (lv_at hl 2 rfl) ?_
        refine lv_iconst (v := 0) hx hb dX6_readsDog_58 (by decide) ?_
        refine lv_aload_n hx hb dX6_readsDog_59 rfl (lv_at hl 2 rfl) ?_
        refine dk_get (k := 340) hx hb hts iX6_readsDog_6 hown hK (dk_at340 hW) rfl 14 (by decide) (hts (.fieldLink RX6 28 "DogKingsModel" "draft" "[I") (List.mem_of_getElem? (i := 2) rfl)) rfl dX6_readsDog_60 ?_
        refine lv_iconst (v := 0) hx hb dX6_readsDog_63 (by decide) ?_
        refine dk_ild (k := 347) hx hb hK (dk_at347 hW) (dkN_in (n := 54) (dkN_lit (x := 0) (0) rfl) rfl) dX6_readsDog_64 ?_
        refine lv_topi (fun v229 ev229 => ?_)
        have ev229 : v229 = I217 347 0 := ev229
        have dv229 : dkN [(3, 9)] v229 := by rw [ev229]; exact (show dkN [(3, 9)] (I217 347 0) from (by rw [hF217 347 0 rfl]; exact (by rw [hF2 347 0 rfl]; exact np1)))
        have xv229 : v229 = I0 347 0 := ev229.trans ((hF217 347 0 rfl).trans rfl)
        refine lv_iconst (v := 1) hx hb dX6_readsDog_65 (by decide) ?_
        refine lv_isub hx hb dX6_readsDog_66 ?_
        refine lv_topi (fun v230 ev230 => ?_)
        have dv230 : dkN [(2, 8)] v230 := by rw [ev230]; exact dkN_subt dv229 (dkN_lit (x := 1) (1) rfl) rfl
        have xv230 : v230 = (I0 347 0) - (1 : Int32) := by rw [ev230, xv229]
        have q231 : ((I0 347 0) - (1 : Int32)).toInt = (I0 347 0).toInt - (1 : Int) := by first | (rw [← xv230, ← xv229]; exact (by rw [ev230]; exact dk_subE dv229 (dkN_lit (x := 1) (1) rfl) rfl)) | (subst xv230 xv229; exact (by rw [ev230]; exact dk_subE dv229 (dkN_lit (x := 1) (1) rfl) rfl))
        refine dk_Vi (As := [.int 0, .int v230]) (rest := []) ⟨hx, hb, hml, hown, hts⟩ (h_X6_figure_0 l g z I217 0 v230 (show dkN [(0, 90)] (I217 340 8) from dkN_sub f217_340_8 rfl) hO) (cwV 2 hts gX6_readsDog_X6_figure rfl rfl rfl (by decide +kernel) ⟨Nat.le_of_ble_eq_true rfl, Nat.le_of_ble_eq_true rfl⟩) (dk_at340 hW) rfl hK hT hW hS rfl hl.1 rfl (Nat.le_of_ble_eq_true rfl) dX6_readsDog_67 ⟨Nat.zero_le _, Nat.zero_le _⟩ (fun v232 I232 H232 L232 hp232 hW hS => ?_)
        obtain ⟨hF232, hO, hc232⟩ := hp232
        have hF := dkF_call hF hF232 rfl
        have eI232 : I217 = I232 := (dkF_nil hF232).symm
        subst eI232
        obtain ⟨dv232, xr232, -⟩ := hc232
        have xv232 : v232 = 0 := by have h := xr232; exact h
        refine lv_istore_n (lv' := [(3, .int v232), (2, .int v228), (1, .int v2), (0, .ref (z + 340))]) hx hb dX6_readsDog_70 rfl hl (by decide) rfl (fun ls hl => ?_)
        refine lv_aload_n hx hb dX6_readsDog_71 rfl (lv_at hl 3 rfl) ?_
        refine lv_aload_n hx hb dX6_readsDog_72 rfl (lv_at hl 3 rfl) ?_
        refine dk_get (k := 340) hx hb hts iX6_readsDog_6 hown hK (dk_at340 hW) rfl 11 (by decide) (hts (.fieldLink RX6 98 "DogKingsModel" "token" "I") (List.mem_of_getElem? (i := 3) rfl)) rfl dX6_readsDog_73 ?_
        refine lv_topi (fun v233 ev233 => ?_)
        have xv233 : v233 = I0 340 11 := ev233.trans ((hF232 340 11 rfl).trans y223)
        refine lv_iconst (v := 4) hx hb dX6_readsDog_76 (by decide) ?_
        refine lv_icmp_ne (tgt := 84) hx hb dX6_readsDog_77 (by decide) (fun c234 => ?_) (fun c234 => ?_)
        ·
          have q235 : (I0 340 11).toInt ≠ (4 : Int) := by first | (rw [← xv233]; exact (dk_ne c234)) | (subst xv233; exact (dk_ne c234))
          have d236 : dkN [(-2147483648, 3), (5, 2147483647)] v233 := dkN_ne1 (4) (dkN_top v233) (dkN_lit (x := 4) (4) rfl) (dk_ne c234) rfl
          have f237 : dkN [(-2147483648, 3), (5, 2147483647)] (I217 340 11) := by rw [← ev233]; exact d236
          refine lv_iconst (v := 0) hx hb dX6_readsDog_84 (by decide) ?_
          refine lv_iconst (v := 1) hx hb dX6_readsDog_85 (by decide) ?_
          refine dk_Vi (As := [.int 0, .int 1]) (rest := []) ⟨hx, hb, hml, hown, hts⟩ (h_X6_takes_0 l g z I217 0 1 (show dkN [(0, 90)] (I217 340 8) from dkN_sub (by rw [hF232 340 8 rfl]; exact f217_340_8) rfl) hO) (cwV 2 hts gX6_readsDog_X6_takes rfl rfl rfl (by decide +kernel) ⟨Nat.le_of_ble_eq_true rfl, Nat.le_of_ble_eq_true rfl⟩) (dk_at340 hW) rfl hK hT hW hS rfl hl.1 rfl (Nat.le_of_ble_eq_true rfl) dX6_readsDog_86 ⟨Nat.zero_le _, Nat.zero_le _⟩ (fun v238 I238 H238 L238 hp238 hW hS => ?_)
          obtain ⟨hF238, hO, hc238⟩ := hp238
          have hF := dkF_call hF hF238 rfl
          have eI238 : I217 = I238 := (dkF_nil hF238).symm
          subst eI238
          obtain ⟨dv238, xr238, -⟩ := hc238
          have xv238 : v238 = 0 := by have h := xr238; exact h
          refine lv_pop hx hb dX6_readsDog_89 rfl ?_
          refine lv_aload_n hx hb dX6_readsDog_90 rfl (lv_at hl 3 rfl) ?_
          refine dk_Vi (As := []) (rest := []) ⟨hx, hb, hml, hown, hts⟩ (fx_X6_isWell_7 l g z I217 (show dkN [(0, 90)] (I217 340 8) from dkN_sub (by rw [hF238 340 8 rfl]; exact (by rw [hF232 340 8 rfl]; exact f217_340_8)) rfl) hO) (cwV 0 hts gX6_readsDog_X6_isWell rfl rfl rfl (by decide +kernel) ⟨Nat.le_of_ble_eq_true rfl, Nat.le_of_ble_eq_true rfl⟩) (dk_at340 hW) rfl hK hT hW hS rfl hl.1 rfl (Nat.le_of_ble_eq_true rfl) dX6_readsDog_91 ⟨Nat.zero_le _, Nat.zero_le _⟩ (fun v239 I239 H239 L239 hp239 hW hS => ?_)
          obtain ⟨hF239, hO, hc239⟩ := hp239
          have hF := dkF_call hF hF239 rfl
          have eI239 : I217 = I239 := (dkF_nil hF239).symm
          subst eI239
          obtain ⟨dv239, f239_340_8, x239_0, xr239, -⟩ := hc239
          have w240 : I217 340 8 = I0 340 10 := ((hF238 340 8 rfl).trans ((hF232 340 8 rfl).trans y220))
          have q241 : (0 : Int) + 0 ≤ (I0 340 10).toInt := by have h := x239_0; rw [w240] at h; exact h
          have xv239 : v239 = 0 := by have h := xr239; exact h
          refine lv_if_eq (tgt := 132) hx hb dX6_readsDog_94 (by decide) (fun c242 => ?_) (fun c242 => ?_)
          ·
            exact W.vret hx hb hr (fun t ht hW9 => ⟨⟨I217, rfl, ⟨hF, hO, Or.inl ⟨(show dkN [(3, 3)] (I217 340 7) from dkN_sub (by rw [hF239 340 7 rfl]; exact (by rw [hF238 340 7 rfl]; exact (by rw [hF232 340 7 rfl]; exact f217_340_7))) rfl), (show dkN [(0, 90)] (I217 340 8) from dkN_sub f239_340_8 rfl), (show dkN [(3, 9)] (I217 347 0) from dkN_sub (by rw [hF239 347 0 rfl]; exact (by rw [hF238 347 0 rfl]; exact (by rw [hF232 347 0 rfl]; exact (by rw [hF217 347 0 rfl]; exact (by rw [hF2 347 0 rfl]; exact np1))))) rfl), (show dkN [(6, 6)] (I217 347 5) from dkN_sub (by rw [hF239 347 5 rfl]; exact (by rw [hF238 347 5 rfl]; exact (by rw [hF232 347 5 rfl]; exact (by rw [hF217 347 5 rfl]; exact f216)))) rfl), (by omega), (show I217 340 7 = 3 from ((hF239 340 7 rfl).trans ((hF238 340 7 rfl).trans ((hF232 340 7 rfl).trans y219)))), (show I217 340 8 = I0 340 10 from ((hF239 340 8 rfl).trans ((hF238 340 8 rfl).trans ((hF232 340 8 rfl).trans y220)))), (show I217 347 0 = I0 347 0 from ((hF239 347 0 rfl).trans ((hF238 347 0 rfl).trans ((hF232 347 0 rfl).trans ((hF217 347 0 rfl).trans rfl))))), (show I217 347 4 = I0 347 4 from ((hF239 347 4 rfl).trans ((hF238 347 4 rfl).trans ((hF232 347 4 rfl).trans ((hF217 347 4 rfl).trans rfl))))), (show I217 347 5 = I0 347 5 from ((hF239 347 5 rfl).trans ((hF238 347 5 rfl).trans ((hF232 347 5 rfl).trans ((hF217 347 5 rfl).trans rfl))))), trivial⟩⟩, dkW_eq ht hW⟩, hS.F ht⟩) hS.2.2 dX6_readsDog_132
          ·
            exact absurd ((xv239).trans (rfl).symm) c242
        ·
          have q243 : (I0 340 11).toInt = (4 : Int) := by first | (rw [← xv233]; exact (congrArg Int32.toInt c234)) | (subst xv233; exact (congrArg Int32.toInt c234))
          have d244 : dkN [(4, 4)] v233 := dkN_eq1 (dkN_top v233) (dkN_lit (x := 4) (4) rfl) (congrArg Int32.toInt c234) rfl
          have f245 : dkN [(4, 4)] (I217 340 11) := by rw [← ev233]; exact d244
          refine lv_iconst (v := 1) hx hb dX6_readsDog_80 (by decide) ?_
          refine lv_goto (tgt := 85) hx hb dX6_readsDog_81 (by decide) ?_
          refine lv_iconst (v := 1) hx hb dX6_readsDog_85 (by decide) ?_
          refine dk_Vi (As := [.int 1, .int 1]) (rest := []) ⟨hx, hb, hml, hown, hts⟩ (h_X6_takes_0 l g z I217 1 1 (show dkN [(0, 90)] (I217 340 8) from dkN_sub (by rw [hF232 340 8 rfl]; exact f217_340_8) rfl) hO) (cwV 2 hts gX6_readsDog_X6_takes rfl rfl rfl (by decide +kernel) ⟨Nat.le_of_ble_eq_true rfl, Nat.le_of_ble_eq_true rfl⟩) (dk_at340 hW) rfl hK hT hW hS rfl hl.1 rfl (Nat.le_of_ble_eq_true rfl) dX6_readsDog_86 ⟨Nat.zero_le _, Nat.zero_le _⟩ (fun v246 I246 H246 L246 hp246 hW hS => ?_)
          obtain ⟨hF246, hO, hc246⟩ := hp246
          have hF := dkF_call hF hF246 rfl
          have eI246 : I217 = I246 := (dkF_nil hF246).symm
          subst eI246
          obtain ⟨dv246, xr246, -⟩ := hc246
          have xv246 : v246 = 0 := by have h := xr246; exact h
          refine lv_pop hx hb dX6_readsDog_89 rfl ?_
          refine lv_aload_n hx hb dX6_readsDog_90 rfl (lv_at hl 3 rfl) ?_
          refine dk_Vi (As := []) (rest := []) ⟨hx, hb, hml, hown, hts⟩ (fx_X6_isWell_7 l g z I217 (show dkN [(0, 90)] (I217 340 8) from dkN_sub (by rw [hF246 340 8 rfl]; exact (by rw [hF232 340 8 rfl]; exact f217_340_8)) rfl) hO) (cwV 0 hts gX6_readsDog_X6_isWell rfl rfl rfl (by decide +kernel) ⟨Nat.le_of_ble_eq_true rfl, Nat.le_of_ble_eq_true rfl⟩) (dk_at340 hW) rfl hK hT hW hS rfl hl.1 rfl (Nat.le_of_ble_eq_true rfl) dX6_readsDog_91 ⟨Nat.zero_le _, Nat.zero_le _⟩ (fun v247 I247 H247 L247 hp247 hW hS => ?_)
          obtain ⟨hF247, hO, hc247⟩ := hp247
          have hF := dkF_call hF hF247 rfl
          have eI247 : I217 = I247 := (dkF_nil hF247).symm
          subst eI247
          obtain ⟨dv247, f247_340_8, x247_0, xr247, -⟩ := hc247
          have w248 : I217 340 8 = I0 340 10 := ((hF246 340 8 rfl).trans ((hF232 340 8 rfl).trans y220))
          have q249 : (0 : Int) + 0 ≤ (I0 340 10).toInt := by have h := x247_0; rw [w248] at h; exact h
          have xv247 : v247 = 0 := by have h := xr247; exact h
          refine lv_if_eq (tgt := 132) hx hb dX6_readsDog_94 (by decide) (fun c250 => ?_) (fun c250 => ?_)
          ·
            exact W.vret hx hb hr (fun t ht hW9 => ⟨⟨I217, rfl, ⟨hF, hO, Or.inl ⟨(show dkN [(3, 3)] (I217 340 7) from dkN_sub (by rw [hF247 340 7 rfl]; exact (by rw [hF246 340 7 rfl]; exact (by rw [hF232 340 7 rfl]; exact f217_340_7))) rfl), (show dkN [(0, 90)] (I217 340 8) from dkN_sub f247_340_8 rfl), (show dkN [(3, 9)] (I217 347 0) from dkN_sub (by rw [hF247 347 0 rfl]; exact (by rw [hF246 347 0 rfl]; exact (by rw [hF232 347 0 rfl]; exact (by rw [hF217 347 0 rfl]; exact (by rw [hF2 347 0 rfl]; exact np1))))) rfl), (show dkN [(6, 6)] (I217 347 5) from dkN_sub (by rw [hF247 347 5 rfl]; exact (by rw [hF246 347 5 rfl]; exact (by rw [hF232 347 5 rfl]; exact (by rw [hF217 347 5 rfl]; exact f216)))) rfl), (by omega), (show I217 340 7 = 3 from ((hF247 340 7 rfl).trans ((hF246 340 7 rfl).trans ((hF232 340 7 rfl).trans y219)))), (show I217 340 8 = I0 340 10 from ((hF247 340 8 rfl).trans ((hF246 340 8 rfl).trans ((hF232 340 8 rfl).trans y220)))), (show I217 347 0 = I0 347 0 from ((hF247 347 0 rfl).trans ((hF246 347 0 rfl).trans ((hF232 347 0 rfl).trans ((hF217 347 0 rfl).trans rfl))))), (show I217 347 4 = I0 347 4 from ((hF247 347 4 rfl).trans ((hF246 347 4 rfl).trans ((hF232 347 4 rfl).trans ((hF217 347 4 rfl).trans rfl))))), (show I217 347 5 = I0 347 5 from ((hF247 347 5 rfl).trans ((hF246 347 5 rfl).trans ((hF232 347 5 rfl).trans ((hF217 347 5 rfl).trans rfl))))), trivial⟩⟩, dkW_eq ht hW⟩, hS.F ht⟩) hS.2.2 dX6_readsDog_132
          ·
            exact absurd ((xv247).trans (rfl).symm) c250
      ·
        exact (dkN_nil (show dkN [] 6 from dkN_le2 1 dv225 (dkN_lit (x := 6) (6) rfl) (dkc_nle c226) rfl)).elim
    ·
      have q251 : (I0 347 5).toInt + 1 ≤ (6 : Int) := by first | (rw [← xv212]; exact (dkc_nle c213)) | (subst xv212; exact (dkc_nle c213))
      have d252 : dkN [(0, 5)] v212 := dkN_le1 1 dv212 (dkN_lit (x := 6) (6) rfl) (dkc_nle c213) rfl
      have f253 : dkN [(0, 5)] (I0 347 5) := by rw [← ev212]; exact d252
      refine lv_iconst (v := 1) hx hb dX6_readsDog_20 (by decide) ?_
      refine lv_goto (tgt := 25) hx hb dX6_readsDog_21 (by decide) ?_
      refine lv_iconst (v := 3) hx hb dX6_readsDog_25 (by decide) ?_
      refine dk_Vi (As := [.int 1, .int 3]) (rest := []) ⟨hx, hb, hml, hown, hts⟩ (fx_X6_takes_43 l g z I0 1 3 (dkN_lit (x := 1) (1) rfl) (dkN_lit (x := 3) (3) rfl) (show dkN [(-1, -1)] (I0 340 8) from dkN_sub (by rw [hF2 340 8 rfl]; exact np0) rfl) hO) (cwV 2 hts gX6_readsDog_X6_takes rfl rfl rfl (by decide +kernel) ⟨Nat.le_of_ble_eq_true rfl, Nat.le_of_ble_eq_true rfl⟩) (dk_at340 hW) rfl hK hT hW hS rfl hl.1 rfl (Nat.le_of_ble_eq_true rfl) dX6_readsDog_26 ⟨Nat.zero_le _, Nat.zero_le _⟩ (fun v254 I254 H254 L254 hp254 hW hS => ?_)
      obtain ⟨hF254, hO, hc254⟩ := hp254
      have hF := dkF_call hF hF254 rfl
      obtain ⟨_, f254_340_11, f254_340_8, x254_0, x254_1, xr254, xh254_0, xh254_1, xh254_2, xh254_3, xh254_4, xh254_5, -⟩ := hc254
      have q255 : (I0 340 8).toInt + 1 ≤ (0 : Int) := x254_0
      have y256 : I254 340 7 = I0 340 7 := by have h := xh254_0; exact h
      have y257 : I254 340 8 = I0 340 8 := by have h := xh254_1; exact h
      have y258 : I254 340 9 = dkTe (I0 345) (I0 340 6) (I0 340 9) := by have h := xh254_2; exact h
      have y259 : I254 340 10 = I0 340 9 := by have h := xh254_3; exact h
      have y260 : I254 340 11 = dkTk (I0 345) (I0 340 6) (I0 340 9) := by have h := xh254_4; exact h
      have y261 : I254 340 12 = dkTv (I0 345) (I0 340 6) (I0 340 9) := by have h := xh254_5; exact h
      have xv254 : v254 = I0 340 12 := by have h := xr254; exact h
      refine lv_pop hx hb dX6_readsDog_29 rfl ?_
      refine lv_bipush (v := 36) hx hb dX6_readsDog_30 (by decide) ?_
      refine lv_iconst (v := 3) hx hb dX6_readsDog_32 (by decide) ?_
      refine lv_aload_n hx hb dX6_readsDog_33 rfl (lv_at hl 1 rfl) ?_
      refine dk_get (k := 340) hx hb hts iX6_readsDog_6 hown hK (dk_at340 hW) rfl 14 (by decide) (hts (.fieldLink RX6 28 "DogKingsModel" "draft" "[I") (List.mem_of_getElem? (i := 2) rfl)) rfl dX6_readsDog_34 ?_
      refine lv_iconst (v := 5) hx hb dX6_readsDog_37 (by decide) ?_
      refine dk_ild (k := 347) hx hb hK (dk_at347 hW) (dkN_in (n := 54) (dkN_lit (x := 5) (5) rfl) rfl) dX6_readsDog_38 ?_
      refine lv_topi (fun v262 ev262 => ?_)
      have ev262 : v262 = I254 347 5 := ev262
      have dv262 : dkN [(0, 5)] v262 := by rw [ev262]; exact (show dkN [(0, 5)] (I254 347 5) from (by rw [hF254 347 5 rfl]; exact f253))
      have xv262 : v262 = I0 347 5 := ev262.trans ((hF254 347 5 rfl).trans rfl)
      refine lv_bipush (v := 6) hx hb dX6_readsDog_39 (by decide) ?_
      refine lv_icmp_ge (tgt := 53) hx hb dX6_readsDog_41 (by decide) (fun c263 => ?_) (fun c263 => ?_)
      ·
        exact (dkN_nil (show dkN [] 6 from dkN_le1 0 (dkN_lit (x := 6) (6) rfl) dv262 (dkc_le c263) rfl)).elim
      ·
        refine lv_aload_n hx hb dX6_readsDog_44 rfl (lv_at hl 1 rfl) ?_
        refine dk_get (k := 340) hx hb hts iX6_readsDog_6 hown hK (dk_at340 hW) rfl 14 (by decide) (hts (.fieldLink RX6 28 "DogKingsModel" "draft" "[I") (List.mem_of_getElem? (i := 2) rfl)) rfl dX6_readsDog_45 ?_
        refine lv_iconst (v := 5) hx hb dX6_readsDog_48 (by decide) ?_
        refine dk_ild (k := 347) hx hb hK (dk_at347 hW) (dkN_in (n := 54) (dkN_lit (x := 5) (5) rfl) rfl) dX6_readsDog_49 ?_
        refine lv_topi (fun v264 ev264 => ?_)
        have ev264 : v264 = I254 347 5 := ev264
        have dv264 : dkN [(0, 5)] v264 := by rw [ev264]; exact (show dkN [(0, 5)] (I254 347 5) from (by rw [hF254 347 5 rfl]; exact f253))
        have xv264 : v264 = I0 347 5 := ev264.trans ((hF254 347 5 rfl).trans rfl)
        refine lv_goto (tgt := 54) hx hb dX6_readsDog_50 (by decide) ?_
        refine lv_imul hx hb dX6_readsDog_54 ?_
        refine lv_topi (fun v265 ev265 => ?_)
        have dv265 : dkN [(0, 0), (3, 3), (6, 6), (9, 9), (12, 12), (15, 15)] v265 := by rw [ev265]; exact dkN_mulPt 3 (dkN_lit (x := 3) (3) rfl) dv264 rfl
        have xv265 : v265 = (3 : Int32) * (I0 347 5) := by rw [ev265, xv264]
        have q266 : ((3 : Int32) * (I0 347 5)).toInt = (3 : Int) * (I0 347 5).toInt := by first | (rw [← xv265, ← xv264]; exact (by rw [ev265]; exact dk_mulE 3 (x := 3) rfl dv264 (by decide) rfl)) | (subst xv265 xv264; exact (by rw [ev265]; exact dk_mulE 3 (x := 3) rfl dv264 (by decide) rfl))
        refine lv_iadd hx hb dX6_readsDog_55 ?_
        refine lv_topi (fun v267 ev267 => ?_)
        have dv267 : dkN [(36, 36), (39, 39), (42, 42), (45, 45), (48, 48), (51, 51)] v267 := by rw [ev267]; exact dkN_add (dkN_lit (x := 36) (36) rfl) dv265 rfl
        have xv267 : v267 = (36 : Int32) + ((3 : Int32) * (I0 347 5)) := by rw [ev267, xv265]
        have q268 : ((36 : Int32) + ((3 : Int32) * (I0 347 5))).toInt = (36 : Int) + ((3 : Int32) * (I0 347 5)).toInt := by first | (rw [← xv267, ← xv265]; exact (by rw [ev267]; exact dk_addE (dkN_lit (x := 36) (36) rfl) dv265 rfl)) | (subst xv267 xv265; exact (by rw [ev267]; exact dk_addE (dkN_lit (x := 36) (36) rfl) dv265 rfl))
        refine lv_istore_n (lv' := [(2, .int v267), (1, .int v2), (0, .ref (z + 340))]) hx hb dX6_readsDog_56 rfl hl (by decide) rfl (fun ls hl => ?_)
        refine lv_aload_n hx hb dX6_readsDog_57 rfl (lv_at hl 2 rfl) ?_
        refine lv_iconst (v := 0) hx hb dX6_readsDog_58 (by decide) ?_
        refine lv_aload_n hx hb dX6_readsDog_59 rfl (lv_at hl 2 rfl) ?_
        refine dk_get (k := 340) hx hb hts iX6_readsDog_6 hown hK (dk_at340 hW) rfl 14 (by decide) (hts (.fieldLink RX6 28 "DogKingsModel" "draft" "[I") (List.mem_of_getElem? (i := 2) rfl)) rfl dX6_readsDog_60 ?_
        refine lv_iconst (v := 0) hx hb dX6_readsDog_63 (by decide) ?_
        refine dk_ild (k := 347) hx hb hK (dk_at347 hW) (dkN_in (n := 54) (dkN_lit (x := 0) (0) rfl) rfl) dX6_readsDog_64 ?_
        refine lv_topi (fun v269 ev269 => ?_)
        have ev269 : v269 = I254 347 0 := ev269
        have dv269 : dkN [(3, 9)] v269 := by rw [ev269]; exact (show dkN [(3, 9)] (I254 347 0) from (by rw [hF254 347 0 rfl]; exact (by rw [hF2 347 0 rfl]; exact np1)))
        have xv269 : v269 = I0 347 0 := ev269.trans ((hF254 347 0 rfl).trans rfl)
        refine lv_iconst (v := 1) hx hb dX6_readsDog_65 (by decide) ?_
        refine lv_isub hx hb dX6_readsDog_66 ?_
        refine lv_topi (fun v270 ev270 => ?_)
        have dv270 : dkN [(2, 8)] v270 := by rw [ev270]; exact dkN_subt dv269 (dkN_lit (x := 1) (1) rfl) rfl
        have xv270 : v270 = (I0 347 0) - (1 : Int32) := by rw [ev270, xv269]
        have q271 : ((I0 347 0) - (1 : Int32)).toInt = (I0 347 0).toInt - (1 : Int) := by first | (rw [← xv270, ← xv269]; exact (by rw [ev270]; exact dk_subE dv269 (dkN_lit (x := 1) (1) rfl) rfl)) | (subst xv270 xv269; exact (by rw [ev270]; exact dk_subE dv269 (dkN_lit (x := 1) (1) rfl) rfl))
        refine dk_Vi (As := [.int 0, .int v270]) (rest := []) ⟨hx, hb, hml, hown, hts⟩ (fx_X6_figure_12 l g z I254 0 v270 (dkN_lit (x := 0) (0) rfl) dv270 (show dkN [(-1, -1)] (I254 340 8) from dkN_sub f254_340_8 rfl) hO) (cwV 2 hts gX6_readsDog_X6_figure rfl rfl rfl (by decide +kernel) ⟨Nat.le_of_ble_eq_true rfl, Nat.le_of_ble_eq_true rfl⟩) (dk_at340 hW) rfl hK hT hW hS rfl hl.1 rfl (Nat.le_of_ble_eq_true rfl) dX6_readsDog_67 ⟨Nat.zero_le _, Nat.zero_le _⟩ (fun v272 I272 H272 L272 hp272 hW hS => ?_)
        obtain ⟨hF272, hO, hc272⟩ := hp272
        have hF := dkF_call hF hF272 rfl
        rcases hc272 with ⟨dv272, f272_340_11, f272_340_12, f272_340_7, f272_340_8, x272_0, x272_1, x272_2, xr272, xh272_0, xh272_1, xh272_2, xh272_3, xh272_4, xh272_5, -⟩ | hc272
        ·
          have w273 : I254 340 8 = I0 340 8 := y257
          have w274 : I254 340 11 = dkTk (I0 345) (I0 340 6) (I0 340 9) := y260
          have q275 : (dkTk (I0 345) (I0 340 6) (I0 340 9)).toInt = (2 : Int) := by have h := x272_1; rw [w274] at h; exact h
          have w276 : I254 340 12 = dkTv (I0 345) (I0 340 6) (I0 340 9) := y261
          have q277 : (dkTv (I0 345) (I0 340 6) (I0 340 9)).toInt + 1 ≤ (0 : Int) := by have h := x272_2; rw [w276] at h; exact h
          have y278 : I272 340 7 = 2 := by have h := xh272_0; exact h
          have w279 : I254 340 10 = I0 340 9 := y259
          have y280 : I272 340 8 = I0 340 9 := by have h := xh272_1; rw [w279] at h; exact h
          have w281 : I254 340 9 = dkTe (I0 345) (I0 340 6) (I0 340 9) := y258
          have y282 : I272 340 9 = dkTe (I0 345) (I0 340 6) (I0 340 9) := by have h := xh272_2; rw [w281] at h; exact h
          have y283 : I272 340 10 = I0 340 9 := by have h := xh272_3; rw [w279] at h; exact h
          have y284 : I272 340 11 = dkTk (I0 345) (I0 340 6) (I0 340 9) := by have h := xh272_4; rw [w274] at h; exact h
          have y285 : I272 340 12 = dkTv (I0 345) (I0 340 6) (I0 340 9) := by have h := xh272_5; rw [w276] at h; exact h
          have xv272 : v272 = 0 := by have h := xr272; exact h
          refine lv_istore_n (lv' := [(3, .int v272), (2, .int v267), (1, .int v2), (0, .ref (z + 340))]) hx hb dX6_readsDog_70 rfl hl (by decide) rfl (fun ls hl => ?_)
          refine lv_aload_n hx hb dX6_readsDog_71 rfl (lv_at hl 3 rfl) ?_
          refine lv_aload_n hx hb dX6_readsDog_72 rfl (lv_at hl 3 rfl) ?_
          refine dk_get (k := 340) hx hb hts iX6_readsDog_6 hown hK (dk_at340 hW) rfl 11 (by decide) (hts (.fieldLink RX6 98 "DogKingsModel" "token" "I") (List.mem_of_getElem? (i := 3) rfl)) rfl dX6_readsDog_73 ?_
          refine lv_topi (fun v286 ev286 => ?_)
          have dv286 : dkN [(2, 2)] v286 := by rw [ev286]; exact f272_340_11
          have xv286 : v286 = dkTk (I0 345) (I0 340 6) (I0 340 9) := ev286.trans y284
          refine lv_iconst (v := 4) hx hb dX6_readsDog_76 (by decide) ?_
          refine lv_icmp_ne (tgt := 84) hx hb dX6_readsDog_77 (by decide) (fun c287 => ?_) (fun c287 => ?_)
          ·
            have q288 : (dkTk (I0 345) (I0 340 6) (I0 340 9)).toInt ≠ (4 : Int) := by first | (rw [← xv286]; exact (dk_ne c287)) | (subst xv286; exact (dk_ne c287))
            refine lv_iconst (v := 0) hx hb dX6_readsDog_84 (by decide) ?_
            refine lv_iconst (v := 1) hx hb dX6_readsDog_85 (by decide) ?_
            refine dk_Vi (As := [.int 0, .int 1]) (rest := []) ⟨hx, hb, hml, hown, hts⟩ (h_X6_takes_0 l g z I272 0 1 (show dkN [(0, 90)] (I272 340 8) from dkN_sub f272_340_8 rfl) hO) (cwV 2 hts gX6_readsDog_X6_takes rfl rfl rfl (by decide +kernel) ⟨Nat.le_of_ble_eq_true rfl, Nat.le_of_ble_eq_true rfl⟩) (dk_at340 hW) rfl hK hT hW hS rfl hl.1 rfl (Nat.le_of_ble_eq_true rfl) dX6_readsDog_86 ⟨Nat.zero_le _, Nat.zero_le _⟩ (fun v289 I289 H289 L289 hp289 hW hS => ?_)
            obtain ⟨hF289, hO, hc289⟩ := hp289
            have hF := dkF_call hF hF289 rfl
            have eI289 : I272 = I289 := (dkF_nil hF289).symm
            subst eI289
            obtain ⟨dv289, xr289, -⟩ := hc289
            have xv289 : v289 = 0 := by have h := xr289; exact h
            refine lv_pop hx hb dX6_readsDog_89 rfl ?_
            refine lv_aload_n hx hb dX6_readsDog_90 rfl (lv_at hl 3 rfl) ?_
            refine dk_Vi (As := []) (rest := []) ⟨hx, hb, hml, hown, hts⟩ (fx_X6_isWell_7 l g z I272 (show dkN [(0, 90)] (I272 340 8) from dkN_sub (by rw [hF289 340 8 rfl]; exact f272_340_8) rfl) hO) (cwV 0 hts gX6_readsDog_X6_isWell rfl rfl rfl (by decide +kernel) ⟨Nat.le_of_ble_eq_true rfl, Nat.le_of_ble_eq_true rfl⟩) (dk_at340 hW) rfl hK hT hW hS rfl hl.1 rfl (Nat.le_of_ble_eq_true rfl) dX6_readsDog_91 ⟨Nat.zero_le _, Nat.zero_le _⟩ (fun v290 I290 H290 L290 hp290 hW hS => ?_)
            obtain ⟨hF290, hO, hc290⟩ := hp290
            have hF := dkF_call hF hF290 rfl
            have eI290 : I272 = I290 := (dkF_nil hF290).symm
            subst eI290
            obtain ⟨dv290, f290_340_8, x290_0, xr290, -⟩ := hc290
            have w291 : I272 340 8 = I0 340 9 := ((hF289 340 8 rfl).trans y280)
            have q292 : (0 : Int) + 0 ≤ (I0 340 9).toInt := by have h := x290_0; rw [w291] at h; exact h
            have xv290 : v290 = 0 := by have h := xr290; exact h
            refine lv_if_eq (tgt := 132) hx hb dX6_readsDog_94 (by decide) (fun c293 => ?_) (fun c293 => ?_)
            ·
              have i0 : (0 : Int32).toInt = 0 := rfl
              have i1 : (1 : Int32).toInt = 1 := rfl
              have i2 : (2 : Int32).toInt = 2 := rfl
              have i3 : (3 : Int32).toInt = 3 := rfl
              have i9 : (9 : Int32).toInt = 9 := rfl
              have i30 : (30 : Int32).toInt = 30 := rfl
              have i44 : (44 : Int32).toInt = 44 := rfl
              have i59 : (59 : Int32).toInt = 59 := rfl
              have i109 : (109 : Int32).toInt = 109 := rfl
              have i116 : (116 : Int32).toInt = 116 := rfl
              have e294 : dkDo (I0 345) (I0 340 6) (I0 347 0) (I0 340 9) = (2, I0 340 9) := (dkTh_q (dkK_2 (T := (I0 345)) (n := (I0 340 6)) (a := I0 340 9) (lo := 0) (hi := ((I0 347 0) - (1 : Int32))) q275 (by omega)) (by decide))
              exact W.vret hx hb hr (fun t ht hW9 => ⟨⟨I272, rfl, ⟨hF, hO, Or.inr (Or.inl ⟨(show dkN [(1, 2)] (I272 340 7) from dkN_sub (by rw [hF290 340 7 rfl]; exact (by rw [hF289 340 7 rfl]; exact f272_340_7)) rfl), (show dkN [(0, 90)] (I272 340 8) from dkN_sub f290_340_8 rfl), (show dkN [(3, 9)] (I272 347 0) from dkN_sub (by rw [hF290 347 0 rfl]; exact (by rw [hF289 347 0 rfl]; exact (by rw [hF272 347 0 rfl]; exact (by rw [hF254 347 0 rfl]; exact (by rw [hF2 347 0 rfl]; exact np1))))) rfl), (show dkN [(0, 5)] (I272 347 5) from dkN_sub (by rw [hF290 347 5 rfl]; exact (by rw [hF289 347 5 rfl]; exact (by rw [hF272 347 5 rfl]; exact (by rw [hF254 347 5 rfl]; exact f253)))) rfl), (by omega), (dkE_k e294 (by decide)), (((show I272 340 7 = 2 from ((hF290 340 7 rfl).trans ((hF289 340 7 rfl).trans y278)))).trans (dkP_1 e294).symm), (((show I272 340 8 = I0 340 9 from ((hF290 340 8 rfl).trans ((hF289 340 8 rfl).trans y280)))).trans (dkP_2 e294).symm), (show I272 347 0 = I0 347 0 from ((hF290 347 0 rfl).trans ((hF289 347 0 rfl).trans ((hF272 347 0 rfl).trans ((hF254 347 0 rfl).trans rfl))))), (show I272 347 4 = I0 347 4 from ((hF290 347 4 rfl).trans ((hF289 347 4 rfl).trans ((hF272 347 4 rfl).trans ((hF254 347 4 rfl).trans rfl))))), (show I272 347 5 = I0 347 5 from ((hF290 347 5 rfl).trans ((hF289 347 5 rfl).trans ((hF272 347 5 rfl).trans ((hF254 347 5 rfl).trans rfl))))), trivial⟩)⟩, dkW_eq ht hW⟩, hS.F ht⟩) hS.2.2 dX6_readsDog_132
            ·
              exact absurd ((xv290).trans (rfl).symm) c293
          ·
            exact (dkN_nil (show dkN [] v286 from dkN_eq1 dv286 (dkN_lit (x := 4) (4) rfl) (congrArg Int32.toInt c287) rfl)).elim
        rcases hc272 with ⟨dv272, f272_340_11, f272_340_12, f272_340_7, f272_340_8, x272_0, x272_1, x272_2, x272_3, xr272, xh272_0, xh272_1, xh272_2, xh272_3, xh272_4, xh272_5, -⟩ | hc272
        ·
          have w295 : I254 340 8 = I0 340 8 := y257
          have w296 : I254 340 11 = dkTk (I0 345) (I0 340 6) (I0 340 9) := y260
          have q297 : (dkTk (I0 345) (I0 340 6) (I0 340 9)).toInt = (2 : Int) := by have h := x272_1; rw [w296] at h; exact h
          have w298 : I254 340 12 = dkTv (I0 345) (I0 340 6) (I0 340 9) := y261
          have q299 : (0 : Int) + 0 ≤ (dkTv (I0 345) (I0 340 6) (I0 340 9)).toInt := by have h := x272_2; rw [w298] at h; exact h
          have q300 : ((I0 347 0) - (1 : Int32)).toInt + 1 ≤ (dkTv (I0 345) (I0 340 6) (I0 340 9)).toInt := by have h := x272_3; rw [w298, xv270] at h; exact h
          have y301 : I272 340 7 = 2 := by have h := xh272_0; exact h
          have w302 : I254 340 10 = I0 340 9 := y259
          have y303 : I272 340 8 = I0 340 9 := by have h := xh272_1; rw [w302] at h; exact h
          have w304 : I254 340 9 = dkTe (I0 345) (I0 340 6) (I0 340 9) := y258
          have y305 : I272 340 9 = dkTe (I0 345) (I0 340 6) (I0 340 9) := by have h := xh272_2; rw [w304] at h; exact h
          have y306 : I272 340 10 = I0 340 9 := by have h := xh272_3; rw [w302] at h; exact h
          have y307 : I272 340 11 = dkTk (I0 345) (I0 340 6) (I0 340 9) := by have h := xh272_4; rw [w296] at h; exact h
          have y308 : I272 340 12 = dkTv (I0 345) (I0 340 6) (I0 340 9) := by have h := xh272_5; rw [w298] at h; exact h
          have xv272 : v272 = 0 := by have h := xr272; exact h
          refine lv_istore_n (lv' := [(3, .int v272), (2, .int v267), (1, .int v2), (0, .ref (z + 340))]) hx hb dX6_readsDog_70 rfl hl (by decide) rfl (fun ls hl => ?_)
          refine lv_aload_n hx hb dX6_readsDog_71 rfl (lv_at hl 3 rfl) ?_
          refine lv_aload_n hx hb dX6_readsDog_72 rfl (lv_at hl 3 rfl) ?_
          refine dk_get (k := 340) hx hb hts iX6_readsDog_6 hown hK (dk_at340 hW) rfl 11 (by decide) (hts (.fieldLink RX6 98 "DogKingsModel" "token" "I") (List.mem_of_getElem? (i := 3) rfl)) rfl dX6_readsDog_73 ?_
          refine lv_topi (fun v309 ev309 => ?_)
          have dv309 : dkN [(2, 2)] v309 := by rw [ev309]; exact f272_340_11
          have xv309 : v309 = dkTk (I0 345) (I0 340 6) (I0 340 9) := ev309.trans y307
          refine lv_iconst (v := 4) hx hb dX6_readsDog_76 (by decide) ?_
          refine lv_icmp_ne (tgt := 84) hx hb dX6_readsDog_77 (by decide) (fun c310 => ?_) (fun c310 => ?_)
          ·
            have q311 : (dkTk (I0 345) (I0 340 6) (I0 340 9)).toInt ≠ (4 : Int) := by first | (rw [← xv309]; exact (dk_ne c310)) | (subst xv309; exact (dk_ne c310))
            refine lv_iconst (v := 0) hx hb dX6_readsDog_84 (by decide) ?_
            refine lv_iconst (v := 1) hx hb dX6_readsDog_85 (by decide) ?_
            refine dk_Vi (As := [.int 0, .int 1]) (rest := []) ⟨hx, hb, hml, hown, hts⟩ (h_X6_takes_0 l g z I272 0 1 (show dkN [(0, 90)] (I272 340 8) from dkN_sub f272_340_8 rfl) hO) (cwV 2 hts gX6_readsDog_X6_takes rfl rfl rfl (by decide +kernel) ⟨Nat.le_of_ble_eq_true rfl, Nat.le_of_ble_eq_true rfl⟩) (dk_at340 hW) rfl hK hT hW hS rfl hl.1 rfl (Nat.le_of_ble_eq_true rfl) dX6_readsDog_86 ⟨Nat.zero_le _, Nat.zero_le _⟩ (fun v312 I312 H312 L312 hp312 hW hS => ?_)
            obtain ⟨hF312, hO, hc312⟩ := hp312
            have hF := dkF_call hF hF312 rfl
            have eI312 : I272 = I312 := (dkF_nil hF312).symm
            subst eI312
            obtain ⟨dv312, xr312, -⟩ := hc312
            have xv312 : v312 = 0 := by have h := xr312; exact h
            refine lv_pop hx hb dX6_readsDog_89 rfl ?_
            refine lv_aload_n hx hb dX6_readsDog_90 rfl (lv_at hl 3 rfl) ?_
            refine dk_Vi (As := []) (rest := []) ⟨hx, hb, hml, hown, hts⟩ (fx_X6_isWell_7 l g z I272 (show dkN [(0, 90)] (I272 340 8) from dkN_sub (by rw [hF312 340 8 rfl]; exact f272_340_8) rfl) hO) (cwV 0 hts gX6_readsDog_X6_isWell rfl rfl rfl (by decide +kernel) ⟨Nat.le_of_ble_eq_true rfl, Nat.le_of_ble_eq_true rfl⟩) (dk_at340 hW) rfl hK hT hW hS rfl hl.1 rfl (Nat.le_of_ble_eq_true rfl) dX6_readsDog_91 ⟨Nat.zero_le _, Nat.zero_le _⟩ (fun v313 I313 H313 L313 hp313 hW hS => ?_)
            obtain ⟨hF313, hO, hc313⟩ := hp313
            have hF := dkF_call hF hF313 rfl
            have eI313 : I272 = I313 := (dkF_nil hF313).symm
            subst eI313
            obtain ⟨dv313, f313_340_8, x313_0, xr313, -⟩ := hc313
            have w314 : I272 340 8 = I0 340 9 := ((hF312 340 8 rfl).trans y303)
            have q315 : (0 : Int) + 0 ≤ (I0 340 9).toInt := by have h := x313_0; rw [w314] at h; exact h
            have xv313 : v313 = 0 := by have h := xr313; exact h
            refine lv_if_eq (tgt := 132) hx hb dX6_readsDog_94 (by decide) (fun c316 => ?_) (fun c316 => ?_)
            ·
              have i0 : (0 : Int32).toInt = 0 := rfl
              have i1 : (1 : Int32).toInt = 1 := rfl
              have i2 : (2 : Int32).toInt = 2 := rfl
              have i3 : (3 : Int32).toInt = 3 := rfl
              have i9 : (9 : Int32).toInt = 9 := rfl
              have i30 : (30 : Int32).toInt = 30 := rfl
              have i44 : (44 : Int32).toInt = 44 := rfl
              have i59 : (59 : Int32).toInt = 59 := rfl
              have i109 : (109 : Int32).toInt = 109 := rfl
              have i116 : (116 : Int32).toInt = 116 := rfl
              have e317 : dkDo (I0 345) (I0 340 6) (I0 347 0) (I0 340 9) = (2, I0 340 9) := (dkTh_q (dkK_2 (T := (I0 345)) (n := (I0 340 6)) (a := I0 340 9) (lo := 0) (hi := ((I0 347 0) - (1 : Int32))) q297 (by omega)) (by decide))
              exact W.vret hx hb hr (fun t ht hW9 => ⟨⟨I272, rfl, ⟨hF, hO, Or.inr (Or.inl ⟨(show dkN [(1, 2)] (I272 340 7) from dkN_sub (by rw [hF313 340 7 rfl]; exact (by rw [hF312 340 7 rfl]; exact f272_340_7)) rfl), (show dkN [(0, 90)] (I272 340 8) from dkN_sub f313_340_8 rfl), (show dkN [(3, 9)] (I272 347 0) from dkN_sub (by rw [hF313 347 0 rfl]; exact (by rw [hF312 347 0 rfl]; exact (by rw [hF272 347 0 rfl]; exact (by rw [hF254 347 0 rfl]; exact (by rw [hF2 347 0 rfl]; exact np1))))) rfl), (show dkN [(0, 5)] (I272 347 5) from dkN_sub (by rw [hF313 347 5 rfl]; exact (by rw [hF312 347 5 rfl]; exact (by rw [hF272 347 5 rfl]; exact (by rw [hF254 347 5 rfl]; exact f253)))) rfl), (by omega), (dkE_k e317 (by decide)), (((show I272 340 7 = 2 from ((hF313 340 7 rfl).trans ((hF312 340 7 rfl).trans y301)))).trans (dkP_1 e317).symm), (((show I272 340 8 = I0 340 9 from ((hF313 340 8 rfl).trans ((hF312 340 8 rfl).trans y303)))).trans (dkP_2 e317).symm), (show I272 347 0 = I0 347 0 from ((hF313 347 0 rfl).trans ((hF312 347 0 rfl).trans ((hF272 347 0 rfl).trans ((hF254 347 0 rfl).trans rfl))))), (show I272 347 4 = I0 347 4 from ((hF313 347 4 rfl).trans ((hF312 347 4 rfl).trans ((hF272 347 4 rfl).trans ((hF254 347 4 rfl).trans rfl))))), (show I272 347 5 = I0 347 5 from ((hF313 347 5 rfl).trans ((hF312 347 5 rfl).trans ((hF272 347 5 rfl).trans ((hF254 347 5 rfl).trans rfl))))), trivial⟩)⟩, dkW_eq ht hW⟩, hS.F ht⟩) hS.2.2 dX6_readsDog_132
            ·
              exact absurd ((xv313).trans (rfl).symm) c316
          ·
            exact (dkN_nil (show dkN [] v309 from dkN_eq1 dv309 (dkN_lit (x := 4) (4) rfl) (congrArg Int32.toInt c310) rfl)).elim
        rcases hc272 with ⟨dv272, f272_340_11, f272_340_8, x272_0, x272_1, x272_2, x272_3, xr272, xh272_0, xh272_1, xh272_2, xh272_3, xh272_4, xh272_5, -⟩ | hc272
        ·
          have w318 : I254 340 8 = I0 340 8 := y257
          have w319 : I254 340 11 = dkTk (I0 345) (I0 340 6) (I0 340 9) := y260
          have q320 : (dkTk (I0 345) (I0 340 6) (I0 340 9)).toInt = (2 : Int) := by have h := x272_1; rw [w319] at h; exact h
          have w321 : I254 340 12 = dkTv (I0 345) (I0 340 6) (I0 340 9) := y261
          have q322 : (0 : Int) + 0 ≤ (dkTv (I0 345) (I0 340 6) (I0 340 9)).toInt := by have h := x272_2; rw [w321] at h; exact h
          have q323 : (dkTv (I0 345) (I0 340 6) (I0 340 9)).toInt + 0 ≤ ((I0 347 0) - (1 : Int32)).toInt := by have h := x272_3; rw [w321, xv270] at h; exact h
          have w324 : I254 340 7 = I0 340 7 := y256
          have y325 : I272 340 7 = I0 340 7 := by have h := xh272_0; rw [w324] at h; exact h
          have y326 : I272 340 8 = I0 340 8 := by have h := xh272_1; rw [w318] at h; exact h
          have w327 : I254 345 = I0 345 := ((funext fun j => hF254 345 j (dkNin_k rfl dkNin_nil)).trans rfl)
          have w328 : I254 340 6 = I0 340 6 := ((hF254 340 6 rfl).trans rfl)
          have w329 : I254 340 9 = dkTe (I0 345) (I0 340 6) (I0 340 9) := y258
          have y330 : I272 340 9 = dkTe (I0 345) (I0 340 6) (dkTe (I0 345) (I0 340 6) (I0 340 9)) := by have h := xh272_2; rw [w327, w328, w329] at h; exact h
          have y331 : I272 340 10 = dkTe (I0 345) (I0 340 6) (I0 340 9) := by have h := xh272_3; rw [w329] at h; exact h
          have y332 : I272 340 11 = dkTk (I0 345) (I0 340 6) (dkTe (I0 345) (I0 340 6) (I0 340 9)) := by have h := xh272_4; rw [w327, w328, w329] at h; exact h
          have y333 : I272 340 12 = dkTv (I0 345) (I0 340 6) (dkTe (I0 345) (I0 340 6) (I0 340 9)) := by have h := xh272_5; rw [w327, w328, w329] at h; exact h
          have xv272 : v272 = dkTv (I0 345) (I0 340 6) (I0 340 9) := by have h := xr272; rw [w321] at h; exact h
          refine lv_istore_n (lv' := [(3, .int v272), (2, .int v267), (1, .int v2), (0, .ref (z + 340))]) hx hb dX6_readsDog_70 rfl hl (by decide) rfl (fun ls hl => ?_)
          refine lv_aload_n hx hb dX6_readsDog_71 rfl (lv_at hl 3 rfl) ?_
          refine lv_aload_n hx hb dX6_readsDog_72 rfl (lv_at hl 3 rfl) ?_
          refine dk_get (k := 340) hx hb hts iX6_readsDog_6 hown hK (dk_at340 hW) rfl 11 (by decide) (hts (.fieldLink RX6 98 "DogKingsModel" "token" "I") (List.mem_of_getElem? (i := 3) rfl)) rfl dX6_readsDog_73 ?_
          refine lv_topi (fun v334 ev334 => ?_)
          have dv334 : dkN [(0, 5)] v334 := by rw [ev334]; exact f272_340_11
          have xv334 : v334 = dkTk (I0 345) (I0 340 6) (dkTe (I0 345) (I0 340 6) (I0 340 9)) := ev334.trans y332
          refine lv_iconst (v := 4) hx hb dX6_readsDog_76 (by decide) ?_
          refine lv_icmp_ne (tgt := 84) hx hb dX6_readsDog_77 (by decide) (fun c335 => ?_) (fun c335 => ?_)
          ·
            have q336 : (dkTk (I0 345) (I0 340 6) (dkTe (I0 345) (I0 340 6) (I0 340 9))).toInt ≠ (4 : Int) := by first | (rw [← xv334]; exact (dk_ne c335)) | (subst xv334; exact (dk_ne c335))
            have d337 : dkN [(0, 3), (5, 5)] v334 := dkN_ne1 (4) dv334 (dkN_lit (x := 4) (4) rfl) (dk_ne c335) rfl
            have f338 : dkN [(0, 3), (5, 5)] (I272 340 11) := by rw [← ev334]; exact d337
            refine lv_iconst (v := 0) hx hb dX6_readsDog_84 (by decide) ?_
            refine lv_iconst (v := 1) hx hb dX6_readsDog_85 (by decide) ?_
            refine dk_Vi (As := [.int 0, .int 1]) (rest := []) ⟨hx, hb, hml, hown, hts⟩ (fx_X6_takes_31 l g z I272 0 1 (dkN_lit (x := 0) (0) rfl) (dkN_lit (x := 1) (1) rfl) (show dkN [(-1, -1)] (I272 340 8) from dkN_sub f272_340_8 rfl) hO) (cwV 2 hts gX6_readsDog_X6_takes rfl rfl rfl (by decide +kernel) ⟨Nat.le_of_ble_eq_true rfl, Nat.le_of_ble_eq_true rfl⟩) (dk_at340 hW) rfl hK hT hW hS rfl hl.1 rfl (Nat.le_of_ble_eq_true rfl) dX6_readsDog_86 ⟨Nat.zero_le _, Nat.zero_le _⟩ (fun v339 I339 H339 L339 hp339 hW hS => ?_)
            obtain ⟨hF339, hO, hc339⟩ := hp339
            have hF := dkF_call hF hF339 rfl
            obtain ⟨dv339, f339_340_7, f339_340_8, x339_0, x339_1, xr339, xh339_0, xh339_1, xh339_2, xh339_3, xh339_4, xh339_5, -⟩ := hc339
            have w340 : I272 340 8 = I0 340 8 := y326
            have y341 : I339 340 7 = 1 := by have h := xh339_0; exact h
            have w342 : I272 340 10 = dkTe (I0 345) (I0 340 6) (I0 340 9) := y331
            have y343 : I339 340 8 = dkTe (I0 345) (I0 340 6) (I0 340 9) := by have h := xh339_1; rw [w342] at h; exact h
            have w344 : I272 340 9 = dkTe (I0 345) (I0 340 6) (dkTe (I0 345) (I0 340 6) (I0 340 9)) := y330
            have y345 : I339 340 9 = dkTe (I0 345) (I0 340 6) (dkTe (I0 345) (I0 340 6) (I0 340 9)) := by have h := xh339_2; rw [w344] at h; exact h
            have y346 : I339 340 10 = dkTe (I0 345) (I0 340 6) (I0 340 9) := by have h := xh339_3; rw [w342] at h; exact h
            have w347 : I272 340 11 = dkTk (I0 345) (I0 340 6) (dkTe (I0 345) (I0 340 6) (I0 340 9)) := y332
            have y348 : I339 340 11 = dkTk (I0 345) (I0 340 6) (dkTe (I0 345) (I0 340 6) (I0 340 9)) := by have h := xh339_4; rw [w347] at h; exact h
            have w349 : I272 340 12 = dkTv (I0 345) (I0 340 6) (dkTe (I0 345) (I0 340 6) (I0 340 9)) := y333
            have y350 : I339 340 12 = dkTv (I0 345) (I0 340 6) (dkTe (I0 345) (I0 340 6) (I0 340 9)) := by have h := xh339_5; rw [w349] at h; exact h
            have xv339 : v339 = 0 := by have h := xr339; exact h
            refine lv_pop hx hb dX6_readsDog_89 rfl ?_
            refine lv_aload_n hx hb dX6_readsDog_90 rfl (lv_at hl 3 rfl) ?_
            refine dk_Vi (As := []) (rest := []) ⟨hx, hb, hml, hown, hts⟩ (fx_X6_isWell_7 l g z I339 (show dkN [(0, 90)] (I339 340 8) from dkN_sub f339_340_8 rfl) hO) (cwV 0 hts gX6_readsDog_X6_isWell rfl rfl rfl (by decide +kernel) ⟨Nat.le_of_ble_eq_true rfl, Nat.le_of_ble_eq_true rfl⟩) (dk_at340 hW) rfl hK hT hW hS rfl hl.1 rfl (Nat.le_of_ble_eq_true rfl) dX6_readsDog_91 ⟨Nat.zero_le _, Nat.zero_le _⟩ (fun v351 I351 H351 L351 hp351 hW hS => ?_)
            obtain ⟨hF351, hO, hc351⟩ := hp351
            have hF := dkF_call hF hF351 rfl
            have eI351 : I339 = I351 := (dkF_nil hF351).symm
            subst eI351
            obtain ⟨dv351, f351_340_8, x351_0, xr351, -⟩ := hc351
            have w352 : I339 340 8 = dkTe (I0 345) (I0 340 6) (I0 340 9) := y343
            have q353 : (0 : Int) + 0 ≤ (dkTe (I0 345) (I0 340 6) (I0 340 9)).toInt := by have h := x351_0; rw [w352] at h; exact h
            have xv351 : v351 = 0 := by have h := xr351; exact h
            refine lv_if_eq (tgt := 132) hx hb dX6_readsDog_94 (by decide) (fun c354 => ?_) (fun c354 => ?_)
            ·
              have i0 : (0 : Int32).toInt = 0 := rfl
              have i1 : (1 : Int32).toInt = 1 := rfl
              have i2 : (2 : Int32).toInt = 2 := rfl
              have i3 : (3 : Int32).toInt = 3 := rfl
              have i9 : (9 : Int32).toInt = 9 := rfl
              have i30 : (30 : Int32).toInt = 30 := rfl
              have i44 : (44 : Int32).toInt = 44 := rfl
              have i59 : (59 : Int32).toInt = 59 := rfl
              have i109 : (109 : Int32).toInt = 109 := rfl
              have i116 : (116 : Int32).toInt = 116 := rfl
              have e355 : dkDo (I0 345) (I0 340 6) (I0 347 0) (I0 340 9) = (1, dkTe (I0 345) (I0 340 6) (I0 340 9)) := ((dkTh_p (dkK_0 (T := (I0 345)) (n := (I0 340 6)) (a := I0 340 9) (lo := 0) (hi := ((I0 347 0) - (1 : Int32))) q320 (by omega) (by omega))).trans (dkK_sn (T := (I0 345)) (n := (I0 340 6)) (a := dkTe (I0 345) (I0 340 6) (I0 340 9)) q336))
              exact W.vret hx hb hr (fun t ht hW9 => ⟨⟨I339, rfl, ⟨hF, hO, Or.inr (Or.inl ⟨(show dkN [(1, 2)] (I339 340 7) from dkN_sub (by rw [hF351 340 7 rfl]; exact f339_340_7) rfl), (show dkN [(0, 90)] (I339 340 8) from dkN_sub f351_340_8 rfl), (show dkN [(3, 9)] (I339 347 0) from dkN_sub (by rw [hF351 347 0 rfl]; exact (by rw [hF339 347 0 rfl]; exact (by rw [hF272 347 0 rfl]; exact (by rw [hF254 347 0 rfl]; exact (by rw [hF2 347 0 rfl]; exact np1))))) rfl), (show dkN [(0, 5)] (I339 347 5) from dkN_sub (by rw [hF351 347 5 rfl]; exact (by rw [hF339 347 5 rfl]; exact (by rw [hF272 347 5 rfl]; exact (by rw [hF254 347 5 rfl]; exact f253)))) rfl), (by omega), (dkE_k e355 (by decide)), (((show I339 340 7 = 1 from ((hF351 340 7 rfl).trans y341))).trans (dkP_1 e355).symm), (((show I339 340 8 = dkTe (I0 345) (I0 340 6) (I0 340 9) from ((hF351 340 8 rfl).trans y343))).trans (dkP_2 e355).symm), (show I339 347 0 = I0 347 0 from ((hF351 347 0 rfl).trans ((hF339 347 0 rfl).trans ((hF272 347 0 rfl).trans ((hF254 347 0 rfl).trans rfl))))), (show I339 347 4 = I0 347 4 from ((hF351 347 4 rfl).trans ((hF339 347 4 rfl).trans ((hF272 347 4 rfl).trans ((hF254 347 4 rfl).trans rfl))))), (show I339 347 5 = I0 347 5 from ((hF351 347 5 rfl).trans ((hF339 347 5 rfl).trans ((hF272 347 5 rfl).trans ((hF254 347 5 rfl).trans rfl))))), trivial⟩)⟩, dkW_eq ht hW⟩, hS.F ht⟩) hS.2.2 dX6_readsDog_132
            ·
              exact absurd ((xv351).trans (rfl).symm) c354
          ·
            have q356 : (dkTk (I0 345) (I0 340 6) (dkTe (I0 345) (I0 340 6) (I0 340 9))).toInt = (4 : Int) := by first | (rw [← xv334]; exact (congrArg Int32.toInt c335)) | (subst xv334; exact (congrArg Int32.toInt c335))
            have d357 : dkN [(4, 4)] v334 := dkN_eq1 dv334 (dkN_lit (x := 4) (4) rfl) (congrArg Int32.toInt c335) rfl
            have f358 : dkN [(4, 4)] (I272 340 11) := by rw [← ev334]; exact d357
            refine lv_iconst (v := 1) hx hb dX6_readsDog_80 (by decide) ?_
            refine lv_goto (tgt := 85) hx hb dX6_readsDog_81 (by decide) ?_
            refine lv_iconst (v := 1) hx hb dX6_readsDog_85 (by decide) ?_
            refine dk_Vi (As := [.int 1, .int 1]) (rest := []) ⟨hx, hb, hml, hown, hts⟩ (fx_X6_takes_38 l g z I272 1 1 (dkN_lit (x := 1) (1) rfl) (dkN_lit (x := 1) (1) rfl) (show dkN [(-1, -1)] (I272 340 8) from dkN_sub f272_340_8 rfl) hO) (cwV 2 hts gX6_readsDog_X6_takes rfl rfl rfl (by decide +kernel) ⟨Nat.le_of_ble_eq_true rfl, Nat.le_of_ble_eq_true rfl⟩) (dk_at340 hW) rfl hK hT hW hS rfl hl.1 rfl (Nat.le_of_ble_eq_true rfl) dX6_readsDog_86 ⟨Nat.zero_le _, Nat.zero_le _⟩ (fun v359 I359 H359 L359 hp359 hW hS => ?_)
            obtain ⟨hF359, hO, hc359⟩ := hp359
            have hF := dkF_call hF hF359 rfl
            obtain ⟨_, f359_340_11, f359_340_8, x359_0, x359_1, xr359, xh359_0, xh359_1, xh359_2, xh359_3, xh359_4, xh359_5, -⟩ := hc359
            have w360 : I272 340 8 = I0 340 8 := y326
            have w361 : I272 340 7 = I0 340 7 := y325
            have y362 : I359 340 7 = I0 340 7 := by have h := xh359_0; rw [w361] at h; exact h
            have y363 : I359 340 8 = I0 340 8 := by have h := xh359_1; rw [w360] at h; exact h
            have w364 : I272 345 = I0 345 := ((funext fun j => hF272 345 j (dkNin_k rfl dkNin_nil)).trans ((funext fun j => hF254 345 j (dkNin_k rfl dkNin_nil)).trans rfl))
            have w365 : I272 340 6 = I0 340 6 := ((hF272 340 6 rfl).trans ((hF254 340 6 rfl).trans rfl))
            have w366 : I272 340 9 = dkTe (I0 345) (I0 340 6) (dkTe (I0 345) (I0 340 6) (I0 340 9)) := y330
            have y367 : I359 340 9 = dkTe (I0 345) (I0 340 6) (dkTe (I0 345) (I0 340 6) (dkTe (I0 345) (I0 340 6) (I0 340 9))) := by have h := xh359_2; rw [w364, w365, w366] at h; exact h
            have y368 : I359 340 10 = dkTe (I0 345) (I0 340 6) (dkTe (I0 345) (I0 340 6) (I0 340 9)) := by have h := xh359_3; rw [w366] at h; exact h
            have y369 : I359 340 11 = dkTk (I0 345) (I0 340 6) (dkTe (I0 345) (I0 340 6) (dkTe (I0 345) (I0 340 6) (I0 340 9))) := by have h := xh359_4; rw [w364, w365, w366] at h; exact h
            have y370 : I359 340 12 = dkTv (I0 345) (I0 340 6) (dkTe (I0 345) (I0 340 6) (dkTe (I0 345) (I0 340 6) (I0 340 9))) := by have h := xh359_5; rw [w364, w365, w366] at h; exact h
            have w371 : I272 340 12 = dkTv (I0 345) (I0 340 6) (dkTe (I0 345) (I0 340 6) (I0 340 9)) := y333
            have xv359 : v359 = dkTv (I0 345) (I0 340 6) (dkTe (I0 345) (I0 340 6) (I0 340 9)) := by have h := xr359; rw [w371] at h; exact h
            refine lv_pop hx hb dX6_readsDog_89 rfl ?_
            refine lv_aload_n hx hb dX6_readsDog_90 rfl (lv_at hl 3 rfl) ?_
            refine dk_Vi (As := []) (rest := []) ⟨hx, hb, hml, hown, hts⟩ (fx_X6_isWell_6 l g z I359 (show dkN [(-1, -1)] (I359 340 8) from dkN_sub f359_340_8 rfl) hO) (cwV 0 hts gX6_readsDog_X6_isWell rfl rfl rfl (by decide +kernel) ⟨Nat.le_of_ble_eq_true rfl, Nat.le_of_ble_eq_true rfl⟩) (dk_at340 hW) rfl hK hT hW hS rfl hl.1 rfl (Nat.le_of_ble_eq_true rfl) dX6_readsDog_91 ⟨Nat.zero_le _, Nat.zero_le _⟩ (fun v372 I372 H372 L372 hp372 hW hS => ?_)
            obtain ⟨hF372, hO, hc372⟩ := hp372
            have hF := dkF_call hF hF372 rfl
            have eI372 : I359 = I372 := (dkF_nil hF372).symm
            subst eI372
            obtain ⟨dv372, f372_340_8, x372_0, xr372, -⟩ := hc372
            have w373 : I359 340 8 = I0 340 8 := y363
            have xv372 : v372 = 1 := by have h := xr372; exact h
            refine lv_if_eq (tgt := 132) hx hb dX6_readsDog_94 (by decide) (fun c374 => ?_) (fun c374 => ?_)
            ·
              exact (dkN_nil (show dkN [] v372 from dkN_eq1 dv372 (dkN_lit (x := 0) (0) rfl) (congrArg Int32.toInt c374) rfl)).elim
            ·
              refine lv_aload_n hx hb dX6_readsDog_97 rfl (lv_at hl 3 rfl) ?_
              refine dk_get (k := 340) hx hb hts iX6_readsDog_6 hown hK (dk_at340 hW) rfl 14 (by decide) (hts (.fieldLink RX6 28 "DogKingsModel" "draft" "[I") (List.mem_of_getElem? (i := 2) rfl)) rfl dX6_readsDog_98 ?_
              refine lv_iload_n hx hb dX6_readsDog_101 rfl (lv_at hl 1 rfl) ?_
              refine lv_iload_n hx hb dX6_readsDog_102 rfl (lv_at hl 2 rfl) ?_
              refine dk_ist (k := 347) hx hb hK hW (fun _ => rfl) (by decide) hS (dkN_in (n := 54) dv267 rfl) dX6_readsDog_103 (fun I375 H375 L375 eI375 hW hS => ?_)
              have hO := dkO_set hO eI375 (by rw [dkB_w (k := 347) (B := [(-2147483648, 2147483647)]) (by decide) dv267 rfl]; exact dkN_top _)
              have hF := dkF_set hF eI375 (dkIn_v dv267 rfl)
              refine lv_aload_n hx hb dX6_readsDog_104 rfl (lv_at hl 3 rfl) ?_
              refine dk_get (k := 340) hx hb hts iX6_readsDog_6 hown hK (dk_at340 hW) rfl 14 (by decide) (hts (.fieldLink RX6 28 "DogKingsModel" "draft" "[I") (List.mem_of_getElem? (i := 2) rfl)) rfl dX6_readsDog_105 ?_
              refine lv_iload_n hx hb dX6_readsDog_108 rfl (lv_at hl 1 rfl) ?_
              refine lv_iconst (v := 1) hx hb dX6_readsDog_109 (by decide) ?_
              refine lv_iadd hx hb dX6_readsDog_110 ?_
              refine lv_topi (fun v376 ev376 => ?_)
              have dv376 : dkN [(37, 37), (40, 40), (43, 43), (46, 46), (49, 49), (52, 52)] v376 := by rw [ev376]; exact dkN_add dv267 (dkN_lit (x := 1) (1) rfl) rfl
              have xv376 : v376 = ((36 : Int32) + ((3 : Int32) * (I0 347 5))) + (1 : Int32) := by rw [ev376, xv267]
              have q377 : (((36 : Int32) + ((3 : Int32) * (I0 347 5))) + (1 : Int32)).toInt = ((36 : Int32) + ((3 : Int32) * (I0 347 5))).toInt + (1 : Int) := by first | (rw [← xv376, ← xv267]; exact (by rw [ev376]; exact dk_addE dv267 (dkN_lit (x := 1) (1) rfl) rfl)) | (subst xv376 xv267; exact (by rw [ev376]; exact dk_addE dv267 (dkN_lit (x := 1) (1) rfl) rfl))
              refine lv_iload_n hx hb dX6_readsDog_111 rfl (lv_at hl 0 rfl) ?_
              refine dk_ist (k := 347) hx hb hK hW (fun _ => rfl) (by decide) hS (dkN_in (n := 54) dv376 rfl) dX6_readsDog_112 (fun I378 H378 L378 eI378 hW hS => ?_)
              have hO := dkO_set hO eI378 (by rw [dkB_w (k := 347) (B := [(-2147483648, 2147483647)]) (by decide) dv376 rfl]; exact dkN_top _)
              have hF := dkF_set hF eI378 (dkIn_v dv376 rfl)
              refine lv_aload_n hx hb dX6_readsDog_113 rfl (lv_at hl 3 rfl) ?_
              refine dk_get (k := 340) hx hb hts iX6_readsDog_6 hown hK (dk_at340 hW) rfl 14 (by decide) (hts (.fieldLink RX6 28 "DogKingsModel" "draft" "[I") (List.mem_of_getElem? (i := 2) rfl)) rfl dX6_readsDog_114 ?_
              refine lv_iload_n hx hb dX6_readsDog_117 rfl (lv_at hl 1 rfl) ?_
              refine lv_iconst (v := 2) hx hb dX6_readsDog_118 (by decide) ?_
              refine lv_iadd hx hb dX6_readsDog_119 ?_
              refine lv_topi (fun v379 ev379 => ?_)
              have dv379 : dkN [(38, 38), (41, 41), (44, 44), (47, 47), (50, 50), (53, 53)] v379 := by rw [ev379]; exact dkN_add dv267 (dkN_lit (x := 2) (2) rfl) rfl
              have xv379 : v379 = ((36 : Int32) + ((3 : Int32) * (I0 347 5))) + (2 : Int32) := by rw [ev379, xv267]
              have q380 : (((36 : Int32) + ((3 : Int32) * (I0 347 5))) + (2 : Int32)).toInt = ((36 : Int32) + ((3 : Int32) * (I0 347 5))).toInt + (2 : Int) := by first | (rw [← xv379, ← xv267]; exact (by rw [ev379]; exact dk_addE dv267 (dkN_lit (x := 2) (2) rfl) rfl)) | (subst xv379 xv267; exact (by rw [ev379]; exact dk_addE dv267 (dkN_lit (x := 2) (2) rfl) rfl))
              refine lv_iload_n hx hb dX6_readsDog_120 rfl (lv_at hl 0 rfl) ?_
              refine dk_ist (k := 347) hx hb hK hW (fun _ => rfl) (by decide) hS (dkN_in (n := 54) dv379 rfl) dX6_readsDog_121 (fun I381 H381 L381 eI381 hW hS => ?_)
              have hO := dkO_set hO eI381 (by rw [dkB_w (k := 347) (B := [(-2147483648, 2147483647)]) (by decide) dv379 rfl]; exact dkN_top _)
              have hF := dkF_set hF eI381 (dkIn_v dv379 rfl)
              refine lv_aload_n hx hb dX6_readsDog_122 rfl (lv_at hl 3 rfl) ?_
              refine dk_get (k := 340) hx hb hts iX6_readsDog_6 hown hK (dk_at340 hW) rfl 14 (by decide) (hts (.fieldLink RX6 28 "DogKingsModel" "draft" "[I") (List.mem_of_getElem? (i := 2) rfl)) rfl dX6_readsDog_123 ?_
              refine lv_iconst (v := 5) hx hb dX6_readsDog_126 (by decide) ?_
              refine lv_dup2_11 hx hb dX6_readsDog_127 rfl rfl ?_
              refine dk_ild (k := 347) hx hb hK (dk_at347 hW) (dkN_in (n := 54) (dkN_lit (x := 5) (5) rfl) rfl) dX6_readsDog_128 ?_
              refine lv_topi (fun v382 ev382 => ?_)
              have ev382 : v382 = I381 347 5 := ev382
              have dv382 : dkN [(0, 5)] v382 := by rw [ev382]; exact (show dkN [(0, 5)] (I381 347 5) from (by rw [eI381, dkU_sn (dkN_njx dv379 rfl)]; exact (by rw [eI378, dkU_sn (dkN_njx dv376 rfl)]; exact (by rw [eI375, dkU_sn (dkN_njx dv267 rfl)]; exact (by rw [hF372 347 5 rfl]; exact (by rw [hF359 347 5 rfl]; exact (by rw [hF272 347 5 rfl]; exact (by rw [hF254 347 5 rfl]; exact f253))))))))
              have xv382 : v382 = I0 347 5 := ev382.trans ((by rw [eI381, dkU_sn (dkN_njx dv379 rfl)] : I381 347 5 = _).trans ((by rw [eI378, dkU_sn (dkN_njx dv376 rfl)] : I378 347 5 = _).trans ((by rw [eI375, dkU_sn (dkN_njx dv267 rfl)] : I375 347 5 = _).trans ((hF372 347 5 rfl).trans ((hF359 347 5 rfl).trans ((hF272 347 5 rfl).trans ((hF254 347 5 rfl).trans rfl)))))))
              refine lv_iconst (v := 1) hx hb dX6_readsDog_129 (by decide) ?_
              refine lv_iadd hx hb dX6_readsDog_130 ?_
              refine lv_topi (fun v383 ev383 => ?_)
              have dv383 : dkN [(1, 6)] v383 := by rw [ev383]; exact dkN_add dv382 (dkN_lit (x := 1) (1) rfl) rfl
              have xv383 : v383 = (I0 347 5) + (1 : Int32) := by rw [ev383, xv382]
              have q384 : ((I0 347 5) + (1 : Int32)).toInt = (I0 347 5).toInt + (1 : Int) := by first | (rw [← xv383, ← xv382]; exact (by rw [ev383]; exact dk_addE dv382 (dkN_lit (x := 1) (1) rfl) rfl)) | (subst xv383 xv382; exact (by rw [ev383]; exact dk_addE dv382 (dkN_lit (x := 1) (1) rfl) rfl))
              refine dk_ist (k := 347) hx hb hK hW (fun _ => rfl) (by decide) hS (dkN_in (n := 54) (dkN_lit (x := 5) (5) rfl) rfl) dX6_readsDog_131 (fun I385 H385 L385 eI385 hW hS => ?_)
              have eI385 : I385 = dkU I381 347 5 v383 := eI385
              have hO := dkO_set hO eI385 (dkN_sub dv383 rfl)
              have hF := dkF_set hF eI385 rfl
              have i0 : (0 : Int32).toInt = 0 := rfl
              have i1 : (1 : Int32).toInt = 1 := rfl
              have i2 : (2 : Int32).toInt = 2 := rfl
              have i3 : (3 : Int32).toInt = 3 := rfl
              have i9 : (9 : Int32).toInt = 9 := rfl
              have i30 : (30 : Int32).toInt = 30 := rfl
              have i44 : (44 : Int32).toInt = 44 := rfl
              have i59 : (59 : Int32).toInt = 59 := rfl
              have i109 : (109 : Int32).toInt = 109 := rfl
              have i116 : (116 : Int32).toInt = 116 := rfl
              have e386 : dkDo (I0 345) (I0 340 6) (I0 347 0) (I0 340 9) = (0, dkTe (I0 345) (I0 340 6) (dkTe (I0 345) (I0 340 6) (I0 340 9))) := ((dkTh_p (dkK_0 (T := (I0 345)) (n := (I0 340 6)) (a := I0 340 9) (lo := 0) (hi := ((I0 347 0) - (1 : Int32))) q320 (by omega) (by omega))).trans (dkK_s (T := (I0 345)) (n := (I0 340 6)) (a := dkTe (I0 345) (I0 340 6) (I0 340 9)) q356))
              exact W.vret hx hb hr (fun t ht hW9 => ⟨⟨I385, rfl, ⟨hF, hO, Or.inr (Or.inr (⟨(show dkN [(0, 5)] (I385 340 11) from dkN_sub (by rw [eI385, dkU_n (by decide)]; exact (by rw [eI381, dkU_n (by decide)]; exact (by rw [eI378, dkU_n (by decide)]; exact (by rw [eI375, dkU_n (by decide)]; exact (by rw [hF372 340 11 rfl]; exact f359_340_11))))) rfl), (show dkN [(-1, -1)] (I385 340 8) from dkN_sub (by rw [eI385, dkU_n (by decide)]; exact (by rw [eI381, dkU_n (by decide)]; exact (by rw [eI378, dkU_n (by decide)]; exact (by rw [eI375, dkU_n (by decide)]; exact f372_340_8)))) rfl), (show dkN [(3, 9)] (I385 347 0) from dkN_sub (by rw [eI385, dkU_sn (by decide)]; exact (by rw [eI381, dkU_sn (dkN_njx dv379 rfl)]; exact (by rw [eI378, dkU_sn (dkN_njx dv376 rfl)]; exact (by rw [eI375, dkU_sn (dkN_njx dv267 rfl)]; exact (by rw [hF372 347 0 rfl]; exact (by rw [hF359 347 0 rfl]; exact (by rw [hF272 347 0 rfl]; exact (by rw [hF254 347 0 rfl]; exact (by rw [hF2 347 0 rfl]; exact np1))))))))) rfl), (show dkN [(1, 6)] (I385 347 5) from dkN_sub (by rw [eI385, dkU_ss]; exact dv383) rfl), (by omega), (dkP_1 e386), (show I385 340 7 = I0 340 7 from ((by rw [eI385, dkU_n (by decide)] : I385 340 7 = _).trans ((by rw [eI381, dkU_n (by decide)] : I381 340 7 = _).trans ((by rw [eI378, dkU_n (by decide)] : I378 340 7 = _).trans ((by rw [eI375, dkU_n (by decide)] : I375 340 7 = _).trans ((hF372 340 7 rfl).trans y362)))))), (show I385 340 8 = I0 340 8 from ((by rw [eI385, dkU_n (by decide)] : I385 340 8 = _).trans ((by rw [eI381, dkU_n (by decide)] : I381 340 8 = _).trans ((by rw [eI378, dkU_n (by decide)] : I378 340 8 = _).trans ((by rw [eI375, dkU_n (by decide)] : I375 340 8 = _).trans ((hF372 340 8 rfl).trans y363)))))), (((show I385 340 9 = dkTe (I0 345) (I0 340 6) (dkTe (I0 345) (I0 340 6) (dkTe (I0 345) (I0 340 6) (I0 340 9))) from ((by rw [eI385, dkU_n (by decide)] : I385 340 9 = _).trans ((by rw [eI381, dkU_n (by decide)] : I381 340 9 = _).trans ((by rw [eI378, dkU_n (by decide)] : I378 340 9 = _).trans ((by rw [eI375, dkU_n (by decide)] : I375 340 9 = _).trans ((hF372 340 9 rfl).trans y367))))))).trans (congrArg (dkTe (I0 345) (I0 340 6)) (dkP_2 e386).symm)), (((show I385 340 10 = dkTe (I0 345) (I0 340 6) (dkTe (I0 345) (I0 340 6) (I0 340 9)) from ((by rw [eI385, dkU_n (by decide)] : I385 340 10 = _).trans ((by rw [eI381, dkU_n (by decide)] : I381 340 10 = _).trans ((by rw [eI378, dkU_n (by decide)] : I378 340 10 = _).trans ((by rw [eI375, dkU_n (by decide)] : I375 340 10 = _).trans ((hF372 340 10 rfl).trans y368))))))).trans (dkP_2 e386).symm), (((show I385 340 11 = dkTk (I0 345) (I0 340 6) (dkTe (I0 345) (I0 340 6) (dkTe (I0 345) (I0 340 6) (I0 340 9))) from ((by rw [eI385, dkU_n (by decide)] : I385 340 11 = _).trans ((by rw [eI381, dkU_n (by decide)] : I381 340 11 = _).trans ((by rw [eI378, dkU_n (by decide)] : I378 340 11 = _).trans ((by rw [eI375, dkU_n (by decide)] : I375 340 11 = _).trans ((hF372 340 11 rfl).trans y369))))))).trans (congrArg (dkTk (I0 345) (I0 340 6)) (dkP_2 e386).symm)), (((show I385 340 12 = dkTv (I0 345) (I0 340 6) (dkTe (I0 345) (I0 340 6) (dkTe (I0 345) (I0 340 6) (I0 340 9))) from ((by rw [eI385, dkU_n (by decide)] : I385 340 12 = _).trans ((by rw [eI381, dkU_n (by decide)] : I381 340 12 = _).trans ((by rw [eI378, dkU_n (by decide)] : I378 340 12 = _).trans ((by rw [eI375, dkU_n (by decide)] : I375 340 12 = _).trans ((hF372 340 12 rfl).trans y370))))))).trans (congrArg (dkTv (I0 345) (I0 340 6)) (dkP_2 e386).symm)), (show I385 347 0 = I0 347 0 from ((by rw [eI385, dkU_sn (by decide)] : I385 347 0 = _).trans ((by rw [eI381, dkU_sn (dkN_njx dv379 rfl)] : I381 347 0 = _).trans ((by rw [eI378, dkU_sn (dkN_njx dv376 rfl)] : I378 347 0 = _).trans ((by rw [eI375, dkU_sn (dkN_njx dv267 rfl)] : I375 347 0 = _).trans ((hF372 347 0 rfl).trans ((hF359 347 0 rfl).trans ((hF272 347 0 rfl).trans ((hF254 347 0 rfl).trans rfl))))))))), (show I385 347 4 = I0 347 4 from ((by rw [eI385, dkU_sn (by decide)] : I385 347 4 = _).trans ((by rw [eI381, dkU_sn (dkN_njx dv379 rfl)] : I381 347 4 = _).trans ((by rw [eI378, dkU_sn (dkN_njx dv376 rfl)] : I378 347 4 = _).trans ((by rw [eI375, dkU_sn (dkN_njx dv267 rfl)] : I375 347 4 = _).trans ((hF372 347 4 rfl).trans ((hF359 347 4 rfl).trans ((hF272 347 4 rfl).trans ((hF254 347 4 rfl).trans rfl))))))))), (show I385 347 5 = (I0 347 5) + (1 : Int32) from (by rw [eI385, dkU_ss, xv383])), dk_incEq (by rw [eI385, dkU_ss, ev383] : I385 347 5 = v382 + 1) (ev382.trans ((by rw [eI381, dkU_sn (dkN_njx dv379 rfl)] : I381 347 5 = _).trans ((by rw [eI378, dkU_sn (dkN_njx dv376 rfl)] : I378 347 5 = _).trans ((by rw [eI375, dkU_sn (dkN_njx dv267 rfl)] : I375 347 5 = _).trans ((hF372 347 5 rfl).trans ((hF359 347 5 rfl).trans ((hF272 347 5 rfl).trans ((hF254 347 5 rfl).trans rfl)))))))), trivial⟩))⟩, dkW_eq ht hW⟩, hS.F ht⟩) hS.2.2 dX6_readsDog_132
        ·
          obtain ⟨dv272, f272_340_11, f272_340_7, f272_340_8, x272_0, x272_1, xr272, xh272_0, xh272_1, xh272_2, xh272_3, xh272_4, xh272_5, -⟩ := hc272
          have w387 : I254 340 8 = I0 340 8 := y257
          have w388 : I254 340 11 = dkTk (I0 345) (I0 340 6) (I0 340 9) := y260
          have q389 : (dkTk (I0 345) (I0 340 6) (I0 340 9)).toInt ≠ (2 : Int) := by have h := x272_1; rw [w388] at h; exact h
          have y390 : I272 340 7 = 1 := by have h := xh272_0; exact h
          have w391 : I254 340 10 = I0 340 9 := y259
          have y392 : I272 340 8 = I0 340 9 := by have h := xh272_1; rw [w391] at h; exact h
          have w393 : I254 340 9 = dkTe (I0 345) (I0 340 6) (I0 340 9) := y258
          have y394 : I272 340 9 = dkTe (I0 345) (I0 340 6) (I0 340 9) := by have h := xh272_2; rw [w393] at h; exact h
          have y395 : I272 340 10 = I0 340 9 := by have h := xh272_3; rw [w391] at h; exact h
          have y396 : I272 340 11 = dkTk (I0 345) (I0 340 6) (I0 340 9) := by have h := xh272_4; rw [w388] at h; exact h
          have w397 : I254 340 12 = dkTv (I0 345) (I0 340 6) (I0 340 9) := y261
          have y398 : I272 340 12 = dkTv (I0 345) (I0 340 6) (I0 340 9) := by have h := xh272_5; rw [w397] at h; exact h
          have xv272 : v272 = 0 := by have h := xr272; exact h
          refine lv_istore_n (lv' := [(3, .int v272), (2, .int v267), (1, .int v2), (0, .ref (z + 340))]) hx hb dX6_readsDog_70 rfl hl (by decide) rfl (fun ls hl => ?_)
          refine lv_aload_n hx hb dX6_readsDog_71 rfl (lv_at hl 3 rfl) ?_
          refine lv_aload_n hx hb dX6_readsDog_72 rfl (lv_at hl 3 rfl) ?_
          refine dk_get (k := 340) hx hb hts iX6_readsDog_6 hown hK (dk_at340 hW) rfl 11 (by decide) (hts (.fieldLink RX6 98 "DogKingsModel" "token" "I") (List.mem_of_getElem? (i := 3) rfl)) rfl dX6_readsDog_73 ?_
          refine lv_topi (fun v399 ev399 => ?_)
          have dv399 : dkN [(-2147483648, 1), (3, 2147483647)] v399 := by rw [ev399]; exact f272_340_11
          have xv399 : v399 = dkTk (I0 345) (I0 340 6) (I0 340 9) := ev399.trans y396
          refine lv_iconst (v := 4) hx hb dX6_readsDog_76 (by decide) ?_
          refine lv_icmp_ne (tgt := 84) hx hb dX6_readsDog_77 (by decide) (fun c400 => ?_) (fun c400 => ?_)
          ·
            have q401 : (dkTk (I0 345) (I0 340 6) (I0 340 9)).toInt ≠ (4 : Int) := by first | (rw [← xv399]; exact (dk_ne c400)) | (subst xv399; exact (dk_ne c400))
            have d402 : dkN [(-2147483648, 1), (3, 3), (5, 2147483647)] v399 := dkN_ne1 (4) dv399 (dkN_lit (x := 4) (4) rfl) (dk_ne c400) rfl
            have f403 : dkN [(-2147483648, 1), (3, 3), (5, 2147483647)] (I272 340 11) := by rw [← ev399]; exact d402
            refine lv_iconst (v := 0) hx hb dX6_readsDog_84 (by decide) ?_
            refine lv_iconst (v := 1) hx hb dX6_readsDog_85 (by decide) ?_
            refine dk_Vi (As := [.int 0, .int 1]) (rest := []) ⟨hx, hb, hml, hown, hts⟩ (h_X6_takes_0 l g z I272 0 1 (show dkN [(0, 90)] (I272 340 8) from dkN_sub f272_340_8 rfl) hO) (cwV 2 hts gX6_readsDog_X6_takes rfl rfl rfl (by decide +kernel) ⟨Nat.le_of_ble_eq_true rfl, Nat.le_of_ble_eq_true rfl⟩) (dk_at340 hW) rfl hK hT hW hS rfl hl.1 rfl (Nat.le_of_ble_eq_true rfl) dX6_readsDog_86 ⟨Nat.zero_le _, Nat.zero_le _⟩ (fun v404 I404 H404 L404 hp404 hW hS => ?_)
            obtain ⟨hF404, hO, hc404⟩ := hp404
            have hF := dkF_call hF hF404 rfl
            have eI404 : I272 = I404 := (dkF_nil hF404).symm
            subst eI404
            obtain ⟨dv404, xr404, -⟩ := hc404
            have xv404 : v404 = 0 := by have h := xr404; exact h
            refine lv_pop hx hb dX6_readsDog_89 rfl ?_
            refine lv_aload_n hx hb dX6_readsDog_90 rfl (lv_at hl 3 rfl) ?_
            refine dk_Vi (As := []) (rest := []) ⟨hx, hb, hml, hown, hts⟩ (fx_X6_isWell_7 l g z I272 (show dkN [(0, 90)] (I272 340 8) from dkN_sub (by rw [hF404 340 8 rfl]; exact f272_340_8) rfl) hO) (cwV 0 hts gX6_readsDog_X6_isWell rfl rfl rfl (by decide +kernel) ⟨Nat.le_of_ble_eq_true rfl, Nat.le_of_ble_eq_true rfl⟩) (dk_at340 hW) rfl hK hT hW hS rfl hl.1 rfl (Nat.le_of_ble_eq_true rfl) dX6_readsDog_91 ⟨Nat.zero_le _, Nat.zero_le _⟩ (fun v405 I405 H405 L405 hp405 hW hS => ?_)
            obtain ⟨hF405, hO, hc405⟩ := hp405
            have hF := dkF_call hF hF405 rfl
            have eI405 : I272 = I405 := (dkF_nil hF405).symm
            subst eI405
            obtain ⟨dv405, f405_340_8, x405_0, xr405, -⟩ := hc405
            have w406 : I272 340 8 = I0 340 9 := ((hF404 340 8 rfl).trans y392)
            have q407 : (0 : Int) + 0 ≤ (I0 340 9).toInt := by have h := x405_0; rw [w406] at h; exact h
            have xv405 : v405 = 0 := by have h := xr405; exact h
            refine lv_if_eq (tgt := 132) hx hb dX6_readsDog_94 (by decide) (fun c408 => ?_) (fun c408 => ?_)
            ·
              have i0 : (0 : Int32).toInt = 0 := rfl
              have i1 : (1 : Int32).toInt = 1 := rfl
              have i2 : (2 : Int32).toInt = 2 := rfl
              have i3 : (3 : Int32).toInt = 3 := rfl
              have i9 : (9 : Int32).toInt = 9 := rfl
              have i30 : (30 : Int32).toInt = 30 := rfl
              have i44 : (44 : Int32).toInt = 44 := rfl
              have i59 : (59 : Int32).toInt = 59 := rfl
              have i109 : (109 : Int32).toInt = 109 := rfl
              have i116 : (116 : Int32).toInt = 116 := rfl
              have e409 : dkDo (I0 345) (I0 340 6) (I0 347 0) (I0 340 9) = (1, I0 340 9) := (dkTh_q (dkK_1 (T := (I0 345)) (n := (I0 340 6)) (a := I0 340 9) (lo := 0) (hi := ((I0 347 0) - (1 : Int32))) q389) (by decide))
              exact W.vret hx hb hr (fun t ht hW9 => ⟨⟨I272, rfl, ⟨hF, hO, Or.inr (Or.inl ⟨(show dkN [(1, 2)] (I272 340 7) from dkN_sub (by rw [hF405 340 7 rfl]; exact (by rw [hF404 340 7 rfl]; exact f272_340_7)) rfl), (show dkN [(0, 90)] (I272 340 8) from dkN_sub f405_340_8 rfl), (show dkN [(3, 9)] (I272 347 0) from dkN_sub (by rw [hF405 347 0 rfl]; exact (by rw [hF404 347 0 rfl]; exact (by rw [hF272 347 0 rfl]; exact (by rw [hF254 347 0 rfl]; exact (by rw [hF2 347 0 rfl]; exact np1))))) rfl), (show dkN [(0, 5)] (I272 347 5) from dkN_sub (by rw [hF405 347 5 rfl]; exact (by rw [hF404 347 5 rfl]; exact (by rw [hF272 347 5 rfl]; exact (by rw [hF254 347 5 rfl]; exact f253)))) rfl), (by omega), (dkE_k e409 (by decide)), (((show I272 340 7 = 1 from ((hF405 340 7 rfl).trans ((hF404 340 7 rfl).trans y390)))).trans (dkP_1 e409).symm), (((show I272 340 8 = I0 340 9 from ((hF405 340 8 rfl).trans ((hF404 340 8 rfl).trans y392)))).trans (dkP_2 e409).symm), (show I272 347 0 = I0 347 0 from ((hF405 347 0 rfl).trans ((hF404 347 0 rfl).trans ((hF272 347 0 rfl).trans ((hF254 347 0 rfl).trans rfl))))), (show I272 347 4 = I0 347 4 from ((hF405 347 4 rfl).trans ((hF404 347 4 rfl).trans ((hF272 347 4 rfl).trans ((hF254 347 4 rfl).trans rfl))))), (show I272 347 5 = I0 347 5 from ((hF405 347 5 rfl).trans ((hF404 347 5 rfl).trans ((hF272 347 5 rfl).trans ((hF254 347 5 rfl).trans rfl))))), trivial⟩)⟩, dkW_eq ht hW⟩, hS.F ht⟩) hS.2.2 dX6_readsDog_132
            ·
              exact absurd ((xv405).trans (rfl).symm) c408
          ·
            have q410 : (dkTk (I0 345) (I0 340 6) (I0 340 9)).toInt = (4 : Int) := by first | (rw [← xv399]; exact (congrArg Int32.toInt c400)) | (subst xv399; exact (congrArg Int32.toInt c400))
            have d411 : dkN [(4, 4)] v399 := dkN_eq1 dv399 (dkN_lit (x := 4) (4) rfl) (congrArg Int32.toInt c400) rfl
            have f412 : dkN [(4, 4)] (I272 340 11) := by rw [← ev399]; exact d411
            refine lv_iconst (v := 1) hx hb dX6_readsDog_80 (by decide) ?_
            refine lv_goto (tgt := 85) hx hb dX6_readsDog_81 (by decide) ?_
            refine lv_iconst (v := 1) hx hb dX6_readsDog_85 (by decide) ?_
            refine dk_Vi (As := [.int 1, .int 1]) (rest := []) ⟨hx, hb, hml, hown, hts⟩ (h_X6_takes_0 l g z I272 1 1 (show dkN [(0, 90)] (I272 340 8) from dkN_sub f272_340_8 rfl) hO) (cwV 2 hts gX6_readsDog_X6_takes rfl rfl rfl (by decide +kernel) ⟨Nat.le_of_ble_eq_true rfl, Nat.le_of_ble_eq_true rfl⟩) (dk_at340 hW) rfl hK hT hW hS rfl hl.1 rfl (Nat.le_of_ble_eq_true rfl) dX6_readsDog_86 ⟨Nat.zero_le _, Nat.zero_le _⟩ (fun v413 I413 H413 L413 hp413 hW hS => ?_)
            obtain ⟨hF413, hO, hc413⟩ := hp413
            have hF := dkF_call hF hF413 rfl
            have eI413 : I272 = I413 := (dkF_nil hF413).symm
            subst eI413
            obtain ⟨dv413, xr413, -⟩ := hc413
            have xv413 : v413 = 0 := by have h := xr413; exact h
            refine lv_pop hx hb dX6_readsDog_89 rfl ?_
            refine lv_aload_n hx hb dX6_readsDog_90 rfl (lv_at hl 3 rfl) ?_
            refine dk_Vi (As := []) (rest := []) ⟨hx, hb, hml, hown, hts⟩ (fx_X6_isWell_7 l g z I272 (show dkN [(0, 90)] (I272 340 8) from dkN_sub (by rw [hF413 340 8 rfl]; exact f272_340_8) rfl) hO) (cwV 0 hts gX6_readsDog_X6_isWell rfl rfl rfl (by decide +kernel) ⟨Nat.le_of_ble_eq_true rfl, Nat.le_of_ble_eq_true rfl⟩) (dk_at340 hW) rfl hK hT hW hS rfl hl.1 rfl (Nat.le_of_ble_eq_true rfl) dX6_readsDog_91 ⟨Nat.zero_le _, Nat.zero_le _⟩ (fun v414 I414 H414 L414 hp414 hW hS => ?_)
            obtain ⟨hF414, hO, hc414⟩ := hp414
            have hF := dkF_call hF hF414 rfl
            have eI414 : I272 = I414 := (dkF_nil hF414).symm
            subst eI414
            obtain ⟨dv414, f414_340_8, x414_0, xr414, -⟩ := hc414
            have w415 : I272 340 8 = I0 340 9 := ((hF413 340 8 rfl).trans y392)
            have q416 : (0 : Int) + 0 ≤ (I0 340 9).toInt := by have h := x414_0; rw [w415] at h; exact h
            have xv414 : v414 = 0 := by have h := xr414; exact h
            refine lv_if_eq (tgt := 132) hx hb dX6_readsDog_94 (by decide) (fun c417 => ?_) (fun c417 => ?_)
            ·
              have i0 : (0 : Int32).toInt = 0 := rfl
              have i1 : (1 : Int32).toInt = 1 := rfl
              have i2 : (2 : Int32).toInt = 2 := rfl
              have i3 : (3 : Int32).toInt = 3 := rfl
              have i9 : (9 : Int32).toInt = 9 := rfl
              have i30 : (30 : Int32).toInt = 30 := rfl
              have i44 : (44 : Int32).toInt = 44 := rfl
              have i59 : (59 : Int32).toInt = 59 := rfl
              have i109 : (109 : Int32).toInt = 109 := rfl
              have i116 : (116 : Int32).toInt = 116 := rfl
              have e418 : dkDo (I0 345) (I0 340 6) (I0 347 0) (I0 340 9) = (1, I0 340 9) := (dkTh_q (dkK_1 (T := (I0 345)) (n := (I0 340 6)) (a := I0 340 9) (lo := 0) (hi := ((I0 347 0) - (1 : Int32))) q389) (by decide))
              exact W.vret hx hb hr (fun t ht hW9 => ⟨⟨I272, rfl, ⟨hF, hO, Or.inr (Or.inl ⟨(show dkN [(1, 2)] (I272 340 7) from dkN_sub (by rw [hF414 340 7 rfl]; exact (by rw [hF413 340 7 rfl]; exact f272_340_7)) rfl), (show dkN [(0, 90)] (I272 340 8) from dkN_sub f414_340_8 rfl), (show dkN [(3, 9)] (I272 347 0) from dkN_sub (by rw [hF414 347 0 rfl]; exact (by rw [hF413 347 0 rfl]; exact (by rw [hF272 347 0 rfl]; exact (by rw [hF254 347 0 rfl]; exact (by rw [hF2 347 0 rfl]; exact np1))))) rfl), (show dkN [(0, 5)] (I272 347 5) from dkN_sub (by rw [hF414 347 5 rfl]; exact (by rw [hF413 347 5 rfl]; exact (by rw [hF272 347 5 rfl]; exact (by rw [hF254 347 5 rfl]; exact f253)))) rfl), (by omega), (dkE_k e418 (by decide)), (((show I272 340 7 = 1 from ((hF414 340 7 rfl).trans ((hF413 340 7 rfl).trans y390)))).trans (dkP_1 e418).symm), (((show I272 340 8 = I0 340 9 from ((hF414 340 8 rfl).trans ((hF413 340 8 rfl).trans y392)))).trans (dkP_2 e418).symm), (show I272 347 0 = I0 347 0 from ((hF414 347 0 rfl).trans ((hF413 347 0 rfl).trans ((hF272 347 0 rfl).trans ((hF254 347 0 rfl).trans rfl))))), (show I272 347 4 = I0 347 4 from ((hF414 347 4 rfl).trans ((hF413 347 4 rfl).trans ((hF272 347 4 rfl).trans ((hF254 347 4 rfl).trans rfl))))), (show I272 347 5 = I0 347 5 from ((hF414 347 5 rfl).trans ((hF413 347 5 rfl).trans ((hF272 347 5 rfl).trans ((hF254 347 5 rfl).trans rfl))))), trivial⟩)⟩, dkW_eq ht hW⟩, hS.F ht⟩) hS.2.2 dX6_readsDog_132
            ·
              exact absurd ((xv414).trans (rfl).symm) c417
